theorem dL_law_1489 : decode code 1489 = .ok (.aload_n 1, 1) := by decide +kernel
theorem dL_law_1490 : decode code 1490 = .ok (.aload_n 0, 1) := by decide +kernel
theorem dL_law_1491 : decode code 1491 = .ok (.iload 4, 2) := by decide +kernel
theorem dL_law_1493 : decode code 1493 = .ok (.iconst 1, 1) := by decide +kernel
theorem dL_law_1494 : decode code 1494 = .ok (.iadd, 1) := by decide +kernel
theorem dL_law_1495 : decode code 1495 = .ok (.iaload, 1) := by decide +kernel
theorem dL_law_1496 : decode code 1496 = .ok (.aload_n 0, 1) := by decide +kernel
theorem dL_law_1497 : decode code 1497 = .ok (.iload 4, 2) := by decide +kernel
theorem dL_law_1499 : decode code 1499 = .ok (.iconst 2, 1) := by decide +kernel
theorem dL_law_1500 : decode code 1500 = .ok (.iadd, 1) := by decide +kernel
theorem dL_law_1501 : decode code 1501 = .ok (.iaload, 1) := by decide +kernel
theorem dL_law_1502 : decode code 1502 = .ok (.aload_n 0, 1) := by decide +kernel
theorem dL_law_1503 : decode code 1503 = .ok (.iload 4, 2) := by decide +kernel
theorem dL_law_1505 : decode code 1505 = .ok (.iconst 3, 1) := by decide +kernel
theorem dL_law_1506 : decode code 1506 = .ok (.iadd, 1) := by decide +kernel
theorem dL_law_1507 : decode code 1507 = .ok (.iaload, 1) := by decide +kernel
theorem dL_law_1508 : decode code 1508 = .ok (.invokevirtual 166, 3) := by decide +kernel
theorem dL_law_1511 : decode code 1511 = .ok (.aload_n 2, 1) := by decide +kernel
theorem dL_law_1512 : decode code 1512 = .ok (.aload_n 0, 1) := by decide +kernel
theorem dL_law_1513 : decode code 1513 = .ok (.iload 4, 2) := by decide +kernel
theorem dL_law_1515 : decode code 1515 = .ok (.iconst 1, 1) := by decide +kernel
theorem dL_law_1516 : decode code 1516 = .ok (.iadd, 1) := by decide +kernel
theorem dL_law_1517 : decode code 1517 = .ok (.iaload, 1) := by decide +kernel
theorem dL_law_1518 : decode code 1518 = .ok (.aload_n 0, 1) := by decide +kernel
theorem dL_law_1519 : decode code 1519 = .ok (.iload 4, 2) := by decide +kernel
theorem dL_law_1521 : decode code 1521 = .ok (.iconst 2, 1) := by decide +kernel
theorem dL_law_1522 : decode code 1522 = .ok (.iadd, 1) := by decide +kernel
theorem dL_law_1523 : decode code 1523 = .ok (.iaload, 1) := by decide +kernel
theorem dL_law_1524 : decode code 1524 = .ok (.aload_n 0, 1) := by decide +kernel
theorem dL_law_1525 : decode code 1525 = .ok (.iload 4, 2) := by decide +kernel
theorem dL_law_1527 : decode code 1527 = .ok (.iconst 3, 1) := by decide +kernel
theorem dL_law_1528 : decode code 1528 = .ok (.iadd, 1) := by decide +kernel
theorem dL_law_1529 : decode code 1529 = .ok (.iaload, 1) := by decide +kernel
theorem dL_law_1530 : decode code 1530 = .ok (.invokevirtual 169, 3) := by decide +kernel
theorem dL_law_1533 : decode code 1533 = .ok (.if_icmp .eq 405, 3) := by decide +kernel
theorem hv_L_166 : a_okV RL M_X3_mountains 166 := ⟨a_in 658 (by decide +kernel) rfl, a_in 659 (by decide +kernel) rfl, a_in 660 (by decide +kernel) rfl⟩
theorem hv_L_169 : a_okV RL M_X4_mountains 169 := ⟨a_in 1386 (by decide +kernel) rfl, a_in 1387 (by decide +kernel) rfl, a_in 1388 (by decide +kernel) rfl⟩
theorem lc_mountains {K : lK} (h : K.Ok) {t u : Nat} (hf : t ≤ 601024 ∧ u ≤ 7293034) {w : aW} {X : aX} {Y : aY} (hI : Inv X Y) {a : Int32} (hin : ∀ v : Int32, v = 1 ∨ v = 2 ∨ v = 3 ∨ v = 4 ∨ v = 5 → vp_in (a + v) K.n) (next : ∀ (X' : aX) (Y' : aY), Inv X' Y' → Lw K t u 1938 (lL a) [] (Wd w X' Y')) : Lw K t u 1489 (lL a) [] (Wd w X Y) := by
  obtain ⟨r, w1, X', Y', hO, h3, h4, hI'⟩ := st_mountains hI w (K.xs (a + 1).toNatClampNeg) (K.xs (a + 2).toNatClampNeg) (K.xs (a + 3).toNatClampNeg)
  refine l_aload h dL_law_1489 rfl rfl ?_
  refine l_arg h dL_law_1490 dL_law_1491 dL_law_1493 dL_law_1494 dL_law_1495 kc_1 rfl rfl (hin 1 (by decide)) ?_
  refine l_arg h dL_law_1496 dL_law_1497 dL_law_1499 dL_law_1500 dL_law_1501 kc_2 rfl rfl (hin 2 (by decide)) ?_
  refine l_arg h dL_law_1502 dL_law_1503 dL_law_1505 dL_law_1506 dL_law_1507 kc_3 rfl rfl (hin 3 (by decide)) ?_
  refine l_call (rv' := rvI) (c0 := 2) (S := []) h hf rfl rfl ok_X3_mountains ⟨Nat.le_of_ble_eq_true rfl, Nat.le_of_ble_eq_true rfl⟩ hv_L_166 dL_law_1508 (l_obj w X Y) (s_X3_mountains 0 _ _ _ _) h3 rfl rfl (Nat.le_of_ble_eq_true rfl) ?_
  refine l_aload h dL_law_1511 rfl rfl ?_
  refine l_arg h dL_law_1512 dL_law_1513 dL_law_1515 dL_law_1516 dL_law_1517 kc_1 rfl rfl (hin 1 (by decide)) ?_
  refine l_arg h dL_law_1518 dL_law_1519 dL_law_1521 dL_law_1522 dL_law_1523 kc_2 rfl rfl (hin 2 (by decide)) ?_
  refine l_arg h dL_law_1524 dL_law_1525 dL_law_1527 dL_law_1528 dL_law_1529 kc_3 rfl rfl (hin 3 (by decide)) ?_
  refine l_call (rv' := rvI) (c0 := 3) (S := [.int r]) h hf rfl rfl ok_X4_mountains ⟨Nat.le_of_ble_eq_true rfl, Nat.le_of_ble_eq_true rfl⟩ hv_L_169 dL_law_1530 hO (s_X4_mountains 50 _ _ _ _) h4 rfl rfl (Nat.le_of_ble_eq_true rfl) ?_
  exact l_eq h dL_law_1533 (by decide) (next X' Y' hI')
theorem dL_law_1538 : decode code 1538 = .ok (.aload_n 1, 1) := by decide +kernel
theorem dL_law_1539 : decode code 1539 = .ok (.invokevirtual 170, 3) := by decide +kernel
theorem dL_law_1542 : decode code 1542 = .ok (.aload_n 2, 1) := by decide +kernel
theorem dL_law_1543 : decode code 1543 = .ok (.invokevirtual 173, 3) := by decide +kernel
theorem dL_law_1546 : decode code 1546 = .ok (.if_icmp .eq 392, 3) := by decide +kernel
theorem hv_L_170 : a_okV RL M_X3_image 170 := ⟨a_in 672 (by decide +kernel) rfl, a_in 673 (by decide +kernel) rfl, a_in 674 (by decide +kernel) rfl⟩
theorem hv_L_173 : a_okV RL M_X4_image 173 := ⟨a_in 1129 (by decide +kernel) rfl, a_in 1130 (by decide +kernel) rfl, a_in 1131 (by decide +kernel) rfl⟩
theorem lc_image {K : lK} (h : K.Ok) {t u : Nat} (hf : t ≤ 601024 ∧ u ≤ 7293034) {w : aW} {X : aX} {Y : aY} (hI : Inv X Y) {a : Int32} (hin : ∀ v : Int32, v = 1 ∨ v = 2 ∨ v = 3 ∨ v = 4 ∨ v = 5 → vp_in (a + v) K.n) (next : ∀ (X' : aX) (Y' : aY), Inv X' Y' → Lw K t u 1938 (lL a) [] (Wd w X' Y')) : Lw K t u 1538 (lL a) [] (Wd w X Y) := by
  obtain ⟨r, w1, X', Y', hO, h3, h4, hI'⟩ := st_image hI w
  refine l_aload h dL_law_1538 rfl rfl ?_
  refine l_call (rv' := rvI) (c0 := 2) (S := []) h hf rfl rfl ok_X3_image ⟨Nat.le_of_ble_eq_true rfl, Nat.le_of_ble_eq_true rfl⟩ hv_L_170 dL_law_1539 (l_obj w X Y) (s_X3_image 0 _) h3 rfl rfl (Nat.le_of_ble_eq_true rfl) ?_
  refine l_aload h dL_law_1542 rfl rfl ?_
  refine l_call (rv' := rvI) (c0 := 3) (S := [.int r]) h hf rfl rfl ok_X4_image ⟨Nat.le_of_ble_eq_true rfl, Nat.le_of_ble_eq_true rfl⟩ hv_L_173 dL_law_1543 hO (s_X4_image 50 _) h4 rfl rfl (Nat.le_of_ble_eq_true rfl) ?_
  exact l_eq h dL_law_1546 (by decide) (next X' Y' hI')
theorem dL_law_1551 : decode code 1551 = .ok (.aload_n 1, 1) := by decide +kernel
theorem dL_law_1552 : decode code 1552 = .ok (.invokevirtual 174, 3) := by decide +kernel
theorem dL_law_1555 : decode code 1555 = .ok (.aload_n 2, 1) := by decide +kernel
theorem dL_law_1556 : decode code 1556 = .ok (.invokevirtual 177, 3) := by decide +kernel
theorem dL_law_1559 : decode code 1559 = .ok (.if_icmp .eq 379, 3) := by decide +kernel
theorem hv_L_174 : a_okV RL M_X3_restore 174 := ⟨a_in 676 (by decide +kernel) rfl, a_in 677 (by decide +kernel) rfl, a_in 678 (by decide +kernel) rfl⟩
theorem hv_L_177 : a_okV RL M_X4_restore 177 := ⟨a_in 1133 (by decide +kernel) rfl, a_in 1134 (by decide +kernel) rfl, a_in 1135 (by decide +kernel) rfl⟩
theorem lc_restore {K : lK} (h : K.Ok) {t u : Nat} (hf : t ≤ 601024 ∧ u ≤ 7293034) {w : aW} {X : aX} {Y : aY} (hI : Inv X Y) {a : Int32} (hin : ∀ v : Int32, v = 1 ∨ v = 2 ∨ v = 3 ∨ v = 4 ∨ v = 5 → vp_in (a + v) K.n) (next : ∀ (X' : aX) (Y' : aY), Inv X' Y' → Lw K t u 1938 (lL a) [] (Wd w X' Y')) : Lw K t u 1551 (lL a) [] (Wd w X Y) := by
  obtain ⟨r, w1, X', Y', hO, h3, h4, hI'⟩ := st_restore hI w
  refine l_aload h dL_law_1551 rfl rfl ?_
  refine l_call (rv' := rvI) (c0 := 2) (S := []) h hf rfl rfl ok_X3_restore ⟨Nat.le_of_ble_eq_true rfl, Nat.le_of_ble_eq_true rfl⟩ hv_L_174 dL_law_1552 (l_obj w X Y) (s_X3_restore 0 _) h3 rfl rfl (Nat.le_of_ble_eq_true rfl) ?_
  refine l_aload h dL_law_1555 rfl rfl ?_
  refine l_call (rv' := rvI) (c0 := 3) (S := [.int r]) h hf rfl rfl ok_X4_restore ⟨Nat.le_of_ble_eq_true rfl, Nat.le_of_ble_eq_true rfl⟩ hv_L_177 dL_law_1556 hO (s_X4_restore 50 _) h4 rfl rfl (Nat.le_of_ble_eq_true rfl) ?_
  exact l_eq h dL_law_1559 (by decide) (next X' Y' hI')
theorem dL_law_1564 : decode code 1564 = .ok (.aload_n 1, 1) := by decide +kernel
theorem dL_law_1565 : decode code 1565 = .ok (.aload_n 0, 1) := by decide +kernel
theorem dL_law_1566 : decode code 1566 = .ok (.iload 4, 2) := by decide +kernel
theorem dL_law_1568 : decode code 1568 = .ok (.iconst 1, 1) := by decide +kernel
theorem dL_law_1569 : decode code 1569 = .ok (.iadd, 1) := by decide +kernel
theorem dL_law_1570 : decode code 1570 = .ok (.iaload, 1) := by decide +kernel
theorem dL_law_1571 : decode code 1571 = .ok (.invokevirtual 178, 3) := by decide +kernel
theorem dL_law_1574 : decode code 1574 = .ok (.aload_n 2, 1) := by decide +kernel
theorem dL_law_1575 : decode code 1575 = .ok (.aload_n 0, 1) := by decide +kernel
theorem dL_law_1576 : decode code 1576 = .ok (.iload 4, 2) := by decide +kernel
theorem dL_law_1578 : decode code 1578 = .ok (.iconst 1, 1) := by decide +kernel
theorem dL_law_1579 : decode code 1579 = .ok (.iadd, 1) := by decide +kernel
theorem dL_law_1580 : decode code 1580 = .ok (.iaload, 1) := by decide +kernel
theorem dL_law_1581 : decode code 1581 = .ok (.invokevirtual 181, 3) := by decide +kernel
theorem dL_law_1584 : decode code 1584 = .ok (.if_icmp .eq 354, 3) := by decide +kernel
theorem hv_L_178 : a_okV RL M_X3_count 178 := ⟨a_in 680 (by decide +kernel) rfl, a_in 681 (by decide +kernel) rfl, a_in 682 (by decide +kernel) rfl⟩
theorem hv_L_181 : a_okV RL M_X4_count 181 := ⟨a_in 1401 (by decide +kernel) rfl, a_in 1402 (by decide +kernel) rfl, a_in 1403 (by decide +kernel) rfl⟩
theorem lc_count {K : lK} (h : K.Ok) {t u : Nat} (hf : t ≤ 601024 ∧ u ≤ 7293034) {w : aW} {X : aX} {Y : aY} (hI : Inv X Y) {a : Int32} (hin : ∀ v : Int32, v = 1 ∨ v = 2 ∨ v = 3 ∨ v = 4 ∨ v = 5 → vp_in (a + v) K.n) (next : ∀ (X' : aX) (Y' : aY), Inv X' Y' → Lw K t u 1938 (lL a) [] (Wd w X' Y')) : Lw K t u 1564 (lL a) [] (Wd w X Y) := by
  obtain ⟨r, w1, X', Y', hO, h3, h4, hI'⟩ := st_count hI w (K.xs (a + 1).toNatClampNeg)
  refine l_aload h dL_law_1564 rfl rfl ?_
  refine l_arg h dL_law_1565 dL_law_1566 dL_law_1568 dL_law_1569 dL_law_1570 kc_1 rfl rfl (hin 1 (by decide)) ?_
  refine l_call (rv' := rvI) (c0 := 2) (S := []) h hf rfl rfl ok_X3_count ⟨Nat.le_of_ble_eq_true rfl, Nat.le_of_ble_eq_true rfl⟩ hv_L_178 dL_law_1571 (l_obj w X Y) (s_X3_count 0 _ _) h3 rfl rfl (Nat.le_of_ble_eq_true rfl) ?_
  refine l_aload h dL_law_1574 rfl rfl ?_
  refine l_arg h dL_law_1575 dL_law_1576 dL_law_1578 dL_law_1579 dL_law_1580 kc_1 rfl rfl (hin 1 (by decide)) ?_
  refine l_call (rv' := rvI) (c0 := 3) (S := [.int r]) h hf rfl rfl ok_X4_count ⟨Nat.le_of_ble_eq_true rfl, Nat.le_of_ble_eq_true rfl⟩ hv_L_181 dL_law_1581 hO (s_X4_count 50 _ _) h4 rfl rfl (Nat.le_of_ble_eq_true rfl) ?_
  exact l_eq h dL_law_1584 (by decide) (next X' Y' hI')
theorem dL_law_1589 : decode code 1589 = .ok (.aload_n 1, 1) := by decide +kernel
theorem dL_law_1590 : decode code 1590 = .ok (.aload_n 0, 1) := by decide +kernel
theorem dL_law_1591 : decode code 1591 = .ok (.iload 4, 2) := by decide +kernel
theorem dL_law_1593 : decode code 1593 = .ok (.iconst 1, 1) := by decide +kernel
theorem dL_law_1594 : decode code 1594 = .ok (.iadd, 1) := by decide +kernel
theorem dL_law_1595 : decode code 1595 = .ok (.iaload, 1) := by decide +kernel
theorem dL_law_1596 : decode code 1596 = .ok (.aload_n 0, 1) := by decide +kernel
theorem dL_law_1597 : decode code 1597 = .ok (.iload 4, 2) := by decide +kernel
theorem dL_law_1599 : decode code 1599 = .ok (.iconst 2, 1) := by decide +kernel
theorem dL_law_1600 : decode code 1600 = .ok (.iadd, 1) := by decide +kernel
theorem dL_law_1601 : decode code 1601 = .ok (.iaload, 1) := by decide +kernel
theorem dL_law_1602 : decode code 1602 = .ok (.aload_n 0, 1) := by decide +kernel
theorem dL_law_1603 : decode code 1603 = .ok (.iload 4, 2) := by decide +kernel
theorem dL_law_1605 : decode code 1605 = .ok (.iconst 3, 1) := by decide +kernel
theorem dL_law_1606 : decode code 1606 = .ok (.iadd, 1) := by decide +kernel
theorem dL_law_1607 : decode code 1607 = .ok (.iaload, 1) := by decide +kernel
theorem dL_law_1608 : decode code 1608 = .ok (.aload_n 0, 1) := by decide +kernel
theorem dL_law_1609 : decode code 1609 = .ok (.iload 4, 2) := by decide +kernel
theorem dL_law_1611 : decode code 1611 = .ok (.iconst 4, 1) := by decide +kernel
theorem dL_law_1612 : decode code 1612 = .ok (.iadd, 1) := by decide +kernel
theorem dL_law_1613 : decode code 1613 = .ok (.iaload, 1) := by decide +kernel
theorem dL_law_1614 : decode code 1614 = .ok (.invokevirtual 182, 3) := by decide +kernel
theorem dL_law_1617 : decode code 1617 = .ok (.aload_n 2, 1) := by decide +kernel
theorem dL_law_1618 : decode code 1618 = .ok (.aload_n 0, 1) := by decide +kernel
theorem dL_law_1619 : decode code 1619 = .ok (.iload 4, 2) := by decide +kernel
theorem dL_law_1621 : decode code 1621 = .ok (.iconst 1, 1) := by decide +kernel
theorem dL_law_1622 : decode code 1622 = .ok (.iadd, 1) := by decide +kernel
theorem dL_law_1623 : decode code 1623 = .ok (.iaload, 1) := by decide +kernel
theorem dL_law_1624 : decode code 1624 = .ok (.aload_n 0, 1) := by decide +kernel
theorem dL_law_1625 : decode code 1625 = .ok (.iload 4, 2) := by decide +kernel
theorem dL_law_1627 : decode code 1627 = .ok (.iconst 2, 1) := by decide +kernel
theorem dL_law_1628 : decode code 1628 = .ok (.iadd, 1) := by decide +kernel
theorem dL_law_1629 : decode code 1629 = .ok (.iaload, 1) := by decide +kernel
theorem dL_law_1630 : decode code 1630 = .ok (.aload_n 0, 1) := by decide +kernel
theorem dL_law_1631 : decode code 1631 = .ok (.iload 4, 2) := by decide +kernel
theorem dL_law_1633 : decode code 1633 = .ok (.iconst 3, 1) := by decide +kernel
theorem dL_law_1634 : decode code 1634 = .ok (.iadd, 1) := by decide +kernel
theorem dL_law_1635 : decode code 1635 = .ok (.iaload, 1) := by decide +kernel
theorem dL_law_1636 : decode code 1636 = .ok (.aload_n 0, 1) := by decide +kernel
theorem dL_law_1637 : decode code 1637 = .ok (.iload 4, 2) := by decide +kernel
theorem dL_law_1639 : decode code 1639 = .ok (.iconst 4, 1) := by decide +kernel
theorem dL_law_1640 : decode code 1640 = .ok (.iadd, 1) := by decide +kernel
theorem dL_law_1641 : decode code 1641 = .ok (.iaload, 1) := by decide +kernel
theorem dL_law_1642 : decode code 1642 = .ok (.invokevirtual 186, 3) := by decide +kernel
theorem dL_law_1645 : decode code 1645 = .ok (.if_icmp .eq 293, 3) := by decide +kernel
theorem hv_L_182 : a_okV RL M_X3_keep 182 := ⟨a_in 684 (by decide +kernel) rfl, a_in 685 (by decide +kernel) rfl, a_in 686 (by decide +kernel) rfl⟩
theorem hv_L_186 : a_okV RL M_X4_keep 186 := ⟨a_in 1405 (by decide +kernel) rfl, a_in 1406 (by decide +kernel) rfl, a_in 1407 (by decide +kernel) rfl⟩
theorem lc_keep {K : lK} (h : K.Ok) {t u : Nat} (hf : t ≤ 601024 ∧ u ≤ 7293034) {w : aW} {X : aX} {Y : aY} (hI : Inv X Y) {a : Int32} (hin : ∀ v : Int32, v = 1 ∨ v = 2 ∨ v = 3 ∨ v = 4 ∨ v = 5 → vp_in (a + v) K.n) (next : ∀ (X' : aX) (Y' : aY), Inv X' Y' → Lw K t u 1938 (lL a) [] (Wd w X' Y')) : Lw K t u 1589 (lL a) [] (Wd w X Y) := by
  obtain ⟨r, w1, X', Y', hO, h3, h4, hI'⟩ := st_keep hI w (K.xs (a + 1).toNatClampNeg) (K.xs (a + 2).toNatClampNeg) (K.xs (a + 3).toNatClampNeg) (K.xs (a + 4).toNatClampNeg)
  refine l_aload h dL_law_1589 rfl rfl ?_
  refine l_arg h dL_law_1590 dL_law_1591 dL_law_1593 dL_law_1594 dL_law_1595 kc_1 rfl rfl (hin 1 (by decide)) ?_
  refine l_arg h dL_law_1596 dL_law_1597 dL_law_1599 dL_law_1600 dL_law_1601 kc_2 rfl rfl (hin 2 (by decide)) ?_
  refine l_arg h dL_law_1602 dL_law_1603 dL_law_1605 dL_law_1606 dL_law_1607 kc_3 rfl rfl (hin 3 (by decide)) ?_
  refine l_arg h dL_law_1608 dL_law_1609 dL_law_1611 dL_law_1612 dL_law_1613 kc_4 rfl rfl (hin 4 (by decide)) ?_
  refine l_call (rv' := rvI) (c0 := 2) (S := []) h hf rfl rfl ok_X3_keep ⟨Nat.le_of_ble_eq_true rfl, Nat.le_of_ble_eq_true rfl⟩ hv_L_182 dL_law_1614 (l_obj w X Y) (s_X3_keep 0 _ _ _ _ _) h3 rfl rfl (Nat.le_of_ble_eq_true rfl) ?_
  refine l_aload h dL_law_1617 rfl rfl ?_
  refine l_arg h dL_law_1618 dL_law_1619 dL_law_1621 dL_law_1622 dL_law_1623 kc_1 rfl rfl (hin 1 (by decide)) ?_
  refine l_arg h dL_law_1624 dL_law_1625 dL_law_1627 dL_law_1628 dL_law_1629 kc_2 rfl rfl (hin 2 (by decide)) ?_
  refine l_arg h dL_law_1630 dL_law_1631 dL_law_1633 dL_law_1634 dL_law_1635 kc_3 rfl rfl (hin 3 (by decide)) ?_
  refine l_arg h dL_law_1636 dL_law_1637 dL_law_1639 dL_law_1640 dL_law_1641 kc_4 rfl rfl (hin 4 (by decide)) ?_
  refine l_call (rv' := rvI) (c0 := 3) (S := [.int r]) h hf rfl rfl ok_X4_keep ⟨Nat.le_of_ble_eq_true rfl, Nat.le_of_ble_eq_true rfl⟩ hv_L_186 dL_law_1642 hO (s_X4_keep 50 _ _ _ _ _) h4 rfl rfl (Nat.le_of_ble_eq_true rfl) ?_
  exact l_eq h dL_law_1645 (by decide) (next X' Y' hI')
