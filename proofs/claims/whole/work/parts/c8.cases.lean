theorem dL_law_1650 : decode code 1650 = .ok (.aload_n 1, 1) := by decide +kernel
theorem dL_law_1651 : decode code 1651 = .ok (.aload_n 0, 1) := by decide +kernel
theorem dL_law_1652 : decode code 1652 = .ok (.iload 4, 2) := by decide +kernel
theorem dL_law_1654 : decode code 1654 = .ok (.iconst 1, 1) := by decide +kernel
theorem dL_law_1655 : decode code 1655 = .ok (.iadd, 1) := by decide +kernel
theorem dL_law_1656 : decode code 1656 = .ok (.iaload, 1) := by decide +kernel
theorem dL_law_1657 : decode code 1657 = .ok (.aload_n 0, 1) := by decide +kernel
theorem dL_law_1658 : decode code 1658 = .ok (.iload 4, 2) := by decide +kernel
theorem dL_law_1660 : decode code 1660 = .ok (.iconst 2, 1) := by decide +kernel
theorem dL_law_1661 : decode code 1661 = .ok (.iadd, 1) := by decide +kernel
theorem dL_law_1662 : decode code 1662 = .ok (.iaload, 1) := by decide +kernel
theorem dL_law_1663 : decode code 1663 = .ok (.aload_n 0, 1) := by decide +kernel
theorem dL_law_1664 : decode code 1664 = .ok (.iload 4, 2) := by decide +kernel
theorem dL_law_1666 : decode code 1666 = .ok (.iconst 3, 1) := by decide +kernel
theorem dL_law_1667 : decode code 1667 = .ok (.iadd, 1) := by decide +kernel
theorem dL_law_1668 : decode code 1668 = .ok (.iaload, 1) := by decide +kernel
theorem dL_law_1669 : decode code 1669 = .ok (.invokevirtual 187, 3) := by decide +kernel
theorem dL_law_1672 : decode code 1672 = .ok (.aload_n 2, 1) := by decide +kernel
theorem dL_law_1673 : decode code 1673 = .ok (.aload_n 0, 1) := by decide +kernel
theorem dL_law_1674 : decode code 1674 = .ok (.iload 4, 2) := by decide +kernel
theorem dL_law_1676 : decode code 1676 = .ok (.iconst 1, 1) := by decide +kernel
theorem dL_law_1677 : decode code 1677 = .ok (.iadd, 1) := by decide +kernel
theorem dL_law_1678 : decode code 1678 = .ok (.iaload, 1) := by decide +kernel
theorem dL_law_1679 : decode code 1679 = .ok (.aload_n 0, 1) := by decide +kernel
theorem dL_law_1680 : decode code 1680 = .ok (.iload 4, 2) := by decide +kernel
theorem dL_law_1682 : decode code 1682 = .ok (.iconst 2, 1) := by decide +kernel
theorem dL_law_1683 : decode code 1683 = .ok (.iadd, 1) := by decide +kernel
theorem dL_law_1684 : decode code 1684 = .ok (.iaload, 1) := by decide +kernel
theorem dL_law_1685 : decode code 1685 = .ok (.aload_n 0, 1) := by decide +kernel
theorem dL_law_1686 : decode code 1686 = .ok (.iload 4, 2) := by decide +kernel
theorem dL_law_1688 : decode code 1688 = .ok (.iconst 3, 1) := by decide +kernel
theorem dL_law_1689 : decode code 1689 = .ok (.iadd, 1) := by decide +kernel
theorem dL_law_1690 : decode code 1690 = .ok (.iaload, 1) := by decide +kernel
theorem dL_law_1691 : decode code 1691 = .ok (.invokevirtual 190, 3) := by decide +kernel
theorem dL_law_1694 : decode code 1694 = .ok (.if_icmp .eq 244, 3) := by decide +kernel
theorem hv_L_187 : a_okV RL M_X3_row 187 := ⟨a_in 698 (by decide +kernel) rfl, a_in 699 (by decide +kernel) rfl, a_in 700 (by decide +kernel) rfl⟩
theorem hv_L_190 : a_okV RL M_X4_row 190 := ⟨a_in 1410 (by decide +kernel) rfl, a_in 1411 (by decide +kernel) rfl, a_in 1412 (by decide +kernel) rfl⟩
theorem lc_row {K : lK} (h : K.Ok) {t u : Nat} (hf : t ≤ 601024 ∧ u ≤ 7293034) {w : aW} {X : aX} {Y : aY} (hI : Inv X Y) {a : Int32} (hin : ∀ v : Int32, v = 1 ∨ v = 2 ∨ v = 3 ∨ v = 4 ∨ v = 5 → vp_in (a + v) K.n) (next : ∀ (X' : aX) (Y' : aY), Inv X' Y' → Lw K t u 1938 (lL a) [] (Wd w X' Y')) : Lw K t u 1650 (lL a) [] (Wd w X Y) := by
  obtain ⟨r, w1, X', Y', hO, h3, h4, hI'⟩ := st_row hI w (K.xs (a + 1).toNatClampNeg) (K.xs (a + 2).toNatClampNeg) (K.xs (a + 3).toNatClampNeg)
  refine l_aload h dL_law_1650 rfl rfl ?_
  refine l_arg h dL_law_1651 dL_law_1652 dL_law_1654 dL_law_1655 dL_law_1656 kc_1 rfl rfl (hin 1 (by decide)) ?_
  refine l_arg h dL_law_1657 dL_law_1658 dL_law_1660 dL_law_1661 dL_law_1662 kc_2 rfl rfl (hin 2 (by decide)) ?_
  refine l_arg h dL_law_1663 dL_law_1664 dL_law_1666 dL_law_1667 dL_law_1668 kc_3 rfl rfl (hin 3 (by decide)) ?_
  refine l_call (rv' := rvI) (c0 := 2) (S := []) h hf rfl rfl ok_X3_row ⟨Nat.le_of_ble_eq_true rfl, Nat.le_of_ble_eq_true rfl⟩ hv_L_187 dL_law_1669 (l_obj w X Y) (s_X3_row 0 _ _ _ _) h3 rfl rfl (Nat.le_of_ble_eq_true rfl) ?_
  refine l_aload h dL_law_1672 rfl rfl ?_
  refine l_arg h dL_law_1673 dL_law_1674 dL_law_1676 dL_law_1677 dL_law_1678 kc_1 rfl rfl (hin 1 (by decide)) ?_
  refine l_arg h dL_law_1679 dL_law_1680 dL_law_1682 dL_law_1683 dL_law_1684 kc_2 rfl rfl (hin 2 (by decide)) ?_
  refine l_arg h dL_law_1685 dL_law_1686 dL_law_1688 dL_law_1689 dL_law_1690 kc_3 rfl rfl (hin 3 (by decide)) ?_
  refine l_call (rv' := rvI) (c0 := 3) (S := [.int r]) h hf rfl rfl ok_X4_row ⟨Nat.le_of_ble_eq_true rfl, Nat.le_of_ble_eq_true rfl⟩ hv_L_190 dL_law_1691 hO (s_X4_row 50 _ _ _ _) h4 rfl rfl (Nat.le_of_ble_eq_true rfl) ?_
  exact l_eq h dL_law_1694 (by decide) (next X' Y' hI')
theorem dL_law_1699 : decode code 1699 = .ok (.aload_n 1, 1) := by decide +kernel
theorem dL_law_1700 : decode code 1700 = .ok (.aload_n 0, 1) := by decide +kernel
theorem dL_law_1701 : decode code 1701 = .ok (.iload 4, 2) := by decide +kernel
theorem dL_law_1703 : decode code 1703 = .ok (.iconst 1, 1) := by decide +kernel
theorem dL_law_1704 : decode code 1704 = .ok (.iadd, 1) := by decide +kernel
theorem dL_law_1705 : decode code 1705 = .ok (.iaload, 1) := by decide +kernel
theorem dL_law_1706 : decode code 1706 = .ok (.aload_n 0, 1) := by decide +kernel
theorem dL_law_1707 : decode code 1707 = .ok (.iload 4, 2) := by decide +kernel
theorem dL_law_1709 : decode code 1709 = .ok (.iconst 2, 1) := by decide +kernel
theorem dL_law_1710 : decode code 1710 = .ok (.iadd, 1) := by decide +kernel
theorem dL_law_1711 : decode code 1711 = .ok (.iaload, 1) := by decide +kernel
theorem dL_law_1712 : decode code 1712 = .ok (.aload_n 0, 1) := by decide +kernel
theorem dL_law_1713 : decode code 1713 = .ok (.iload 4, 2) := by decide +kernel
theorem dL_law_1715 : decode code 1715 = .ok (.iconst 3, 1) := by decide +kernel
theorem dL_law_1716 : decode code 1716 = .ok (.iadd, 1) := by decide +kernel
theorem dL_law_1717 : decode code 1717 = .ok (.iaload, 1) := by decide +kernel
theorem dL_law_1718 : decode code 1718 = .ok (.invokevirtual 191, 3) := by decide +kernel
theorem dL_law_1721 : decode code 1721 = .ok (.aload_n 2, 1) := by decide +kernel
theorem dL_law_1722 : decode code 1722 = .ok (.aload_n 0, 1) := by decide +kernel
theorem dL_law_1723 : decode code 1723 = .ok (.iload 4, 2) := by decide +kernel
theorem dL_law_1725 : decode code 1725 = .ok (.iconst 1, 1) := by decide +kernel
theorem dL_law_1726 : decode code 1726 = .ok (.iadd, 1) := by decide +kernel
theorem dL_law_1727 : decode code 1727 = .ok (.iaload, 1) := by decide +kernel
theorem dL_law_1728 : decode code 1728 = .ok (.aload_n 0, 1) := by decide +kernel
theorem dL_law_1729 : decode code 1729 = .ok (.iload 4, 2) := by decide +kernel
theorem dL_law_1731 : decode code 1731 = .ok (.iconst 2, 1) := by decide +kernel
theorem dL_law_1732 : decode code 1732 = .ok (.iadd, 1) := by decide +kernel
theorem dL_law_1733 : decode code 1733 = .ok (.iaload, 1) := by decide +kernel
theorem dL_law_1734 : decode code 1734 = .ok (.aload_n 0, 1) := by decide +kernel
theorem dL_law_1735 : decode code 1735 = .ok (.iload 4, 2) := by decide +kernel
theorem dL_law_1737 : decode code 1737 = .ok (.iconst 3, 1) := by decide +kernel
theorem dL_law_1738 : decode code 1738 = .ok (.iadd, 1) := by decide +kernel
theorem dL_law_1739 : decode code 1739 = .ok (.iaload, 1) := by decide +kernel
theorem dL_law_1740 : decode code 1740 = .ok (.invokevirtual 194, 3) := by decide +kernel
theorem dL_law_1743 : decode code 1743 = .ok (.if_icmp .eq 195, 3) := by decide +kernel
theorem hv_L_191 : a_okV RL M_X3_put 191 := ⟨a_in 711 (by decide +kernel) rfl, a_in 712 (by decide +kernel) rfl, a_in 713 (by decide +kernel) rfl⟩
theorem hv_L_194 : a_okV RL M_X4_put 194 := ⟨a_in 1414 (by decide +kernel) rfl, a_in 1415 (by decide +kernel) rfl, a_in 1416 (by decide +kernel) rfl⟩
theorem lc_put {K : lK} (h : K.Ok) {t u : Nat} (hf : t ≤ 601024 ∧ u ≤ 7293034) {w : aW} {X : aX} {Y : aY} (hI : Inv X Y) {a : Int32} (hin : ∀ v : Int32, v = 1 ∨ v = 2 ∨ v = 3 ∨ v = 4 ∨ v = 5 → vp_in (a + v) K.n) (next : ∀ (X' : aX) (Y' : aY), Inv X' Y' → Lw K t u 1938 (lL a) [] (Wd w X' Y')) : Lw K t u 1699 (lL a) [] (Wd w X Y) := by
  obtain ⟨r, w1, X', Y', hO, h3, h4, hI'⟩ := st_put hI w (K.xs (a + 1).toNatClampNeg) (K.xs (a + 2).toNatClampNeg) (K.xs (a + 3).toNatClampNeg)
  refine l_aload h dL_law_1699 rfl rfl ?_
  refine l_arg h dL_law_1700 dL_law_1701 dL_law_1703 dL_law_1704 dL_law_1705 kc_1 rfl rfl (hin 1 (by decide)) ?_
  refine l_arg h dL_law_1706 dL_law_1707 dL_law_1709 dL_law_1710 dL_law_1711 kc_2 rfl rfl (hin 2 (by decide)) ?_
  refine l_arg h dL_law_1712 dL_law_1713 dL_law_1715 dL_law_1716 dL_law_1717 kc_3 rfl rfl (hin 3 (by decide)) ?_
  refine l_call (rv' := rvI) (c0 := 2) (S := []) h hf rfl rfl ok_X3_put ⟨Nat.le_of_ble_eq_true rfl, Nat.le_of_ble_eq_true rfl⟩ hv_L_191 dL_law_1718 (l_obj w X Y) (s_X3_put 0 _ _ _ _) h3 rfl rfl (Nat.le_of_ble_eq_true rfl) ?_
  refine l_aload h dL_law_1721 rfl rfl ?_
  refine l_arg h dL_law_1722 dL_law_1723 dL_law_1725 dL_law_1726 dL_law_1727 kc_1 rfl rfl (hin 1 (by decide)) ?_
  refine l_arg h dL_law_1728 dL_law_1729 dL_law_1731 dL_law_1732 dL_law_1733 kc_2 rfl rfl (hin 2 (by decide)) ?_
  refine l_arg h dL_law_1734 dL_law_1735 dL_law_1737 dL_law_1738 dL_law_1739 kc_3 rfl rfl (hin 3 (by decide)) ?_
  refine l_call (rv' := rvI) (c0 := 3) (S := [.int r]) h hf rfl rfl ok_X4_put ⟨Nat.le_of_ble_eq_true rfl, Nat.le_of_ble_eq_true rfl⟩ hv_L_194 dL_law_1740 hO (s_X4_put 50 _ _ _ _) h4 rfl rfl (Nat.le_of_ble_eq_true rfl) ?_
  exact l_eq h dL_law_1743 (by decide) (next X' Y' hI')
theorem dL_law_1815 : decode code 1815 = .ok (.aload_n 1, 1) := by decide +kernel
theorem dL_law_1816 : decode code 1816 = .ok (.aload_n 0, 1) := by decide +kernel
theorem dL_law_1817 : decode code 1817 = .ok (.iload 4, 2) := by decide +kernel
theorem dL_law_1819 : decode code 1819 = .ok (.iconst 1, 1) := by decide +kernel
theorem dL_law_1820 : decode code 1820 = .ok (.iadd, 1) := by decide +kernel
theorem dL_law_1821 : decode code 1821 = .ok (.iaload, 1) := by decide +kernel
theorem dL_law_1822 : decode code 1822 = .ok (.aload_n 0, 1) := by decide +kernel
theorem dL_law_1823 : decode code 1823 = .ok (.iload 4, 2) := by decide +kernel
theorem dL_law_1825 : decode code 1825 = .ok (.iconst 2, 1) := by decide +kernel
theorem dL_law_1826 : decode code 1826 = .ok (.iadd, 1) := by decide +kernel
theorem dL_law_1827 : decode code 1827 = .ok (.iaload, 1) := by decide +kernel
theorem dL_law_1828 : decode code 1828 = .ok (.aload_n 0, 1) := by decide +kernel
theorem dL_law_1829 : decode code 1829 = .ok (.iload 4, 2) := by decide +kernel
theorem dL_law_1831 : decode code 1831 = .ok (.iconst 3, 1) := by decide +kernel
theorem dL_law_1832 : decode code 1832 = .ok (.iadd, 1) := by decide +kernel
theorem dL_law_1833 : decode code 1833 = .ok (.iaload, 1) := by decide +kernel
theorem dL_law_1834 : decode code 1834 = .ok (.aload_n 0, 1) := by decide +kernel
theorem dL_law_1835 : decode code 1835 = .ok (.iload 4, 2) := by decide +kernel
theorem dL_law_1837 : decode code 1837 = .ok (.iconst 4, 1) := by decide +kernel
theorem dL_law_1838 : decode code 1838 = .ok (.iadd, 1) := by decide +kernel
theorem dL_law_1839 : decode code 1839 = .ok (.iaload, 1) := by decide +kernel
theorem dL_law_1840 : decode code 1840 = .ok (.aload_n 0, 1) := by decide +kernel
theorem dL_law_1841 : decode code 1841 = .ok (.iload 4, 2) := by decide +kernel
theorem dL_law_1843 : decode code 1843 = .ok (.iconst 5, 1) := by decide +kernel
theorem dL_law_1844 : decode code 1844 = .ok (.iadd, 1) := by decide +kernel
theorem dL_law_1845 : decode code 1845 = .ok (.iaload, 1) := by decide +kernel
theorem dL_law_1846 : decode code 1846 = .ok (.invokevirtual 204, 3) := by decide +kernel
theorem dL_law_1849 : decode code 1849 = .ok (.aload_n 2, 1) := by decide +kernel
theorem dL_law_1850 : decode code 1850 = .ok (.aload_n 0, 1) := by decide +kernel
theorem dL_law_1851 : decode code 1851 = .ok (.iload 4, 2) := by decide +kernel
theorem dL_law_1853 : decode code 1853 = .ok (.iconst 1, 1) := by decide +kernel
theorem dL_law_1854 : decode code 1854 = .ok (.iadd, 1) := by decide +kernel
theorem dL_law_1855 : decode code 1855 = .ok (.iaload, 1) := by decide +kernel
theorem dL_law_1856 : decode code 1856 = .ok (.aload_n 0, 1) := by decide +kernel
theorem dL_law_1857 : decode code 1857 = .ok (.iload 4, 2) := by decide +kernel
theorem dL_law_1859 : decode code 1859 = .ok (.iconst 2, 1) := by decide +kernel
theorem dL_law_1860 : decode code 1860 = .ok (.iadd, 1) := by decide +kernel
theorem dL_law_1861 : decode code 1861 = .ok (.iaload, 1) := by decide +kernel
theorem dL_law_1862 : decode code 1862 = .ok (.aload_n 0, 1) := by decide +kernel
theorem dL_law_1863 : decode code 1863 = .ok (.iload 4, 2) := by decide +kernel
theorem dL_law_1865 : decode code 1865 = .ok (.iconst 3, 1) := by decide +kernel
theorem dL_law_1866 : decode code 1866 = .ok (.iadd, 1) := by decide +kernel
theorem dL_law_1867 : decode code 1867 = .ok (.iaload, 1) := by decide +kernel
theorem dL_law_1868 : decode code 1868 = .ok (.aload_n 0, 1) := by decide +kernel
theorem dL_law_1869 : decode code 1869 = .ok (.iload 4, 2) := by decide +kernel
theorem dL_law_1871 : decode code 1871 = .ok (.iconst 4, 1) := by decide +kernel
theorem dL_law_1872 : decode code 1872 = .ok (.iadd, 1) := by decide +kernel
theorem dL_law_1873 : decode code 1873 = .ok (.iaload, 1) := by decide +kernel
theorem dL_law_1874 : decode code 1874 = .ok (.aload_n 0, 1) := by decide +kernel
theorem dL_law_1875 : decode code 1875 = .ok (.iload 4, 2) := by decide +kernel
theorem dL_law_1877 : decode code 1877 = .ok (.iconst 5, 1) := by decide +kernel
theorem dL_law_1878 : decode code 1878 = .ok (.iadd, 1) := by decide +kernel
theorem dL_law_1879 : decode code 1879 = .ok (.iaload, 1) := by decide +kernel
theorem dL_law_1880 : decode code 1880 = .ok (.invokevirtual 208, 3) := by decide +kernel
theorem dL_law_1883 : decode code 1883 = .ok (.if_icmp .eq 55, 3) := by decide +kernel
theorem hv_L_204 : a_okV RL M_X3_copy 204 := ⟨a_in 719 (by decide +kernel) rfl, a_in 720 (by decide +kernel) rfl, a_in 721 (by decide +kernel) rfl⟩
theorem hv_L_208 : a_okV RL M_X4_copy 208 := ⟨a_in 1425 (by decide +kernel) rfl, a_in 1426 (by decide +kernel) rfl, a_in 1427 (by decide +kernel) rfl⟩
theorem lc_copy {K : lK} (h : K.Ok) {t u : Nat} (hf : t ≤ 601024 ∧ u ≤ 7293034) {w : aW} {X : aX} {Y : aY} (hI : Inv X Y) {a : Int32} (hin : ∀ v : Int32, v = 1 ∨ v = 2 ∨ v = 3 ∨ v = 4 ∨ v = 5 → vp_in (a + v) K.n) (next : ∀ (X' : aX) (Y' : aY), Inv X' Y' → Lw K t u 1938 (lL a) [] (Wd w X' Y')) : Lw K t u 1815 (lL a) [] (Wd w X Y) := by
  obtain ⟨r, w1, X', Y', hO, h3, h4, hI'⟩ := st_copy hI w (K.xs (a + 1).toNatClampNeg) (K.xs (a + 2).toNatClampNeg) (K.xs (a + 3).toNatClampNeg) (K.xs (a + 4).toNatClampNeg) (K.xs (a + 5).toNatClampNeg)
  refine l_aload h dL_law_1815 rfl rfl ?_
  refine l_arg h dL_law_1816 dL_law_1817 dL_law_1819 dL_law_1820 dL_law_1821 kc_1 rfl rfl (hin 1 (by decide)) ?_
  refine l_arg h dL_law_1822 dL_law_1823 dL_law_1825 dL_law_1826 dL_law_1827 kc_2 rfl rfl (hin 2 (by decide)) ?_
  refine l_arg h dL_law_1828 dL_law_1829 dL_law_1831 dL_law_1832 dL_law_1833 kc_3 rfl rfl (hin 3 (by decide)) ?_
  refine l_arg h dL_law_1834 dL_law_1835 dL_law_1837 dL_law_1838 dL_law_1839 kc_4 rfl rfl (hin 4 (by decide)) ?_
  refine l_arg h dL_law_1840 dL_law_1841 dL_law_1843 dL_law_1844 dL_law_1845 kc_5 rfl rfl (hin 5 (by decide)) ?_
  refine l_call (rv' := rvI) (c0 := 2) (S := []) h hf rfl rfl ok_X3_copy ⟨Nat.le_of_ble_eq_true rfl, Nat.le_of_ble_eq_true rfl⟩ hv_L_204 dL_law_1846 (l_obj w X Y) (s_X3_copy 0 _ _ _ _ _ _) h3 rfl rfl (Nat.le_of_ble_eq_true rfl) ?_
  refine l_aload h dL_law_1849 rfl rfl ?_
  refine l_arg h dL_law_1850 dL_law_1851 dL_law_1853 dL_law_1854 dL_law_1855 kc_1 rfl rfl (hin 1 (by decide)) ?_
  refine l_arg h dL_law_1856 dL_law_1857 dL_law_1859 dL_law_1860 dL_law_1861 kc_2 rfl rfl (hin 2 (by decide)) ?_
  refine l_arg h dL_law_1862 dL_law_1863 dL_law_1865 dL_law_1866 dL_law_1867 kc_3 rfl rfl (hin 3 (by decide)) ?_
  refine l_arg h dL_law_1868 dL_law_1869 dL_law_1871 dL_law_1872 dL_law_1873 kc_4 rfl rfl (hin 4 (by decide)) ?_
  refine l_arg h dL_law_1874 dL_law_1875 dL_law_1877 dL_law_1878 dL_law_1879 kc_5 rfl rfl (hin 5 (by decide)) ?_
  refine l_call (rv' := rvI) (c0 := 3) (S := [.int r]) h hf rfl rfl ok_X4_copy ⟨Nat.le_of_ble_eq_true rfl, Nat.le_of_ble_eq_true rfl⟩ hv_L_208 dL_law_1880 hO (s_X4_copy 50 _ _ _ _ _ _) h4 rfl rfl (Nat.le_of_ble_eq_true rfl) ?_
  exact l_eq h dL_law_1883 (by decide) (next X' Y' hI')
theorem dL_law_1888 : decode code 1888 = .ok (.aload_n 1, 1) := by decide +kernel
theorem dL_law_1889 : decode code 1889 = .ok (.aload_n 0, 1) := by decide +kernel
theorem dL_law_1890 : decode code 1890 = .ok (.iload 4, 2) := by decide +kernel
theorem dL_law_1892 : decode code 1892 = .ok (.iconst 1, 1) := by decide +kernel
theorem dL_law_1893 : decode code 1893 = .ok (.iadd, 1) := by decide +kernel
theorem dL_law_1894 : decode code 1894 = .ok (.iaload, 1) := by decide +kernel
theorem dL_law_1895 : decode code 1895 = .ok (.invokevirtual 209, 3) := by decide +kernel
theorem dL_law_1898 : decode code 1898 = .ok (.aload_n 2, 1) := by decide +kernel
theorem dL_law_1899 : decode code 1899 = .ok (.aload_n 0, 1) := by decide +kernel
theorem dL_law_1900 : decode code 1900 = .ok (.iload 4, 2) := by decide +kernel
theorem dL_law_1902 : decode code 1902 = .ok (.iconst 1, 1) := by decide +kernel
theorem dL_law_1903 : decode code 1903 = .ok (.iadd, 1) := by decide +kernel
theorem dL_law_1904 : decode code 1904 = .ok (.iaload, 1) := by decide +kernel
theorem dL_law_1905 : decode code 1905 = .ok (.invokevirtual 212, 3) := by decide +kernel
theorem dL_law_1908 : decode code 1908 = .ok (.if_icmp .eq 30, 3) := by decide +kernel
theorem hv_L_209 : a_okV RL M_X3_cost 209 := ⟨a_in 728 (by decide +kernel) rfl, a_in 729 (by decide +kernel) rfl, a_in 730 (by decide +kernel) rfl⟩
theorem hv_L_212 : a_okV RL M_X4_cost 212 := ⟨a_in 1429 (by decide +kernel) rfl, a_in 1430 (by decide +kernel) rfl, a_in 1431 (by decide +kernel) rfl⟩
theorem lc_cost {K : lK} (h : K.Ok) {t u : Nat} (hf : t ≤ 601024 ∧ u ≤ 7293034) {w : aW} {X : aX} {Y : aY} (hI : Inv X Y) {a : Int32} (hin : ∀ v : Int32, v = 1 ∨ v = 2 ∨ v = 3 ∨ v = 4 ∨ v = 5 → vp_in (a + v) K.n) (next : ∀ (X' : aX) (Y' : aY), Inv X' Y' → Lw K t u 1938 (lL a) [] (Wd w X' Y')) : Lw K t u 1888 (lL a) [] (Wd w X Y) := by
  obtain ⟨r, w1, X', Y', hO, h3, h4, hI'⟩ := st_cost hI w (K.xs (a + 1).toNatClampNeg)
  refine l_aload h dL_law_1888 rfl rfl ?_
  refine l_arg h dL_law_1889 dL_law_1890 dL_law_1892 dL_law_1893 dL_law_1894 kc_1 rfl rfl (hin 1 (by decide)) ?_
  refine l_call (rv' := rvI) (c0 := 2) (S := []) h hf rfl rfl ok_X3_cost ⟨Nat.le_of_ble_eq_true rfl, Nat.le_of_ble_eq_true rfl⟩ hv_L_209 dL_law_1895 (l_obj w X Y) (s_X3_cost 0 _ _) h3 rfl rfl (Nat.le_of_ble_eq_true rfl) ?_
  refine l_aload h dL_law_1898 rfl rfl ?_
  refine l_arg h dL_law_1899 dL_law_1900 dL_law_1902 dL_law_1903 dL_law_1904 kc_1 rfl rfl (hin 1 (by decide)) ?_
  refine l_call (rv' := rvI) (c0 := 3) (S := [.int r]) h hf rfl rfl ok_X4_cost ⟨Nat.le_of_ble_eq_true rfl, Nat.le_of_ble_eq_true rfl⟩ hv_L_212 dL_law_1905 hO (s_X4_cost 50 _ _) h4 rfl rfl (Nat.le_of_ble_eq_true rfl) ?_
  exact l_eq h dL_law_1908 (by decide) (next X' Y' hI')
