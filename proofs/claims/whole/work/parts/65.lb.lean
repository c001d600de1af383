/-! ===== the law: more of its cases ===== -/
section LAW
variable {nm : String} {HT : List (Nat × Nat × Nat × Nat)} {LL : Nat} {xs : Nat → Int32} {i k k' pc idx : Nat} {w u : PW} {Lv : LV} {st stk : List Value}
theorem cs_cutOf (hi : i + 3 < LL) (hL : LL ≤ 2048) (hk : k + 24 ≤ 100000) (hS : SR w) (kN : KN nm HT LL xs i k) : Ev (mLw nm HT LL xs) pT nx k 1484 (L0 i) [] w := by
  obtain ⟨kk, rb, u, v, fo, c1, c2, c3, ⟨fs1, e1⟩, ⟨fs2, e2⟩, e3, e4, hS'⟩ := s_cutOf hS (xs (i + 1))
  refine ev_aload_n 1 dL_law_1484 rfl rfl ?_
  refine lw_rd 1 (by decide) hi hL dL_law_1485 dL_law_1486 dL_law_1488 rfl dL_law_1489 dL_law_1490 rfl rfl ?_
  refine ev_aload_n 3 dL_law_1491 rfl rfl ?_
  refine lw_cW (k' := k + 8) c1 kL_cutOf rfl g957 rfl (by omega) (by omega) rfl dL_law_1492 rfl ?_
  refine ev_istore dL_law_1495 (Nat.le_of_ble_eq_true rfl) (L' := (5, .int kk) :: L0 i) rfl ?_
  refine ev_aload_n 2 dL_law_1497 rfl rfl ?_
  refine lw_rd 1 (by decide) hi hL dL_law_1498 dL_law_1499 dL_law_1501 rfl dL_law_1502 dL_law_1503 rfl rfl ?_
  refine lw_cV (k' := k + 16) c2 kX4_cutOf rfl g1407 rfl (by omega) (by omega) rfl e1 rfl dL_law_1504 rfl ?_
  refine ev_istore dL_law_1507 (Nat.le_of_ble_eq_true rfl) (L' := (6, .int rb) :: (5, .int kk) :: L0 i) rfl ?_
  refine ev_aload_n 2 dL_law_1509 rfl rfl ?_
  refine lw_cV (k' := k + 24) c3 kX4_thrown rfl g1154 rfl (by omega) (by omega) rfl e2 rfl dL_law_1510 rfl ?_
  refine ev_iload dL_law_1513 rfl ?_
  refine ev_icmp_eq 1520 dL_law_1515 (by decide) (fun _ => ?_) (fun h => absurd rfl h)
  refine ev_iload dL_law_1520 rfl ?_
  refine ev_if_ne 1537 dL_law_1522 (by decide) (fun _ => ?_) (fun hz => ?_)
  · refine ev_goto 2923 dL_law_1537 (by decide) ?_
    exact ev_sub [2, 3, 4, 5, 6] rfl (kN _ hS')
  refine ev_aload_n 3 dL_law_1525 rfl rfl ?_
  refine ev_iconst (nI 0) dL_law_1526 rfl ?_
  refine ev_lld dL_law_1527 e3 ?_
  refine ev_iload dL_law_1528 rfl ?_
  refine ev_i2l dL_law_1530 ?_
  refine ev_lcmp dL_law_1531 ?_
  refine ev_if_eq 1537 dL_law_1532 (by decide) (fun _ => ?_) (fun h => absurd (lg_0 (e4 hz)) h)
  refine ev_goto 2923 dL_law_1537 (by decide) ?_
  exact ev_sub [2, 3, 4, 5, 6] rfl (kN _ hS')
theorem cs_pledgedOf (hi : i + 3 < LL) (hL : LL ≤ 2048) (hk : k + 24 ≤ 100000) (hS : SR w) (kN : KN nm HT LL xs i k) : Ev (mLw nm HT LL xs) pT nx k 1540 (L0 i) [] w := by
  obtain ⟨kk, rb, u, v, fo, c1, c2, c3, ⟨fs1, e1⟩, ⟨fs2, e2⟩, e3, e4, hS'⟩ := s_pledgedOf hS (xs (i + 1))
  refine ev_aload_n 1 dL_law_1540 rfl rfl ?_
  refine lw_rd 1 (by decide) hi hL dL_law_1541 dL_law_1542 dL_law_1544 rfl dL_law_1545 dL_law_1546 rfl rfl ?_
  refine ev_aload_n 3 dL_law_1547 rfl rfl ?_
  refine lw_cW (k' := k + 8) c1 kL_pledgedOf rfl g964 rfl (by omega) (by omega) rfl dL_law_1548 rfl ?_
  refine ev_istore dL_law_1551 (Nat.le_of_ble_eq_true rfl) (L' := (5, .int kk) :: L0 i) rfl ?_
  refine ev_aload_n 2 dL_law_1553 rfl rfl ?_
  refine lw_rd 1 (by decide) hi hL dL_law_1554 dL_law_1555 dL_law_1557 rfl dL_law_1558 dL_law_1559 rfl rfl ?_
  refine lw_cV (k' := k + 16) c2 kX4_pledgedOf rfl g1411 rfl (by omega) (by omega) rfl e1 rfl dL_law_1560 rfl ?_
  refine ev_istore dL_law_1563 (Nat.le_of_ble_eq_true rfl) (L' := (6, .int rb) :: (5, .int kk) :: L0 i) rfl ?_
  refine ev_aload_n 2 dL_law_1565 rfl rfl ?_
  refine lw_cV (k' := k + 24) c3 kX4_thrown rfl g1154 rfl (by omega) (by omega) rfl e2 rfl dL_law_1566 rfl ?_
  refine ev_iload dL_law_1569 rfl ?_
  refine ev_icmp_eq 1576 dL_law_1571 (by decide) (fun _ => ?_) (fun h => absurd rfl h)
  refine ev_iload dL_law_1576 rfl ?_
  refine ev_if_ne 1593 dL_law_1578 (by decide) (fun _ => ?_) (fun hz => ?_)
  · refine ev_goto 2923 dL_law_1593 (by decide) ?_
    exact ev_sub [2, 3, 4, 5, 6] rfl (kN _ hS')
  refine ev_aload_n 3 dL_law_1581 rfl rfl ?_
  refine ev_iconst (nI 0) dL_law_1582 rfl ?_
  refine ev_lld dL_law_1583 e3 ?_
  refine ev_iload dL_law_1584 rfl ?_
  refine ev_i2l dL_law_1586 ?_
  refine ev_lcmp dL_law_1587 ?_
  refine ev_if_eq 1593 dL_law_1588 (by decide) (fun _ => ?_) (fun h => absurd (lg_0 (e4 hz)) h)
  refine ev_goto 2923 dL_law_1593 (by decide) ?_
  exact ev_sub [2, 3, 4, 5, 6] rfl (kN _ hS')
theorem cs_soldOf (hi : i + 3 < LL) (hL : LL ≤ 2048) (hk : k + 24 ≤ 100000) (hS : SR w) (kN : KN nm HT LL xs i k) : Ev (mLw nm HT LL xs) pT nx k 1596 (L0 i) [] w := by
  obtain ⟨kk, rb, u, v, fo, c1, c2, c3, ⟨fs1, e1⟩, ⟨fs2, e2⟩, e3, e4, hS'⟩ := s_soldOf hS (xs (i + 1))
  refine ev_aload_n 1 dL_law_1596 rfl rfl ?_
  refine lw_rd 1 (by decide) hi hL dL_law_1597 dL_law_1598 dL_law_1600 rfl dL_law_1601 dL_law_1602 rfl rfl ?_
  refine ev_aload_n 3 dL_law_1603 rfl rfl ?_
  refine lw_cW (k' := k + 8) c1 kL_soldOf rfl g971 rfl (by omega) (by omega) rfl dL_law_1604 rfl ?_
  refine ev_istore dL_law_1607 (Nat.le_of_ble_eq_true rfl) (L' := (5, .int kk) :: L0 i) rfl ?_
  refine ev_aload_n 2 dL_law_1609 rfl rfl ?_
  refine lw_rd 1 (by decide) hi hL dL_law_1610 dL_law_1611 dL_law_1613 rfl dL_law_1614 dL_law_1615 rfl rfl ?_
  refine lw_cV (k' := k + 16) c2 kX4_soldOf rfl g1419 rfl (by omega) (by omega) rfl e1 rfl dL_law_1616 rfl ?_
  refine ev_istore dL_law_1619 (Nat.le_of_ble_eq_true rfl) (L' := (6, .int rb) :: (5, .int kk) :: L0 i) rfl ?_
  refine ev_aload_n 2 dL_law_1621 rfl rfl ?_
  refine lw_cV (k' := k + 24) c3 kX4_thrown rfl g1154 rfl (by omega) (by omega) rfl e2 rfl dL_law_1622 rfl ?_
  refine ev_iload dL_law_1625 rfl ?_
  refine ev_icmp_eq 1632 dL_law_1627 (by decide) (fun _ => ?_) (fun h => absurd rfl h)
  refine ev_iload dL_law_1632 rfl ?_
  refine ev_if_ne 1649 dL_law_1634 (by decide) (fun _ => ?_) (fun hz => ?_)
  · refine ev_goto 2923 dL_law_1649 (by decide) ?_
    exact ev_sub [2, 3, 4, 5, 6] rfl (kN _ hS')
  refine ev_aload_n 3 dL_law_1637 rfl rfl ?_
  refine ev_iconst (nI 0) dL_law_1638 rfl ?_
  refine ev_lld dL_law_1639 e3 ?_
  refine ev_iload dL_law_1640 rfl ?_
  refine ev_i2l dL_law_1642 ?_
  refine ev_lcmp dL_law_1643 ?_
  refine ev_if_eq 1649 dL_law_1644 (by decide) (fun _ => ?_) (fun h => absurd (lg_0 (e4 hz)) h)
  refine ev_goto 2923 dL_law_1649 (by decide) ?_
  exact ev_sub [2, 3, 4, 5, 6] rfl (kN _ hS')
theorem cs_piecesOf (hi : i + 3 < LL) (hL : LL ≤ 2048) (hk : k + 24 ≤ 100000) (hS : SR w) (kN : KN nm HT LL xs i k) : Ev (mLw nm HT LL xs) pT nx k 1652 (L0 i) [] w := by
  obtain ⟨kk, rb, u, v, fo, c1, c2, c3, ⟨fs1, e1⟩, ⟨fs2, e2⟩, e3, e4, hS'⟩ := s_piecesOf hS (xs (i + 1)) (xs (i + 2))
  refine ev_aload_n 1 dL_law_1652 rfl rfl ?_
  refine lw_rd 1 (by decide) hi hL dL_law_1653 dL_law_1654 dL_law_1656 rfl dL_law_1657 dL_law_1658 rfl rfl ?_
  refine lw_rd 2 (by decide) hi hL dL_law_1659 dL_law_1660 dL_law_1662 rfl dL_law_1663 dL_law_1664 rfl rfl ?_
  refine ev_aload_n 3 dL_law_1665 rfl rfl ?_
  refine lw_cW (k' := k + 8) c1 kL_piecesOf rfl g978 rfl (by omega) (by omega) rfl dL_law_1666 rfl ?_
  refine ev_istore dL_law_1669 (Nat.le_of_ble_eq_true rfl) (L' := (5, .int kk) :: L0 i) rfl ?_
  refine ev_aload_n 2 dL_law_1671 rfl rfl ?_
  refine lw_rd 1 (by decide) hi hL dL_law_1672 dL_law_1673 dL_law_1675 rfl dL_law_1676 dL_law_1677 rfl rfl ?_
  refine lw_rd 2 (by decide) hi hL dL_law_1678 dL_law_1679 dL_law_1681 rfl dL_law_1682 dL_law_1683 rfl rfl ?_
  refine lw_cV (k' := k + 16) c2 kX4_piecesOf rfl g1423 rfl (by omega) (by omega) rfl e1 rfl dL_law_1684 rfl ?_
  refine ev_istore dL_law_1687 (Nat.le_of_ble_eq_true rfl) (L' := (6, .int rb) :: (5, .int kk) :: L0 i) rfl ?_
  refine ev_aload_n 2 dL_law_1689 rfl rfl ?_
  refine lw_cV (k' := k + 24) c3 kX4_thrown rfl g1154 rfl (by omega) (by omega) rfl e2 rfl dL_law_1690 rfl ?_
  refine ev_iload dL_law_1693 rfl ?_
  refine ev_icmp_eq 1700 dL_law_1695 (by decide) (fun _ => ?_) (fun h => absurd rfl h)
  refine ev_iload dL_law_1700 rfl ?_
  refine ev_if_ne 1717 dL_law_1702 (by decide) (fun _ => ?_) (fun hz => ?_)
  · refine ev_goto 2923 dL_law_1717 (by decide) ?_
    exact ev_sub [2, 3, 4, 5, 6] rfl (kN _ hS')
  refine ev_aload_n 3 dL_law_1705 rfl rfl ?_
  refine ev_iconst (nI 0) dL_law_1706 rfl ?_
  refine ev_lld dL_law_1707 e3 ?_
  refine ev_iload dL_law_1708 rfl ?_
  refine ev_i2l dL_law_1710 ?_
  refine ev_lcmp dL_law_1711 ?_
  refine ev_if_eq 1717 dL_law_1712 (by decide) (fun _ => ?_) (fun h => absurd (lg_0 (e4 hz)) h)
  refine ev_goto 2923 dL_law_1717 (by decide) ?_
  exact ev_sub [2, 3, 4, 5, 6] rfl (kN _ hS')
theorem cs_coinsOf (hi : i + 3 < LL) (hL : LL ≤ 2048) (hk : k + 24 ≤ 100000) (hS : SR w) (kN : KN nm HT LL xs i k) : Ev (mLw nm HT LL xs) pT nx k 1720 (L0 i) [] w := by
  obtain ⟨kk, rb, u, v, fo, c1, c2, c3, ⟨fs1, e1⟩, ⟨fs2, e2⟩, e3, e4, hS'⟩ := s_coinsOf hS (xs (i + 1))
  refine ev_aload_n 1 dL_law_1720 rfl rfl ?_
  refine lw_rd 1 (by decide) hi hL dL_law_1721 dL_law_1722 dL_law_1724 rfl dL_law_1725 dL_law_1726 rfl rfl ?_
  refine ev_aload_n 3 dL_law_1727 rfl rfl ?_
  refine lw_cW (k' := k + 8) c1 kL_coinsOf rfl g985 rfl (by omega) (by omega) rfl dL_law_1728 rfl ?_
  refine ev_istore dL_law_1731 (Nat.le_of_ble_eq_true rfl) (L' := (5, .int kk) :: L0 i) rfl ?_
  refine ev_aload_n 2 dL_law_1733 rfl rfl ?_
  refine lw_rd 1 (by decide) hi hL dL_law_1734 dL_law_1735 dL_law_1737 rfl dL_law_1738 dL_law_1739 rfl rfl ?_
  refine lw_cV (k' := k + 16) c2 kX4_coinsOf rfl g1427 rfl (by omega) (by omega) rfl e1 rfl dL_law_1740 rfl ?_
  refine ev_istore dL_law_1743 (Nat.le_of_ble_eq_true rfl) (L' := (6, .int rb) :: (5, .int kk) :: L0 i) rfl ?_
  refine ev_aload_n 2 dL_law_1745 rfl rfl ?_
  refine lw_cV (k' := k + 24) c3 kX4_thrown rfl g1154 rfl (by omega) (by omega) rfl e2 rfl dL_law_1746 rfl ?_
  refine ev_iload dL_law_1749 rfl ?_
  refine ev_icmp_eq 1756 dL_law_1751 (by decide) (fun _ => ?_) (fun h => absurd rfl h)
  refine ev_iload dL_law_1756 rfl ?_
  refine ev_if_ne 1773 dL_law_1758 (by decide) (fun _ => ?_) (fun hz => ?_)
  · refine ev_goto 2923 dL_law_1773 (by decide) ?_
    exact ev_sub [2, 3, 4, 5, 6] rfl (kN _ hS')
  refine ev_aload_n 3 dL_law_1761 rfl rfl ?_
  refine ev_iconst (nI 0) dL_law_1762 rfl ?_
  refine ev_lld dL_law_1763 e3 ?_
  refine ev_iload dL_law_1764 rfl ?_
  refine ev_i2l dL_law_1766 ?_
  refine ev_lcmp dL_law_1767 ?_
  refine ev_if_eq 1773 dL_law_1768 (by decide) (fun _ => ?_) (fun h => absurd (lg_0 (e4 hz)) h)
  refine ev_goto 2923 dL_law_1773 (by decide) ?_
  exact ev_sub [2, 3, 4, 5, 6] rfl (kN _ hS')
theorem cs_debtOf (hi : i + 3 < LL) (hL : LL ≤ 2048) (hk : k + 24 ≤ 100000) (hS : SR w) (kN : KN nm HT LL xs i k) : Ev (mLw nm HT LL xs) pT nx k 1776 (L0 i) [] w := by
  obtain ⟨kk, rb, u, v, fo, c1, c2, c3, ⟨fs1, e1⟩, ⟨fs2, e2⟩, e3, e4, hS'⟩ := s_debtOf hS (xs (i + 1))
  refine ev_aload_n 1 dL_law_1776 rfl rfl ?_
  refine lw_rd 1 (by decide) hi hL dL_law_1777 dL_law_1778 dL_law_1780 rfl dL_law_1781 dL_law_1782 rfl rfl ?_
  refine ev_aload_n 3 dL_law_1783 rfl rfl ?_
  refine lw_cW (k' := k + 8) c1 kL_debtOf rfl g992 rfl (by omega) (by omega) rfl dL_law_1784 rfl ?_
  refine ev_istore dL_law_1787 (Nat.le_of_ble_eq_true rfl) (L' := (5, .int kk) :: L0 i) rfl ?_
  refine ev_aload_n 2 dL_law_1789 rfl rfl ?_
  refine lw_rd 1 (by decide) hi hL dL_law_1790 dL_law_1791 dL_law_1793 rfl dL_law_1794 dL_law_1795 rfl rfl ?_
  refine lw_cV (k' := k + 16) c2 kX4_debtOf rfl g1431 rfl (by omega) (by omega) rfl e1 rfl dL_law_1796 rfl ?_
  refine ev_istore dL_law_1799 (Nat.le_of_ble_eq_true rfl) (L' := (6, .int rb) :: (5, .int kk) :: L0 i) rfl ?_
  refine ev_aload_n 2 dL_law_1801 rfl rfl ?_
  refine lw_cV (k' := k + 24) c3 kX4_thrown rfl g1154 rfl (by omega) (by omega) rfl e2 rfl dL_law_1802 rfl ?_
  refine ev_iload dL_law_1805 rfl ?_
  refine ev_icmp_eq 1812 dL_law_1807 (by decide) (fun _ => ?_) (fun h => absurd rfl h)
  refine ev_iload dL_law_1812 rfl ?_
  refine ev_if_ne 1829 dL_law_1814 (by decide) (fun _ => ?_) (fun hz => ?_)
  · refine ev_goto 2923 dL_law_1829 (by decide) ?_
    exact ev_sub [2, 3, 4, 5, 6] rfl (kN _ hS')
  refine ev_aload_n 3 dL_law_1817 rfl rfl ?_
  refine ev_iconst (nI 0) dL_law_1818 rfl ?_
  refine ev_lld dL_law_1819 e3 ?_
  refine ev_iload dL_law_1820 rfl ?_
  refine ev_i2l dL_law_1822 ?_
  refine ev_lcmp dL_law_1823 ?_
  refine ev_if_eq 1829 dL_law_1824 (by decide) (fun _ => ?_) (fun h => absurd (lg_0 (e4 hz)) h)
  refine ev_goto 2923 dL_law_1829 (by decide) ?_
  exact ev_sub [2, 3, 4, 5, 6] rfl (kN _ hS')
theorem cs_worthOf (hi : i + 3 < LL) (hL : LL ≤ 2048) (hk : k + 24 ≤ 100000) (hS : SR w) (kN : KN nm HT LL xs i k) : Ev (mLw nm HT LL xs) pT nx k 1832 (L0 i) [] w := by
  obtain ⟨kk, rb, u, v, fo, c1, c2, c3, ⟨fs1, e1⟩, ⟨fs2, e2⟩, e3, e4, hS'⟩ := s_worthOf hS (xs (i + 1))
  refine ev_aload_n 1 dL_law_1832 rfl rfl ?_
  refine lw_rd 1 (by decide) hi hL dL_law_1833 dL_law_1834 dL_law_1836 rfl dL_law_1837 dL_law_1838 rfl rfl ?_
  refine ev_aload_n 3 dL_law_1839 rfl rfl ?_
  refine lw_cW (k' := k + 8) c1 kL_worthOf rfl g999 rfl (by omega) (by omega) rfl dL_law_1840 rfl ?_
  refine ev_istore dL_law_1843 (Nat.le_of_ble_eq_true rfl) (L' := (5, .int kk) :: L0 i) rfl ?_
  refine ev_aload_n 2 dL_law_1845 rfl rfl ?_
  refine lw_rd 1 (by decide) hi hL dL_law_1846 dL_law_1847 dL_law_1849 rfl dL_law_1850 dL_law_1851 rfl rfl ?_
  refine lw_cV (k' := k + 16) c2 kX4_worthOf rfl g1435 rfl (by omega) (by omega) rfl e1 rfl dL_law_1852 rfl ?_
  refine ev_istore dL_law_1855 (Nat.le_of_ble_eq_true rfl) (L' := (6, .int rb) :: (5, .int kk) :: L0 i) rfl ?_
  refine ev_aload_n 2 dL_law_1857 rfl rfl ?_
  refine lw_cV (k' := k + 24) c3 kX4_thrown rfl g1154 rfl (by omega) (by omega) rfl e2 rfl dL_law_1858 rfl ?_
  refine ev_iload dL_law_1861 rfl ?_
  refine ev_icmp_eq 1868 dL_law_1863 (by decide) (fun _ => ?_) (fun h => absurd rfl h)
  refine ev_iload dL_law_1868 rfl ?_
  refine ev_if_ne 1885 dL_law_1870 (by decide) (fun _ => ?_) (fun hz => ?_)
  · refine ev_goto 2923 dL_law_1885 (by decide) ?_
    exact ev_sub [2, 3, 4, 5, 6] rfl (kN _ hS')
  refine ev_aload_n 3 dL_law_1873 rfl rfl ?_
  refine ev_iconst (nI 0) dL_law_1874 rfl ?_
  refine ev_lld dL_law_1875 e3 ?_
  refine ev_iload dL_law_1876 rfl ?_
  refine ev_i2l dL_law_1878 ?_
  refine ev_lcmp dL_law_1879 ?_
  refine ev_if_eq 1885 dL_law_1880 (by decide) (fun _ => ?_) (fun h => absurd (lg_0 (e4 hz)) h)
  refine ev_goto 2923 dL_law_1885 (by decide) ?_
  exact ev_sub [2, 3, 4, 5, 6] rfl (kN _ hS')
theorem cs_coverOf (hi : i + 3 < LL) (hL : LL ≤ 2048) (hk : k + 24 ≤ 100000) (hS : SR w) (kN : KN nm HT LL xs i k) : Ev (mLw nm HT LL xs) pT nx k 1888 (L0 i) [] w := by
  obtain ⟨kk, rb, u, v, fo, c1, c2, c3, ⟨fs1, e1⟩, ⟨fs2, e2⟩, e3, e4, hS'⟩ := s_coverOf hS (xs (i + 1))
  refine ev_aload_n 1 dL_law_1888 rfl rfl ?_
  refine lw_rd 1 (by decide) hi hL dL_law_1889 dL_law_1890 dL_law_1892 rfl dL_law_1893 dL_law_1894 rfl rfl ?_
  refine ev_aload_n 3 dL_law_1895 rfl rfl ?_
  refine lw_cW (k' := k + 8) c1 kL_coverOf rfl g1006 rfl (by omega) (by omega) rfl dL_law_1896 rfl ?_
  refine ev_istore dL_law_1899 (Nat.le_of_ble_eq_true rfl) (L' := (5, .int kk) :: L0 i) rfl ?_
  refine ev_aload_n 2 dL_law_1901 rfl rfl ?_
  refine lw_rd 1 (by decide) hi hL dL_law_1902 dL_law_1903 dL_law_1905 rfl dL_law_1906 dL_law_1907 rfl rfl ?_
  refine lw_cV (k' := k + 16) c2 kX4_coverOf rfl g1443 rfl (by omega) (by omega) rfl e1 rfl dL_law_1908 rfl ?_
  refine ev_istore dL_law_1911 (Nat.le_of_ble_eq_true rfl) (L' := (6, .int rb) :: (5, .int kk) :: L0 i) rfl ?_
  refine ev_aload_n 2 dL_law_1913 rfl rfl ?_
  refine lw_cV (k' := k + 24) c3 kX4_thrown rfl g1154 rfl (by omega) (by omega) rfl e2 rfl dL_law_1914 rfl ?_
  refine ev_iload dL_law_1917 rfl ?_
  refine ev_icmp_eq 1924 dL_law_1919 (by decide) (fun _ => ?_) (fun h => absurd rfl h)
  refine ev_iload dL_law_1924 rfl ?_
  refine ev_if_ne 1941 dL_law_1926 (by decide) (fun _ => ?_) (fun hz => ?_)
  · refine ev_goto 2923 dL_law_1941 (by decide) ?_
    exact ev_sub [2, 3, 4, 5, 6] rfl (kN _ hS')
  refine ev_aload_n 3 dL_law_1929 rfl rfl ?_
  refine ev_iconst (nI 0) dL_law_1930 rfl ?_
  refine ev_lld dL_law_1931 e3 ?_
  refine ev_iload dL_law_1932 rfl ?_
  refine ev_i2l dL_law_1934 ?_
  refine ev_lcmp dL_law_1935 ?_
  refine ev_if_eq 1941 dL_law_1936 (by decide) (fun _ => ?_) (fun h => absurd (lg_0 (e4 hz)) h)
  refine ev_goto 2923 dL_law_1941 (by decide) ?_
  exact ev_sub [2, 3, 4, 5, 6] rfl (kN _ hS')
theorem cs_roomOf (hi : i + 3 < LL) (hL : LL ≤ 2048) (hk : k + 24 ≤ 100000) (hS : SR w) (kN : KN nm HT LL xs i k) : Ev (mLw nm HT LL xs) pT nx k 1944 (L0 i) [] w := by
  obtain ⟨kk, rb, u, v, fo, c1, c2, c3, ⟨fs1, e1⟩, ⟨fs2, e2⟩, e3, e4, hS'⟩ := s_roomOf hS (xs (i + 1))
  refine ev_aload_n 1 dL_law_1944 rfl rfl ?_
  refine lw_rd 1 (by decide) hi hL dL_law_1945 dL_law_1946 dL_law_1948 rfl dL_law_1949 dL_law_1950 rfl rfl ?_
  refine ev_aload_n 3 dL_law_1951 rfl rfl ?_
  refine lw_cW (k' := k + 8) c1 kL_roomOf rfl g1013 rfl (by omega) (by omega) rfl dL_law_1952 rfl ?_
  refine ev_istore dL_law_1955 (Nat.le_of_ble_eq_true rfl) (L' := (5, .int kk) :: L0 i) rfl ?_
  refine ev_aload_n 2 dL_law_1957 rfl rfl ?_
  refine lw_rd 1 (by decide) hi hL dL_law_1958 dL_law_1959 dL_law_1961 rfl dL_law_1962 dL_law_1963 rfl rfl ?_
  refine lw_cV (k' := k + 16) c2 kX4_roomOf rfl g1447 rfl (by omega) (by omega) rfl e1 rfl dL_law_1964 rfl ?_
  refine ev_istore dL_law_1967 (Nat.le_of_ble_eq_true rfl) (L' := (6, .int rb) :: (5, .int kk) :: L0 i) rfl ?_
  refine ev_aload_n 2 dL_law_1969 rfl rfl ?_
  refine lw_cV (k' := k + 24) c3 kX4_thrown rfl g1154 rfl (by omega) (by omega) rfl e2 rfl dL_law_1970 rfl ?_
  refine ev_iload dL_law_1973 rfl ?_
  refine ev_icmp_eq 1980 dL_law_1975 (by decide) (fun _ => ?_) (fun h => absurd rfl h)
  refine ev_iload dL_law_1980 rfl ?_
  refine ev_if_ne 1997 dL_law_1982 (by decide) (fun _ => ?_) (fun hz => ?_)
  · refine ev_goto 2923 dL_law_1997 (by decide) ?_
    exact ev_sub [2, 3, 4, 5, 6] rfl (kN _ hS')
  refine ev_aload_n 3 dL_law_1985 rfl rfl ?_
  refine ev_iconst (nI 0) dL_law_1986 rfl ?_
  refine ev_lld dL_law_1987 e3 ?_
  refine ev_iload dL_law_1988 rfl ?_
  refine ev_i2l dL_law_1990 ?_
  refine ev_lcmp dL_law_1991 ?_
  refine ev_if_eq 1997 dL_law_1992 (by decide) (fun _ => ?_) (fun h => absurd (lg_0 (e4 hz)) h)
  refine ev_goto 2923 dL_law_1997 (by decide) ?_
  exact ev_sub [2, 3, 4, 5, 6] rfl (kN _ hS')
theorem cs_isCalled (hi : i + 3 < LL) (hL : LL ≤ 2048) (hk : k + 24 ≤ 100000) (hS : SR w) (kN : KN nm HT LL xs i k) : Ev (mLw nm HT LL xs) pT nx k 2000 (L0 i) [] w := by
  obtain ⟨kk, rb, u, v, fo, c1, c2, c3, ⟨fs1, e1⟩, ⟨fs2, e2⟩, e3, e4, hS'⟩ := s_isCalled hS (xs (i + 1))
  refine ev_aload_n 1 dL_law_2000 rfl rfl ?_
  refine lw_rd 1 (by decide) hi hL dL_law_2001 dL_law_2002 dL_law_2004 rfl dL_law_2005 dL_law_2006 rfl rfl ?_
  refine ev_aload_n 3 dL_law_2007 rfl rfl ?_
  refine lw_cW (k' := k + 8) c1 kL_isCalled rfl g1020 rfl (by omega) (by omega) rfl dL_law_2008 rfl ?_
  refine ev_istore dL_law_2011 (Nat.le_of_ble_eq_true rfl) (L' := (5, .int kk) :: L0 i) rfl ?_
  refine ev_aload_n 2 dL_law_2013 rfl rfl ?_
  refine lw_rd 1 (by decide) hi hL dL_law_2014 dL_law_2015 dL_law_2017 rfl dL_law_2018 dL_law_2019 rfl rfl ?_
  refine lw_cV (k' := k + 16) c2 kX4_isCalled rfl g1455 rfl (by omega) (by omega) rfl e1 rfl dL_law_2020 rfl ?_
  refine ev_istore dL_law_2023 (Nat.le_of_ble_eq_true rfl) (L' := (6, .int rb) :: (5, .int kk) :: L0 i) rfl ?_
  refine ev_aload_n 2 dL_law_2025 rfl rfl ?_
  refine lw_cV (k' := k + 24) c3 kX4_thrown rfl g1154 rfl (by omega) (by omega) rfl e2 rfl dL_law_2026 rfl ?_
  refine ev_iload dL_law_2029 rfl ?_
  refine ev_icmp_eq 2036 dL_law_2031 (by decide) (fun _ => ?_) (fun h => absurd rfl h)
  refine ev_iload dL_law_2036 rfl ?_
  refine ev_if_ne 2060 dL_law_2038 (by decide) (fun _ => ?_) (fun hz => ?_)
  · refine ev_goto 2923 dL_law_2060 (by decide) ?_
    exact ev_sub [2, 3, 4, 5, 6] rfl (kN _ hS')
  refine ev_aload_n 3 dL_law_2041 rfl rfl ?_
  refine ev_iconst (nI 0) dL_law_2042 rfl ?_
  refine ev_lld dL_law_2043 e3 ?_
  refine ev_iload dL_law_2044 rfl ?_
  obtain ⟨hr, hf⟩ | ⟨hr, hf⟩ := e4 hz
  · subst hr
    refine ev_if_eq 2053 dL_law_2046 (by decide) (fun _ => ?_) (fun h => absurd rfl h)
    refine ev_lconst (lN 0) dL_law_2053 rfl ?_
    refine ev_lcmp dL_law_2054 ?_
    refine ev_if_eq 2060 dL_law_2055 (by decide) (fun _ => ?_) (fun h => absurd (lg_0 hf) h)
    refine ev_goto 2923 dL_law_2060 (by decide) ?_
    exact ev_sub [2, 3, 4, 5, 6] rfl (kN _ hS')
  · subst hr
    refine ev_if_eq 2053 dL_law_2046 (by decide) (fun h => absurd h (by decide)) (fun _ => ?_)
    refine ev_lconst (lN 1) dL_law_2049 rfl ?_
    refine ev_goto 2054 dL_law_2050 (by decide) ?_
    refine ev_lcmp dL_law_2054 ?_
    refine ev_if_eq 2060 dL_law_2055 (by decide) (fun _ => ?_) (fun h => absurd (lg_0 hf) h)
    refine ev_goto 2923 dL_law_2060 (by decide) ?_
    exact ev_sub [2, 3, 4, 5, 6] rfl (kN _ hS')
theorem cs_hoursLeft (hi : i + 3 < LL) (hL : LL ≤ 2048) (hk : k + 24 ≤ 100000) (hS : SR w) (kN : KN nm HT LL xs i k) : Ev (mLw nm HT LL xs) pT nx k 2063 (L0 i) [] w := by
  obtain ⟨kk, rb, u, v, fo, c1, c2, c3, ⟨fs1, e1⟩, ⟨fs2, e2⟩, e3, e4, hS'⟩ := s_hoursLeft hS (xs (i + 1))
  refine ev_aload_n 1 dL_law_2063 rfl rfl ?_
  refine lw_rd 1 (by decide) hi hL dL_law_2064 dL_law_2065 dL_law_2067 rfl dL_law_2068 dL_law_2069 rfl rfl ?_
  refine ev_aload_n 3 dL_law_2070 rfl rfl ?_
  refine lw_cW (k' := k + 8) c1 kL_hoursLeft rfl g1027 rfl (by omega) (by omega) rfl dL_law_2071 rfl ?_
  refine ev_istore dL_law_2074 (Nat.le_of_ble_eq_true rfl) (L' := (5, .int kk) :: L0 i) rfl ?_
  refine ev_aload_n 2 dL_law_2076 rfl rfl ?_
  refine lw_rd 1 (by decide) hi hL dL_law_2077 dL_law_2078 dL_law_2080 rfl dL_law_2081 dL_law_2082 rfl rfl ?_
  refine lw_cV (k' := k + 16) c2 kX4_hoursLeft rfl g1459 rfl (by omega) (by omega) rfl e1 rfl dL_law_2083 rfl ?_
  refine ev_istore dL_law_2086 (Nat.le_of_ble_eq_true rfl) (L' := (6, .int rb) :: (5, .int kk) :: L0 i) rfl ?_
  refine ev_aload_n 2 dL_law_2088 rfl rfl ?_
  refine lw_cV (k' := k + 24) c3 kX4_thrown rfl g1154 rfl (by omega) (by omega) rfl e2 rfl dL_law_2089 rfl ?_
  refine ev_iload dL_law_2092 rfl ?_
  refine ev_icmp_eq 2099 dL_law_2094 (by decide) (fun _ => ?_) (fun h => absurd rfl h)
  refine ev_iload dL_law_2099 rfl ?_
  refine ev_if_ne 2116 dL_law_2101 (by decide) (fun _ => ?_) (fun hz => ?_)
  · refine ev_goto 2923 dL_law_2116 (by decide) ?_
    exact ev_sub [2, 3, 4, 5, 6] rfl (kN _ hS')
  refine ev_aload_n 3 dL_law_2104 rfl rfl ?_
  refine ev_iconst (nI 0) dL_law_2105 rfl ?_
  refine ev_lld dL_law_2106 e3 ?_
  refine ev_iload dL_law_2107 rfl ?_
  refine ev_i2l dL_law_2109 ?_
  refine ev_lcmp dL_law_2110 ?_
  refine ev_if_eq 2116 dL_law_2111 (by decide) (fun _ => ?_) (fun h => absurd (lg_0 (e4 hz)) h)
  refine ev_goto 2923 dL_law_2116 (by decide) ?_
  exact ev_sub [2, 3, 4, 5, 6] rfl (kN _ hS')
theorem cs_isBarred (hi : i + 3 < LL) (hL : LL ≤ 2048) (hk : k + 24 ≤ 100000) (hS : SR w) (kN : KN nm HT LL xs i k) : Ev (mLw nm HT LL xs) pT nx k 2119 (L0 i) [] w := by
  obtain ⟨kk, rb, u, v, fo, c1, c2, c3, ⟨fs1, e1⟩, ⟨fs2, e2⟩, e3, e4, hS'⟩ := s_isBarred hS (xs (i + 1))
  refine ev_aload_n 1 dL_law_2119 rfl rfl ?_
  refine lw_rd 1 (by decide) hi hL dL_law_2120 dL_law_2121 dL_law_2123 rfl dL_law_2124 dL_law_2125 rfl rfl ?_
  refine ev_aload_n 3 dL_law_2126 rfl rfl ?_
  refine lw_cW (k' := k + 8) c1 kL_isBarred rfl g1034 rfl (by omega) (by omega) rfl dL_law_2127 rfl ?_
  refine ev_istore dL_law_2130 (Nat.le_of_ble_eq_true rfl) (L' := (5, .int kk) :: L0 i) rfl ?_
  refine ev_aload_n 2 dL_law_2132 rfl rfl ?_
  refine lw_rd 1 (by decide) hi hL dL_law_2133 dL_law_2134 dL_law_2136 rfl dL_law_2137 dL_law_2138 rfl rfl ?_
  refine lw_cV (k' := k + 16) c2 kX4_isBarred rfl g1463 rfl (by omega) (by omega) rfl e1 rfl dL_law_2139 rfl ?_
  refine ev_istore dL_law_2142 (Nat.le_of_ble_eq_true rfl) (L' := (6, .int rb) :: (5, .int kk) :: L0 i) rfl ?_
  refine ev_aload_n 2 dL_law_2144 rfl rfl ?_
  refine lw_cV (k' := k + 24) c3 kX4_thrown rfl g1154 rfl (by omega) (by omega) rfl e2 rfl dL_law_2145 rfl ?_
  refine ev_iload dL_law_2148 rfl ?_
  refine ev_icmp_eq 2155 dL_law_2150 (by decide) (fun _ => ?_) (fun h => absurd rfl h)
  refine ev_iload dL_law_2155 rfl ?_
  refine ev_if_ne 2179 dL_law_2157 (by decide) (fun _ => ?_) (fun hz => ?_)
  · refine ev_goto 2923 dL_law_2179 (by decide) ?_
    exact ev_sub [2, 3, 4, 5, 6] rfl (kN _ hS')
  refine ev_aload_n 3 dL_law_2160 rfl rfl ?_
  refine ev_iconst (nI 0) dL_law_2161 rfl ?_
  refine ev_lld dL_law_2162 e3 ?_
  refine ev_iload dL_law_2163 rfl ?_
  obtain ⟨hr, hf⟩ | ⟨hr, hf⟩ := e4 hz
  · subst hr
    refine ev_if_eq 2172 dL_law_2165 (by decide) (fun _ => ?_) (fun h => absurd rfl h)
    refine ev_lconst (lN 0) dL_law_2172 rfl ?_
    refine ev_lcmp dL_law_2173 ?_
    refine ev_if_eq 2179 dL_law_2174 (by decide) (fun _ => ?_) (fun h => absurd (lg_0 hf) h)
    refine ev_goto 2923 dL_law_2179 (by decide) ?_
    exact ev_sub [2, 3, 4, 5, 6] rfl (kN _ hS')
  · subst hr
    refine ev_if_eq 2172 dL_law_2165 (by decide) (fun h => absurd h (by decide)) (fun _ => ?_)
    refine ev_lconst (lN 1) dL_law_2168 rfl ?_
    refine ev_goto 2173 dL_law_2169 (by decide) ?_
    refine ev_lcmp dL_law_2173 ?_
    refine ev_if_eq 2179 dL_law_2174 (by decide) (fun _ => ?_) (fun h => absurd (lg_0 hf) h)
    refine ev_goto 2923 dL_law_2179 (by decide) ?_
    exact ev_sub [2, 3, 4, 5, 6] rfl (kN _ hS')
theorem cs_rankOf (hi : i + 3 < LL) (hL : LL ≤ 2048) (hk : k + 24 ≤ 100000) (hS : SR w) (kN : KN nm HT LL xs i k) : Ev (mLw nm HT LL xs) pT nx k 2182 (L0 i) [] w := by
  obtain ⟨kk, rb, u, v, fo, c1, c2, c3, ⟨fs1, e1⟩, ⟨fs2, e2⟩, e3, e4, hS'⟩ := s_rankOf hS (xs (i + 1))
  refine ev_aload_n 1 dL_law_2182 rfl rfl ?_
  refine lw_rd 1 (by decide) hi hL dL_law_2183 dL_law_2184 dL_law_2186 rfl dL_law_2187 dL_law_2188 rfl rfl ?_
  refine ev_aload_n 3 dL_law_2189 rfl rfl ?_
  refine lw_cW (k' := k + 8) c1 kL_rankOf rfl g1041 rfl (by omega) (by omega) rfl dL_law_2190 rfl ?_
  refine ev_istore dL_law_2193 (Nat.le_of_ble_eq_true rfl) (L' := (5, .int kk) :: L0 i) rfl ?_
  refine ev_aload_n 2 dL_law_2195 rfl rfl ?_
  refine lw_rd 1 (by decide) hi hL dL_law_2196 dL_law_2197 dL_law_2199 rfl dL_law_2200 dL_law_2201 rfl rfl ?_
  refine lw_cV (k' := k + 16) c2 kX4_rankOf rfl g1467 rfl (by omega) (by omega) rfl e1 rfl dL_law_2202 rfl ?_
  refine ev_istore dL_law_2205 (Nat.le_of_ble_eq_true rfl) (L' := (6, .int rb) :: (5, .int kk) :: L0 i) rfl ?_
  refine ev_aload_n 2 dL_law_2207 rfl rfl ?_
  refine lw_cV (k' := k + 24) c3 kX4_thrown rfl g1154 rfl (by omega) (by omega) rfl e2 rfl dL_law_2208 rfl ?_
  refine ev_iload dL_law_2211 rfl ?_
  refine ev_icmp_eq 2218 dL_law_2213 (by decide) (fun _ => ?_) (fun h => absurd rfl h)
  refine ev_iload dL_law_2218 rfl ?_
  refine ev_if_ne 2235 dL_law_2220 (by decide) (fun _ => ?_) (fun hz => ?_)
  · refine ev_goto 2923 dL_law_2235 (by decide) ?_
    exact ev_sub [2, 3, 4, 5, 6] rfl (kN _ hS')
  refine ev_aload_n 3 dL_law_2223 rfl rfl ?_
  refine ev_iconst (nI 0) dL_law_2224 rfl ?_
  refine ev_lld dL_law_2225 e3 ?_
  refine ev_iload dL_law_2226 rfl ?_
  refine ev_i2l dL_law_2228 ?_
  refine ev_lcmp dL_law_2229 ?_
  refine ev_if_eq 2235 dL_law_2230 (by decide) (fun _ => ?_) (fun h => absurd (lg_0 (e4 hz)) h)
  refine ev_goto 2923 dL_law_2235 (by decide) ?_
  exact ev_sub [2, 3, 4, 5, 6] rfl (kN _ hS')
theorem cs_riskyBySorting (hi : i + 3 < LL) (hL : LL ≤ 2048) (hk : k + 24 ≤ 100000) (hS : SR w) (kN : KN nm HT LL xs i k) : Ev (mLw nm HT LL xs) pT nx k 2238 (L0 i) [] w := by
  obtain ⟨kk, rb, u, v, fo, c1, c2, c3, ⟨fs1, e1⟩, ⟨fs2, e2⟩, e3, e4, hS'⟩ := s_riskyBySorting hS (xs (i + 1))
  refine ev_aload_n 1 dL_law_2238 rfl rfl ?_
  refine lw_rd 1 (by decide) hi hL dL_law_2239 dL_law_2240 dL_law_2242 rfl dL_law_2243 dL_law_2244 rfl rfl ?_
  refine ev_aload_n 3 dL_law_2245 rfl rfl ?_
  refine lw_cW (k' := k + 8) c1 kL_riskyBySorting rfl g1048 rfl (by omega) (by omega) rfl dL_law_2246 rfl ?_
  refine ev_istore dL_law_2249 (Nat.le_of_ble_eq_true rfl) (L' := (5, .int kk) :: L0 i) rfl ?_
  refine ev_aload_n 2 dL_law_2251 rfl rfl ?_
  refine lw_rd 1 (by decide) hi hL dL_law_2252 dL_law_2253 dL_law_2255 rfl dL_law_2256 dL_law_2257 rfl rfl ?_
  refine lw_cV (k' := k + 16) c2 kX4_riskyBySorting rfl g1479 rfl (by omega) (by omega) rfl e1 rfl dL_law_2258 rfl ?_
  refine ev_istore dL_law_2261 (Nat.le_of_ble_eq_true rfl) (L' := (6, .int rb) :: (5, .int kk) :: L0 i) rfl ?_
  refine ev_aload_n 2 dL_law_2263 rfl rfl ?_
  refine lw_cV (k' := k + 24) c3 kX4_thrown rfl g1154 rfl (by omega) (by omega) rfl e2 rfl dL_law_2264 rfl ?_
  refine ev_iload dL_law_2267 rfl ?_
  refine ev_icmp_eq 2274 dL_law_2269 (by decide) (fun _ => ?_) (fun h => absurd rfl h)
  refine ev_iload dL_law_2274 rfl ?_
  refine ev_if_ne 2291 dL_law_2276 (by decide) (fun _ => ?_) (fun hz => ?_)
  · refine ev_goto 2923 dL_law_2291 (by decide) ?_
    exact ev_sub [2, 3, 4, 5, 6] rfl (kN _ hS')
  refine ev_aload_n 3 dL_law_2279 rfl rfl ?_
  refine ev_iconst (nI 0) dL_law_2280 rfl ?_
  refine ev_lld dL_law_2281 e3 ?_
  refine ev_iload dL_law_2282 rfl ?_
  refine ev_i2l dL_law_2284 ?_
  refine ev_lcmp dL_law_2285 ?_
  refine ev_if_eq 2291 dL_law_2286 (by decide) (fun _ => ?_) (fun h => absurd (lg_0 (e4 hz)) h)
  refine ev_goto 2923 dL_law_2291 (by decide) ?_
  exact ev_sub [2, 3, 4, 5, 6] rfl (kN _ hS')
theorem cs_riskyByTaking (hi : i + 3 < LL) (hL : LL ≤ 2048) (hk : k + 24 ≤ 100000) (hS : SR w) (kN : KN nm HT LL xs i k) : Ev (mLw nm HT LL xs) pT nx k 2294 (L0 i) [] w := by
  obtain ⟨kk, rb, u, v, fo, c1, c2, c3, ⟨fs1, e1⟩, ⟨fs2, e2⟩, e3, e4, hS'⟩ := s_riskyByTaking hS (xs (i + 1))
  refine ev_aload_n 1 dL_law_2294 rfl rfl ?_
  refine lw_rd 1 (by decide) hi hL dL_law_2295 dL_law_2296 dL_law_2298 rfl dL_law_2299 dL_law_2300 rfl rfl ?_
  refine ev_aload_n 3 dL_law_2301 rfl rfl ?_
  refine lw_cW (k' := k + 8) c1 kL_riskyByTaking rfl g1058 rfl (by omega) (by omega) rfl dL_law_2302 rfl ?_
  refine ev_istore dL_law_2305 (Nat.le_of_ble_eq_true rfl) (L' := (5, .int kk) :: L0 i) rfl ?_
  refine ev_aload_n 2 dL_law_2307 rfl rfl ?_
  refine lw_rd 1 (by decide) hi hL dL_law_2308 dL_law_2309 dL_law_2311 rfl dL_law_2312 dL_law_2313 rfl rfl ?_
  refine lw_cV (k' := k + 16) c2 kX4_riskyByTaking rfl g1487 rfl (by omega) (by omega) rfl e1 rfl dL_law_2314 rfl ?_
  refine ev_istore dL_law_2317 (Nat.le_of_ble_eq_true rfl) (L' := (6, .int rb) :: (5, .int kk) :: L0 i) rfl ?_
  refine ev_aload_n 2 dL_law_2319 rfl rfl ?_
  refine lw_cV (k' := k + 24) c3 kX4_thrown rfl g1154 rfl (by omega) (by omega) rfl e2 rfl dL_law_2320 rfl ?_
  refine ev_iload dL_law_2323 rfl ?_
  refine ev_icmp_eq 2330 dL_law_2325 (by decide) (fun _ => ?_) (fun h => absurd rfl h)
  refine ev_iload dL_law_2330 rfl ?_
  refine ev_if_ne 2347 dL_law_2332 (by decide) (fun _ => ?_) (fun hz => ?_)
  · refine ev_goto 2923 dL_law_2347 (by decide) ?_
    exact ev_sub [2, 3, 4, 5, 6] rfl (kN _ hS')
  refine ev_aload_n 3 dL_law_2335 rfl rfl ?_
  refine ev_iconst (nI 0) dL_law_2336 rfl ?_
  refine ev_lld dL_law_2337 e3 ?_
  refine ev_iload dL_law_2338 rfl ?_
  refine ev_i2l dL_law_2340 ?_
  refine ev_lcmp dL_law_2341 ?_
  refine ev_if_eq 2347 dL_law_2342 (by decide) (fun _ => ?_) (fun h => absurd (lg_0 (e4 hz)) h)
  refine ev_goto 2923 dL_law_2347 (by decide) ?_
  exact ev_sub [2, 3, 4, 5, 6] rfl (kN _ hS')
theorem cs_calledNow (hi : i + 3 < LL) (hL : LL ≤ 2048) (hk : k + 24 ≤ 100000) (hS : SR w) (kN : KN nm HT LL xs i k) : Ev (mLw nm HT LL xs) pT nx k 2350 (L0 i) [] w := by
  obtain ⟨r, u, v, c1, c2, ⟨fs1, e1⟩, ⟨fs2, e2⟩, hS'⟩ := t_calledNow hS
  refine ev_aload_n 1 dL_law_2350 rfl rfl ?_
  refine lw_cV (k' := k + 8) c1 kX3_calledNow rfl g408 rfl (by omega) (by omega) rfl e1 rfl dL_law_2351 rfl ?_
  refine ev_aload_n 2 dL_law_2354 rfl rfl ?_
  refine lw_cV (k' := k + 24) c2 kX4_calledNow rfl g1491 rfl (by omega) (by omega) rfl e2 rfl dL_law_2355 rfl ?_
  refine ev_icmp_eq 2923 dL_law_2358 (by decide) (fun _ => ?_) (fun h => absurd rfl h)
  exact (kN _ hS')
theorem cs_rate (hi : i + 3 < LL) (hL : LL ≤ 2048) (hk : k + 24 ≤ 100000) (hS : SR w) (kN : KN nm HT LL xs i k) : Ev (mLw nm HT LL xs) pT nx k 2363 (L0 i) [] w := by
  obtain ⟨r, u, v, c1, c2, ⟨fs1, e1⟩, ⟨fs2, e2⟩, hS'⟩ := t_rate hS
  refine ev_aload_n 1 dL_law_2363 rfl rfl ?_
  refine lw_cV (k' := k + 8) c1 kX3_rate rfl g416 rfl (by omega) (by omega) rfl e1 rfl dL_law_2364 rfl ?_
  refine ev_aload_n 2 dL_law_2367 rfl rfl ?_
  refine lw_cV (k' := k + 24) c2 kX4_rate rfl g1495 rfl (by omega) (by omega) rfl e2 rfl dL_law_2368 rfl ?_
  refine ev_icmp_eq 2923 dL_law_2371 (by decide) (fun _ => ?_) (fun h => absurd rfl h)
  exact (kN _ hS')
theorem cs_grace (hi : i + 3 < LL) (hL : LL ≤ 2048) (hk : k + 24 ≤ 100000) (hS : SR w) (kN : KN nm HT LL xs i k) : Ev (mLw nm HT LL xs) pT nx k 2376 (L0 i) [] w := by
  obtain ⟨r, u, v, c1, c2, ⟨fs1, e1⟩, ⟨fs2, e2⟩, hS'⟩ := t_grace hS
  refine ev_aload_n 1 dL_law_2376 rfl rfl ?_
  refine lw_cV (k' := k + 8) c1 kX3_grace rfl g420 rfl (by omega) (by omega) rfl e1 rfl dL_law_2377 rfl ?_
  refine ev_aload_n 2 dL_law_2380 rfl rfl ?_
  refine lw_cV (k' := k + 24) c2 kX4_grace rfl g1503 rfl (by omega) (by omega) rfl e2 rfl dL_law_2381 rfl ?_
  refine ev_icmp_eq 2923 dL_law_2384 (by decide) (fun _ => ?_) (fun h => absurd rfl h)
  exact (kN _ hS')
theorem cs_slip (hi : i + 3 < LL) (hL : LL ≤ 2048) (hk : k + 24 ≤ 100000) (hS : SR w) (kN : KN nm HT LL xs i k) : Ev (mLw nm HT LL xs) pT nx k 2389 (L0 i) [] w := by
  obtain ⟨r, u, v, c1, c2, ⟨fs1, e1⟩, ⟨fs2, e2⟩, hS'⟩ := t_slip hS
  refine ev_aload_n 1 dL_law_2389 rfl rfl ?_
  refine lw_cV (k' := k + 8) c1 kX3_slip rfl g424 rfl (by omega) (by omega) rfl e1 rfl dL_law_2390 rfl ?_
  refine ev_aload_n 2 dL_law_2393 rfl rfl ?_
  refine lw_cV (k' := k + 24) c2 kX4_slip rfl g1507 rfl (by omega) (by omega) rfl e2 rfl dL_law_2394 rfl ?_
  refine ev_icmp_eq 2923 dL_law_2397 (by decide) (fun _ => ?_) (fun h => absurd rfl h)
  exact (kN _ hS')
theorem cs_order (hi : i + 3 < LL) (hL : LL ≤ 2048) (hk : k + 24 ≤ 100000) (hS : SR w) (kN : KN nm HT LL xs i k) : Ev (mLw nm HT LL xs) pT nx k 2402 (L0 i) [] w := by
  obtain ⟨r, u, v, c1, c2, ⟨fs1, e1⟩, ⟨fs2, e2⟩, hS'⟩ := t_order hS
  refine ev_aload_n 1 dL_law_2402 rfl rfl ?_
  refine lw_cV (k' := k + 8) c1 kX3_order rfl g428 rfl (by omega) (by omega) rfl e1 rfl dL_law_2403 rfl ?_
  refine ev_aload_n 2 dL_law_2406 rfl rfl ?_
  refine lw_cV (k' := k + 24) c2 kX4_order rfl g1511 rfl (by omega) (by omega) rfl e2 rfl dL_law_2407 rfl ?_
  refine ev_icmp_eq 2923 dL_law_2410 (by decide) (fun _ => ?_) (fun h => absurd rfl h)
  exact (kN _ hS')
theorem cs_fallToCallByTrying (hi : i + 3 < LL) (hL : LL ≤ 2048) (hk : k + 24 ≤ 100000) (hS : SR w) (kN : KN nm HT LL xs i k) : Ev (mLw nm HT LL xs) pT nx k 2415 (L0 i) [] w := by
  obtain ⟨kk, rb, u, v, fo, c1, c2, c3, ⟨fs1, e1⟩, ⟨fs2, e2⟩, e3, e4, hS'⟩ := s_fallToCallByTrying hS (xs (i + 1))
  refine ev_aload_n 1 dL_law_2415 rfl rfl ?_
  refine lw_rd 1 (by decide) hi hL dL_law_2416 dL_law_2417 dL_law_2419 rfl dL_law_2420 dL_law_2421 rfl rfl ?_
  refine ev_aload_n 3 dL_law_2422 rfl rfl ?_
  refine lw_cW (k' := k + 8) c1 kL_fallToCallByTrying rfl g1065 rfl (by omega) (by omega) rfl dL_law_2423 rfl ?_
  refine ev_istore dL_law_2426 (Nat.le_of_ble_eq_true rfl) (L' := (5, .int kk) :: L0 i) rfl ?_
  refine ev_aload_n 2 dL_law_2428 rfl rfl ?_
  refine lw_rd 1 (by decide) hi hL dL_law_2429 dL_law_2430 dL_law_2432 rfl dL_law_2433 dL_law_2434 rfl rfl ?_
  refine lw_cV (k' := k + 16) c2 kX4_fallToCallByTrying rfl g1515 rfl (by omega) (by omega) rfl e1 rfl dL_law_2435 rfl ?_
  refine ev_istore dL_law_2438 (Nat.le_of_ble_eq_true rfl) (L' := (6, .int rb) :: (5, .int kk) :: L0 i) rfl ?_
  refine ev_aload_n 2 dL_law_2440 rfl rfl ?_
  refine lw_cV (k' := k + 24) c3 kX4_thrown rfl g1154 rfl (by omega) (by omega) rfl e2 rfl dL_law_2441 rfl ?_
  refine ev_iload dL_law_2444 rfl ?_
  refine ev_icmp_eq 2451 dL_law_2446 (by decide) (fun _ => ?_) (fun h => absurd rfl h)
  refine ev_iload dL_law_2451 rfl ?_
  refine ev_if_ne 2468 dL_law_2453 (by decide) (fun _ => ?_) (fun hz => ?_)
  · refine ev_goto 2923 dL_law_2468 (by decide) ?_
    exact ev_sub [2, 3, 4, 5, 6] rfl (kN _ hS')
  refine ev_aload_n 3 dL_law_2456 rfl rfl ?_
  refine ev_iconst (nI 0) dL_law_2457 rfl ?_
  refine ev_lld dL_law_2458 e3 ?_
  refine ev_iload dL_law_2459 rfl ?_
  refine ev_i2l dL_law_2461 ?_
  refine ev_lcmp dL_law_2462 ?_
  refine ev_if_eq 2468 dL_law_2463 (by decide) (fun _ => ?_) (fun h => absurd (lg_0 (e4 hz)) h)
  refine ev_goto 2923 dL_law_2468 (by decide) ?_
  exact ev_sub [2, 3, 4, 5, 6] rfl (kN _ hS')
theorem cs_fallToCallByHalving (hi : i + 3 < LL) (hL : LL ≤ 2048) (hk : k + 24 ≤ 100000) (hS : SR w) (kN : KN nm HT LL xs i k) : Ev (mLw nm HT LL xs) pT nx k 2471 (L0 i) [] w := by
  obtain ⟨kk, rb, u, v, fo, c1, c2, c3, ⟨fs1, e1⟩, ⟨fs2, e2⟩, e3, e4, hS'⟩ := s_fallToCallByHalving hS (xs (i + 1))
  refine ev_aload_n 1 dL_law_2471 rfl rfl ?_
  refine lw_rd 1 (by decide) hi hL dL_law_2472 dL_law_2473 dL_law_2475 rfl dL_law_2476 dL_law_2477 rfl rfl ?_
  refine ev_aload_n 3 dL_law_2478 rfl rfl ?_
  refine lw_cW (k' := k + 8) c1 kL_fallToCallByHalving rfl g1072 rfl (by omega) (by omega) rfl dL_law_2479 rfl ?_
  refine ev_istore dL_law_2482 (Nat.le_of_ble_eq_true rfl) (L' := (5, .int kk) :: L0 i) rfl ?_
  refine ev_aload_n 2 dL_law_2484 rfl rfl ?_
  refine lw_rd 1 (by decide) hi hL dL_law_2485 dL_law_2486 dL_law_2488 rfl dL_law_2489 dL_law_2490 rfl rfl ?_
  refine lw_cV (k' := k + 16) c2 kX4_fallToCallByHalving rfl g1527 rfl (by omega) (by omega) rfl e1 rfl dL_law_2491 rfl ?_
  refine ev_istore dL_law_2494 (Nat.le_of_ble_eq_true rfl) (L' := (6, .int rb) :: (5, .int kk) :: L0 i) rfl ?_
  refine ev_aload_n 2 dL_law_2496 rfl rfl ?_
  refine lw_cV (k' := k + 24) c3 kX4_thrown rfl g1154 rfl (by omega) (by omega) rfl e2 rfl dL_law_2497 rfl ?_
  refine ev_iload dL_law_2500 rfl ?_
  refine ev_icmp_eq 2507 dL_law_2502 (by decide) (fun _ => ?_) (fun h => absurd rfl h)
  refine ev_iload dL_law_2507 rfl ?_
  refine ev_if_ne 2524 dL_law_2509 (by decide) (fun _ => ?_) (fun hz => ?_)
  · refine ev_goto 2923 dL_law_2524 (by decide) ?_
    exact ev_sub [2, 3, 4, 5, 6] rfl (kN _ hS')
  refine ev_aload_n 3 dL_law_2512 rfl rfl ?_
  refine ev_iconst (nI 0) dL_law_2513 rfl ?_
  refine ev_lld dL_law_2514 e3 ?_
  refine ev_iload dL_law_2515 rfl ?_
  refine ev_i2l dL_law_2517 ?_
  refine ev_lcmp dL_law_2518 ?_
  refine ev_if_eq 2524 dL_law_2519 (by decide) (fun _ => ?_) (fun h => absurd (lg_0 (e4 hz)) h)
  refine ev_goto 2923 dL_law_2524 (by decide) ?_
  exact ev_sub [2, 3, 4, 5, 6] rfl (kN _ hS')
theorem cs_hoursToCall (hi : i + 3 < LL) (hL : LL ≤ 2048) (hk : k + 24 ≤ 100000) (hS : SR w) (kN : KN nm HT LL xs i k) : Ev (mLw nm HT LL xs) pT nx k 2527 (L0 i) [] w := by
  obtain ⟨kk, rb, u, v, fo, c1, c2, c3, ⟨fs1, e1⟩, ⟨fs2, e2⟩, e3, e4, hS'⟩ := s_hoursToCall hS (xs (i + 1))
  refine ev_aload_n 1 dL_law_2527 rfl rfl ?_
  refine lw_rd 1 (by decide) hi hL dL_law_2528 dL_law_2529 dL_law_2531 rfl dL_law_2532 dL_law_2533 rfl rfl ?_
  refine ev_aload_n 3 dL_law_2534 rfl rfl ?_
  refine lw_cW (k' := k + 8) c1 kL_hoursToCall rfl g1079 rfl (by omega) (by omega) rfl dL_law_2535 rfl ?_
  refine ev_istore dL_law_2538 (Nat.le_of_ble_eq_true rfl) (L' := (5, .int kk) :: L0 i) rfl ?_
  refine ev_aload_n 2 dL_law_2540 rfl rfl ?_
  refine lw_rd 1 (by decide) hi hL dL_law_2541 dL_law_2542 dL_law_2544 rfl dL_law_2545 dL_law_2546 rfl rfl ?_
  refine lw_cV (k' := k + 16) c2 kX4_hoursToCall rfl g1531 rfl (by omega) (by omega) rfl e1 rfl dL_law_2547 rfl ?_
  refine ev_istore dL_law_2550 (Nat.le_of_ble_eq_true rfl) (L' := (6, .int rb) :: (5, .int kk) :: L0 i) rfl ?_
  refine ev_aload_n 2 dL_law_2552 rfl rfl ?_
  refine lw_cV (k' := k + 24) c3 kX4_thrown rfl g1154 rfl (by omega) (by omega) rfl e2 rfl dL_law_2553 rfl ?_
  refine ev_iload dL_law_2556 rfl ?_
  refine ev_icmp_eq 2563 dL_law_2558 (by decide) (fun _ => ?_) (fun h => absurd rfl h)
  refine ev_iload dL_law_2563 rfl ?_
  refine ev_if_ne 2580 dL_law_2565 (by decide) (fun _ => ?_) (fun hz => ?_)
  · refine ev_goto 2923 dL_law_2580 (by decide) ?_
    exact ev_sub [2, 3, 4, 5, 6] rfl (kN _ hS')
  refine ev_aload_n 3 dL_law_2568 rfl rfl ?_
  refine ev_iconst (nI 0) dL_law_2569 rfl ?_
  refine ev_lld dL_law_2570 e3 ?_
  refine ev_iload dL_law_2571 rfl ?_
  refine ev_i2l dL_law_2573 ?_
  refine ev_lcmp dL_law_2574 ?_
  refine ev_if_eq 2580 dL_law_2575 (by decide) (fun _ => ?_) (fun h => absurd (lg_0 (e4 hz)) h)
  refine ev_goto 2923 dL_law_2580 (by decide) ?_
  exact ev_sub [2, 3, 4, 5, 6] rfl (kN _ hS')
theorem cs_wouldSell (hi : i + 3 < LL) (hL : LL ≤ 2048) (hk : k + 24 ≤ 100000) (hS : SR w) (kN : KN nm HT LL xs i k) : Ev (mLw nm HT LL xs) pT nx k 2583 (L0 i) [] w := by
  obtain ⟨kk, rb, u, v, fo, c1, c2, c3, ⟨fs1, e1⟩, ⟨fs2, e2⟩, e3, e4, hS'⟩ := s_wouldSell hS (xs (i + 1))
  refine ev_aload_n 1 dL_law_2583 rfl rfl ?_
  refine lw_rd 1 (by decide) hi hL dL_law_2584 dL_law_2585 dL_law_2587 rfl dL_law_2588 dL_law_2589 rfl rfl ?_
  refine ev_aload_n 3 dL_law_2590 rfl rfl ?_
  refine lw_cW (k' := k + 8) c1 kL_wouldSell rfl g1090 rfl (by omega) (by omega) rfl dL_law_2591 rfl ?_
  refine ev_istore dL_law_2594 (Nat.le_of_ble_eq_true rfl) (L' := (5, .int kk) :: L0 i) rfl ?_
  refine ev_aload_n 2 dL_law_2596 rfl rfl ?_
  refine lw_rd 1 (by decide) hi hL dL_law_2597 dL_law_2598 dL_law_2600 rfl dL_law_2601 dL_law_2602 rfl rfl ?_
  refine lw_cV (k' := k + 16) c2 kX4_wouldSell rfl g1535 rfl (by omega) (by omega) rfl e1 rfl dL_law_2603 rfl ?_
  refine ev_istore dL_law_2606 (Nat.le_of_ble_eq_true rfl) (L' := (6, .int rb) :: (5, .int kk) :: L0 i) rfl ?_
  refine ev_aload_n 2 dL_law_2608 rfl rfl ?_
  refine lw_cV (k' := k + 24) c3 kX4_thrown rfl g1154 rfl (by omega) (by omega) rfl e2 rfl dL_law_2609 rfl ?_
  refine ev_iload dL_law_2612 rfl ?_
  refine ev_icmp_eq 2619 dL_law_2614 (by decide) (fun _ => ?_) (fun h => absurd rfl h)
  refine ev_iload dL_law_2619 rfl ?_
  refine ev_if_ne 2636 dL_law_2621 (by decide) (fun _ => ?_) (fun hz => ?_)
  · refine ev_goto 2923 dL_law_2636 (by decide) ?_
    exact ev_sub [2, 3, 4, 5, 6] rfl (kN _ hS')
  refine ev_aload_n 3 dL_law_2624 rfl rfl ?_
  refine ev_iconst (nI 0) dL_law_2625 rfl ?_
  refine ev_lld dL_law_2626 e3 ?_
  refine ev_iload dL_law_2627 rfl ?_
  refine ev_i2l dL_law_2629 ?_
  refine ev_lcmp dL_law_2630 ?_
  refine ev_if_eq 2636 dL_law_2631 (by decide) (fun _ => ?_) (fun h => absurd (lg_0 (e4 hz)) h)
  refine ev_goto 2923 dL_law_2636 (by decide) ?_
  exact ev_sub [2, 3, 4, 5, 6] rfl (kN _ hS')
theorem cs_wouldLose (hi : i + 3 < LL) (hL : LL ≤ 2048) (hk : k + 24 ≤ 100000) (hS : SR w) (kN : KN nm HT LL xs i k) : Ev (mLw nm HT LL xs) pT nx k 2639 (L0 i) [] w := by
  obtain ⟨kk, rb, u, v, fo, c1, c2, c3, ⟨fs1, e1⟩, ⟨fs2, e2⟩, e3, e4, hS'⟩ := s_wouldLose hS (xs (i + 1))
  refine ev_aload_n 1 dL_law_2639 rfl rfl ?_
  refine lw_rd 1 (by decide) hi hL dL_law_2640 dL_law_2641 dL_law_2643 rfl dL_law_2644 dL_law_2645 rfl rfl ?_
  refine ev_aload_n 3 dL_law_2646 rfl rfl ?_
  refine lw_cW (k' := k + 8) c1 kL_wouldLose rfl g1097 rfl (by omega) (by omega) rfl dL_law_2647 rfl ?_
  refine ev_istore dL_law_2650 (Nat.le_of_ble_eq_true rfl) (L' := (5, .int kk) :: L0 i) rfl ?_
  refine ev_aload_n 2 dL_law_2652 rfl rfl ?_
  refine lw_rd 1 (by decide) hi hL dL_law_2653 dL_law_2654 dL_law_2656 rfl dL_law_2657 dL_law_2658 rfl rfl ?_
  refine lw_cV (k' := k + 16) c2 kX4_wouldLose rfl g1543 rfl (by omega) (by omega) rfl e1 rfl dL_law_2659 rfl ?_
  refine ev_istore dL_law_2662 (Nat.le_of_ble_eq_true rfl) (L' := (6, .int rb) :: (5, .int kk) :: L0 i) rfl ?_
  refine ev_aload_n 2 dL_law_2664 rfl rfl ?_
  refine lw_cV (k' := k + 24) c3 kX4_thrown rfl g1154 rfl (by omega) (by omega) rfl e2 rfl dL_law_2665 rfl ?_
  refine ev_iload dL_law_2668 rfl ?_
  refine ev_icmp_eq 2675 dL_law_2670 (by decide) (fun _ => ?_) (fun h => absurd rfl h)
  refine ev_iload dL_law_2675 rfl ?_
  refine ev_if_ne 2692 dL_law_2677 (by decide) (fun _ => ?_) (fun hz => ?_)
  · refine ev_goto 2923 dL_law_2692 (by decide) ?_
    exact ev_sub [2, 3, 4, 5, 6] rfl (kN _ hS')
  refine ev_aload_n 3 dL_law_2680 rfl rfl ?_
  refine ev_iconst (nI 0) dL_law_2681 rfl ?_
  refine ev_lld dL_law_2682 e3 ?_
  refine ev_iload dL_law_2683 rfl ?_
  refine ev_i2l dL_law_2685 ?_
  refine ev_lcmp dL_law_2686 ?_
  refine ev_if_eq 2692 dL_law_2687 (by decide) (fun _ => ?_) (fun h => absurd (lg_0 (e4 hz)) h)
  refine ev_goto 2923 dL_law_2692 (by decide) ?_
  exact ev_sub [2, 3, 4, 5, 6] rfl (kN _ hS')
theorem cs_calledIfFallen (hi : i + 3 < LL) (hL : LL ≤ 2048) (hk : k + 24 ≤ 100000) (hS : SR w) (kN : KN nm HT LL xs i k) : Ev (mLw nm HT LL xs) pT nx k 2695 (L0 i) [] w := by
  obtain ⟨kk, rb, u, v, fo, c1, c2, c3, ⟨fs1, e1⟩, ⟨fs2, e2⟩, e3, e4, hS'⟩ := s_calledIfFallen hS (xs (i + 1))
  refine ev_aload_n 1 dL_law_2695 rfl rfl ?_
  refine lw_rd 1 (by decide) hi hL dL_law_2696 dL_law_2697 dL_law_2699 rfl dL_law_2700 dL_law_2701 rfl rfl ?_
  refine ev_aload_n 3 dL_law_2702 rfl rfl ?_
  refine lw_cW (k' := k + 8) c1 kL_calledIfFallen rfl g1104 rfl (by omega) (by omega) rfl dL_law_2703 rfl ?_
  refine ev_istore dL_law_2706 (Nat.le_of_ble_eq_true rfl) (L' := (5, .int kk) :: L0 i) rfl ?_
  refine ev_aload_n 2 dL_law_2708 rfl rfl ?_
  refine lw_rd 1 (by decide) hi hL dL_law_2709 dL_law_2710 dL_law_2712 rfl dL_law_2713 dL_law_2714 rfl rfl ?_
  refine lw_cV (k' := k + 16) c2 kX4_calledIfFallen rfl g1547 rfl (by omega) (by omega) rfl e1 rfl dL_law_2715 rfl ?_
  refine ev_istore dL_law_2718 (Nat.le_of_ble_eq_true rfl) (L' := (6, .int rb) :: (5, .int kk) :: L0 i) rfl ?_
  refine ev_aload_n 2 dL_law_2720 rfl rfl ?_
  refine lw_cV (k' := k + 24) c3 kX4_thrown rfl g1154 rfl (by omega) (by omega) rfl e2 rfl dL_law_2721 rfl ?_
  refine ev_iload dL_law_2724 rfl ?_
  refine ev_icmp_eq 2731 dL_law_2726 (by decide) (fun _ => ?_) (fun h => absurd rfl h)
  refine ev_iload dL_law_2731 rfl ?_
  refine ev_if_ne 2748 dL_law_2733 (by decide) (fun _ => ?_) (fun hz => ?_)
  · refine ev_goto 2923 dL_law_2748 (by decide) ?_
    exact ev_sub [2, 3, 4, 5, 6] rfl (kN _ hS')
  refine ev_aload_n 3 dL_law_2736 rfl rfl ?_
  refine ev_iconst (nI 0) dL_law_2737 rfl ?_
  refine ev_lld dL_law_2738 e3 ?_
  refine ev_iload dL_law_2739 rfl ?_
  refine ev_i2l dL_law_2741 ?_
  refine ev_lcmp dL_law_2742 ?_
  refine ev_if_eq 2748 dL_law_2743 (by decide) (fun _ => ?_) (fun h => absurd (lg_0 (e4 hz)) h)
  refine ev_goto 2923 dL_law_2748 (by decide) ?_
  exact ev_sub [2, 3, 4, 5, 6] rfl (kN _ hS')
theorem cs_hours (hi : i + 3 < LL) (hL : LL ≤ 2048) (hk : k + 24 ≤ 100000) (hS : SR w) (kN : KN nm HT LL xs i k) : Ev (mLw nm HT LL xs) pT nx k 2751 (L0 i) [] w := by
  obtain ⟨r, u, v, c1, c2, ⟨fs1, e1⟩, ⟨fs2, e2⟩, hS'⟩ := t_hours hS
  refine ev_aload_n 1 dL_law_2751 rfl rfl ?_
  refine lw_cV (k' := k + 8) c1 kX3_hours rfl g432 rfl (by omega) (by omega) rfl e1 rfl dL_law_2752 rfl ?_
  refine ev_aload_n 2 dL_law_2755 rfl rfl ?_
  refine lw_cV (k' := k + 24) c2 kX4_hours rfl g1555 rfl (by omega) (by omega) rfl e2 rfl dL_law_2756 rfl ?_
  refine ev_icmp_eq 2923 dL_law_2759 (by decide) (fun _ => ?_) (fun h => absurd rfl h)
  exact (kN _ hS')
theorem cs_debtsByClients (hi : i + 3 < LL) (hL : LL ≤ 2048) (hk : k + 24 ≤ 100000) (hS : SR w) (kN : KN nm HT LL xs i k) : Ev (mLw nm HT LL xs) pT nx k 2764 (L0 i) [] w := by
  obtain ⟨r, u, v, c1, c2, ⟨fs1, e1⟩, ⟨fs2, e2⟩, hS'⟩ := t_debtsByClients hS
  refine ev_aload_n 1 dL_law_2764 rfl rfl ?_
  refine lw_cV (k' := k + 8) c1 kX3_debtsByClients rfl g436 rfl (by omega) (by omega) rfl e1 rfl dL_law_2765 rfl ?_
  refine ev_aload_n 2 dL_law_2768 rfl rfl ?_
  refine lw_cV (k' := k + 24) c2 kX4_debtsByClients rfl g1559 rfl (by omega) (by omega) rfl e2 rfl dL_law_2769 rfl ?_
  refine ev_icmp_eq 2923 dL_law_2772 (by decide) (fun _ => ?_) (fun h => absurd rfl h)
  exact (kN _ hS')
theorem cs_debtsByAccount (hi : i + 3 < LL) (hL : LL ≤ 2048) (hk : k + 24 ≤ 100000) (hS : SR w) (kN : KN nm HT LL xs i k) : Ev (mLw nm HT LL xs) pT nx k 2777 (L0 i) [] w := by
  obtain ⟨r, u, v, c1, c2, ⟨fs1, e1⟩, ⟨fs2, e2⟩, hS'⟩ := t_debtsByAccount hS
  refine ev_aload_n 1 dL_law_2777 rfl rfl ?_
  refine lw_cV (k' := k + 8) c1 kX3_debtsByAccount rfl g444 rfl (by omega) (by omega) rfl e1 rfl dL_law_2778 rfl ?_
  refine ev_aload_n 2 dL_law_2781 rfl rfl ?_
  refine lw_cV (k' := k + 24) c2 kX4_debtsByAccount rfl g1567 rfl (by omega) (by omega) rfl e2 rfl dL_law_2782 rfl ?_
  refine ev_icmp_eq 2923 dL_law_2785 (by decide) (fun _ => ?_) (fun h => absurd rfl h)
  exact (kN _ hS')
theorem cs_lent (hi : i + 3 < LL) (hL : LL ≤ 2048) (hk : k + 24 ≤ 100000) (hS : SR w) (kN : KN nm HT LL xs i k) : Ev (mLw nm HT LL xs) pT nx k 2790 (L0 i) [] w := by
  obtain ⟨r, u, v, c1, c2, ⟨fs1, e1⟩, ⟨fs2, e2⟩, hS'⟩ := t_lent hS
  refine ev_aload_n 1 dL_law_2790 rfl rfl ?_
  refine lw_cV (k' := k + 8) c1 kX3_lent rfl g448 rfl (by omega) (by omega) rfl e1 rfl dL_law_2791 rfl ?_
  refine ev_aload_n 2 dL_law_2794 rfl rfl ?_
  refine lw_cV (k' := k + 24) c2 kX4_lent rfl g1571 rfl (by omega) (by omega) rfl e2 rfl dL_law_2795 rfl ?_
  refine ev_icmp_eq 2923 dL_law_2798 (by decide) (fun _ => ?_) (fun h => absurd rfl h)
  exact (kN _ hS')
theorem cs_interest (hi : i + 3 < LL) (hL : LL ≤ 2048) (hk : k + 24 ≤ 100000) (hS : SR w) (kN : KN nm HT LL xs i k) : Ev (mLw nm HT LL xs) pT nx k 2803 (L0 i) [] w := by
  obtain ⟨r, u, v, c1, c2, ⟨fs1, e1⟩, ⟨fs2, e2⟩, hS'⟩ := t_interest hS
  refine ev_aload_n 1 dL_law_2803 rfl rfl ?_
  refine lw_cV (k' := k + 8) c1 kX3_interest rfl g452 rfl (by omega) (by omega) rfl e1 rfl dL_law_2804 rfl ?_
  refine ev_aload_n 2 dL_law_2807 rfl rfl ?_
  refine lw_cV (k' := k + 24) c2 kX4_interest rfl g1575 rfl (by omega) (by omega) rfl e2 rfl dL_law_2808 rfl ?_
  refine ev_icmp_eq 2923 dL_law_2811 (by decide) (fun _ => ?_) (fun h => absurd rfl h)
  exact (kN _ hS')
theorem cs_repaid (hi : i + 3 < LL) (hL : LL ≤ 2048) (hk : k + 24 ≤ 100000) (hS : SR w) (kN : KN nm HT LL xs i k) : Ev (mLw nm HT LL xs) pT nx k 2816 (L0 i) [] w := by
  obtain ⟨r, u, v, c1, c2, ⟨fs1, e1⟩, ⟨fs2, e2⟩, hS'⟩ := t_repaid hS
  refine ev_aload_n 1 dL_law_2816 rfl rfl ?_
  refine lw_cV (k' := k + 8) c1 kX3_repaid rfl g456 rfl (by omega) (by omega) rfl e1 rfl dL_law_2817 rfl ?_
  refine ev_aload_n 2 dL_law_2820 rfl rfl ?_
  refine lw_cV (k' := k + 24) c2 kX4_repaid rfl g1579 rfl (by omega) (by omega) rfl e2 rfl dL_law_2821 rfl ?_
  refine ev_icmp_eq 2923 dL_law_2824 (by decide) (fun _ => ?_) (fun h => absurd rfl h)
  exact (kN _ hS')
theorem cs_lost (hi : i + 3 < LL) (hL : LL ≤ 2048) (hk : k + 24 ≤ 100000) (hS : SR w) (kN : KN nm HT LL xs i k) : Ev (mLw nm HT LL xs) pT nx k 2829 (L0 i) [] w := by
  obtain ⟨r, u, v, c1, c2, ⟨fs1, e1⟩, ⟨fs2, e2⟩, hS'⟩ := t_lost hS
  refine ev_aload_n 1 dL_law_2829 rfl rfl ?_
  refine lw_cV (k' := k + 8) c1 kX3_lost rfl g460 rfl (by omega) (by omega) rfl e1 rfl dL_law_2830 rfl ?_
  refine ev_aload_n 2 dL_law_2833 rfl rfl ?_
  refine lw_cV (k' := k + 24) c2 kX4_lost rfl g1583 rfl (by omega) (by omega) rfl e2 rfl dL_law_2834 rfl ?_
  refine ev_icmp_eq 2923 dL_law_2837 (by decide) (fun _ => ?_) (fun h => absurd rfl h)
  exact (kN _ hS')
theorem cs_calls (hi : i + 3 < LL) (hL : LL ≤ 2048) (hk : k + 24 ≤ 100000) (hS : SR w) (kN : KN nm HT LL xs i k) : Ev (mLw nm HT LL xs) pT nx k 2842 (L0 i) [] w := by
  obtain ⟨r, u, v, c1, c2, ⟨fs1, e1⟩, ⟨fs2, e2⟩, hS'⟩ := t_calls hS
  refine ev_aload_n 1 dL_law_2842 rfl rfl ?_
  refine lw_cV (k' := k + 8) c1 kX3_calls rfl g464 rfl (by omega) (by omega) rfl e1 rfl dL_law_2843 rfl ?_
  refine ev_aload_n 2 dL_law_2846 rfl rfl ?_
  refine lw_cV (k' := k + 24) c2 kX4_calls rfl g1587 rfl (by omega) (by omega) rfl e2 rfl dL_law_2847 rfl ?_
  refine ev_icmp_eq 2923 dL_law_2850 (by decide) (fun _ => ?_) (fun h => absurd rfl h)
  exact (kN _ hS')
theorem cs_soldOut (hi : i + 3 < LL) (hL : LL ≤ 2048) (hk : k + 24 ≤ 100000) (hS : SR w) (kN : KN nm HT LL xs i k) : Ev (mLw nm HT LL xs) pT nx k 2855 (L0 i) [] w := by
  obtain ⟨r, u, v, c1, c2, ⟨fs1, e1⟩, ⟨fs2, e2⟩, hS'⟩ := t_soldOut hS
  refine ev_aload_n 1 dL_law_2855 rfl rfl ?_
  refine lw_cV (k' := k + 8) c1 kX3_soldOut rfl g468 rfl (by omega) (by omega) rfl e1 rfl dL_law_2856 rfl ?_
  refine ev_aload_n 2 dL_law_2859 rfl rfl ?_
  refine lw_cV (k' := k + 24) c2 kX4_soldOut rfl g1591 rfl (by omega) (by omega) rfl e2 rfl dL_law_2860 rfl ?_
  refine ev_icmp_eq 2923 dL_law_2863 (by decide) (fun _ => ?_) (fun h => absurd rfl h)
  exact (kN _ hS')
theorem cs_usedShare (hi : i + 3 < LL) (hL : LL ≤ 2048) (hk : k + 24 ≤ 100000) (hS : SR w) (kN : KN nm HT LL xs i k) : Ev (mLw nm HT LL xs) pT nx k 2868 (L0 i) [] w := by
  obtain ⟨r, u, v, c1, c2, ⟨fs1, e1⟩, ⟨fs2, e2⟩, hS'⟩ := t_usedShare hS
  refine ev_aload_n 1 dL_law_2868 rfl rfl ?_
  refine lw_cV (k' := k + 8) c1 kX3_usedShare rfl g472 rfl (by omega) (by omega) rfl e1 rfl dL_law_2869 rfl ?_
  refine ev_dstore dL_law_2872 (Nat.le_of_ble_eq_true rfl) (L' := (5, .double r) :: L0 i) rfl ?_
  refine ev_aload_n 2 dL_law_2874 rfl rfl ?_
  refine lw_cV (k' := k + 24) c2 kX4_usedShare rfl g1595 rfl (by omega) (by omega) rfl e2 rfl dL_law_2875 rfl ?_
  refine ev_dstore dL_law_2878 (Nat.le_of_ble_eq_true rfl) (L' := (7, .double r) :: (5, .double r) :: L0 i) rfl ?_
  refine ev_dload dL_law_2880 rfl ?_
  refine ev_dload dL_law_2882 rfl ?_
  refine ev_dcmp dL_law_2884 ?_
  refine ev_if_eq 2906 dL_law_2885 (by decide) (fun _ => ?_) (fun hz0 => ?_)
  · refine ev_goto 2923 dL_law_2906 (by decide) ?_
    exact ev_sub [2, 3, 4, 5, 6] rfl (kN _ hS')
  refine ev_dload dL_law_2888 rfl ?_
  refine ev_dload dL_law_2890 rfl ?_
  refine ev_dcmp dL_law_2892 ?_
  refine ev_if_eq 2904 dL_law_2893 (by decide) (fun h => absurd h hz0) (fun _ => ?_)
  refine ev_dload dL_law_2896 rfl ?_
  refine ev_dload dL_law_2898 rfl ?_
  refine ev_dcmp dL_law_2900 ?_
  refine ev_if_ne 2906 dL_law_2901 (by decide) (fun _ => ?_) (fun h => absurd h hz0)
  refine ev_goto 2923 dL_law_2906 (by decide) ?_
  exact ev_sub [2, 3, 4, 5, 6] rfl (kN _ hS')
theorem cs_digest (hi : i + 3 < LL) (hL : LL ≤ 2048) (hk : k + 24 ≤ 100000) (hS : SR w) (kN : KN nm HT LL xs i k) : Ev (mLw nm HT LL xs) pT nx k 2909 (L0 i) [] w := by
  obtain ⟨r, u, v, c1, c2, ⟨fs1, e1⟩, ⟨fs2, e2⟩, hS'⟩ := t_digest hS
  refine ev_aload_n 1 dL_law_2909 rfl rfl ?_
  refine lw_cV (k' := k + 8) c1 kX3_digest rfl g494 rfl (by omega) (by omega) rfl e1 rfl dL_law_2910 rfl ?_
  refine ev_aload_n 2 dL_law_2913 rfl rfl ?_
  refine lw_cV (k' := k + 24) c2 kX4_digest rfl g1603 rfl (by omega) (by omega) rfl e2 rfl dL_law_2914 rfl ?_
  refine ev_lcmp dL_law_2917 ?_
  refine ev_if_eq 2923 dL_law_2918 (by decide) (fun _ => ?_) (fun h => absurd (lg_0 rfl) h)
  exact (kN _ hS')
end LAW
