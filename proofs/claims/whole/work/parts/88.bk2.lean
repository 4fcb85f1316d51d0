/-! the rest of the cases -/
section
variable {X : Cx} {V : Vx} {A : Nat → Prop} {adV : Nat → Nat} {c0 s0 : Nat} {α : Type} {F : (α ⊕ String) × Mem → Room → State → Prop} {σ : Mem} {r : Res α} {CC SS k L : Nat} {ys : Nat → Int32} {A0 : Ab}
theorem bk_21 (hC : Cok X V A RL cL_law 9) (hE : Env0 V adV A (xs X) (xs X).heap) (hl : (xl X).stackTraces = false) (hS : Scr X V A L ys) (hL : L ≤ 1536) (hk : 3 * k + 2 < L) (h : J CC SS k σ A0) (kk : ∀ σ1 A1, J CC SS (k + 1) σ1 A1 → LX X V A 2048 94400 c0 s0 F 3341 (LV (nI (3 * k))) [] σ1 r) : LX X V A 2048 94400 c0 s0 F 1537 (LV (nI (3 * k))) [] σ r := by
  obtain ⟨v, s1, s2, A1, e1, e2, j⟩ := zo_echoCount  h (by omega)
  refine lx_aload_n hC dL_law_1537 rfl 1 rfl ?_
  refine lx_callL hC (sat_X7_echoCount (xl X) hl σ) (run_V (as := []) (rest := []) hC hE ly0 rfl cw_X7_echoCount ci_X7_echoCount wd355 cs_X7_echoCount ce_X7_echoCount cd_X7_echoCount (by decide) (by decide) (Nat.le_of_ble_eq_true rfl) dL_law_1538 rfl) e1 ?_
  refine lx_aload_n hC dL_law_1541 rfl 2 rfl ?_
  refine lx_callL hC (sat_X8_echoCount (xl X) hl s1) (run_V (as := []) (rest := [.int v]) hC hE ly8 rfl cw_X8_echoCount ci_X8_echoCount wd1923 cs_X8_echoCount ce_X8_echoCount cd_X8_echoCount (by decide) (by decide) (Nat.le_of_ble_eq_true rfl) dL_law_1542 rfl) e2 ?_
  refine lx_eqT hC 3341 dL_law_1545 (by decide) rfl ?_
  exact kk _ _ j
theorem bk_22 (hC : Cok X V A RL cL_law 9) (hE : Env0 V adV A (xs X) (xs X).heap) (hl : (xl X).stackTraces = false) (hS : Scr X V A L ys) (hL : L ≤ 1536) (hk : 3 * k + 2 < L) (h : J CC SS k σ A0) (kk : ∀ σ1 A1, J CC SS (k + 1) σ1 A1 → LX X V A 2048 94400 c0 s0 F 3341 (LV (nI (3 * k))) [] σ1 r) : LX X V A 2048 94400 c0 s0 F 1550 (LV (nI (3 * k))) [] σ r := by
  obtain ⟨v, s1, s2, A1, e1, e2, j⟩ := zo_isActive (p := (ys (3 * k + 1))) h (by omega)
  refine lx_aload_n hC dL_law_1550 rfl 1 rfl ?_
  refine lx_aload_n hC dL_law_1551 rfl 0 rfl ?_
  refine lx_iload hC dL_law_1552 5 rfl ?_
  refine lx_iconstv (v := 1) hC dL_law_1554 rfl ?_
  refine lx_iadd hC dL_law_1555 ?_
  refine lx_sld (n := 3 * k + 1) hC hS (nI_add (3 * k) 1) (by omega) hL dL_law_1556 ?_
  refine lx_callL hC (sat_X7_isActive (xl X) hl (ys (3 * k + 1)) σ) (run_V (as := [.int (ys (3 * k + 1))]) (rest := []) hC hE ly0 rfl cw_X7_isActive ci_X7_isActive wd359 cs_X7_isActive ce_X7_isActive cd_X7_isActive (by decide) (by decide) (Nat.le_of_ble_eq_true rfl) dL_law_1557 rfl) e1 ?_
  refine lx_aload_n hC dL_law_1560 rfl 2 rfl ?_
  refine lx_aload_n hC dL_law_1561 rfl 0 rfl ?_
  refine lx_iload hC dL_law_1562 5 rfl ?_
  refine lx_iconstv (v := 1) hC dL_law_1564 rfl ?_
  refine lx_iadd hC dL_law_1565 ?_
  refine lx_sld (n := 3 * k + 1) hC hS (nI_add (3 * k) 1) (by omega) hL dL_law_1566 ?_
  refine lx_callL hC (sat_X8_isActive (xl X) hl (ys (3 * k + 1)) s1) (run_V (as := [.int (ys (3 * k + 1))]) (rest := [.int v]) hC hE ly8 rfl cw_X8_isActive ci_X8_isActive wd1927 cs_X8_isActive ce_X8_isActive cd_X8_isActive (by decide) (by decide) (Nat.le_of_ble_eq_true rfl) dL_law_1567 rfl) e2 ?_
  refine lx_eqT hC 3341 dL_law_1570 (by decide) rfl ?_
  exact kk _ _ j
theorem bk_23 (hC : Cok X V A RL cL_law 9) (hE : Env0 V adV A (xs X) (xs X).heap) (hl : (xl X).stackTraces = false) (hS : Scr X V A L ys) (hL : L ≤ 1536) (hk : 3 * k + 2 < L) (h : J CC SS k σ A0) (kk : ∀ σ1 A1, J CC SS (k + 1) σ1 A1 → LX X V A 2048 94400 c0 s0 F 3341 (LV (nI (3 * k))) [] σ1 r) : LX X V A 2048 94400 c0 s0 F 1575 (LV (nI (3 * k))) [] σ r := by
  obtain ⟨v1, s1, v2, s2, A1, e1, e2, e3, e4, j⟩ := zo_rowOf (p := (ys (3 * k + 1))) h (by omega)
  refine lx_aload_n hC dL_law_1575 rfl 1 rfl ?_
  refine lx_aload_n hC dL_law_1576 rfl 0 rfl ?_
  refine lx_iload hC dL_law_1577 5 rfl ?_
  refine lx_iconstv (v := 1) hC dL_law_1579 rfl ?_
  refine lx_iadd hC dL_law_1580 ?_
  refine lx_sld (n := 3 * k + 1) hC hS (nI_add (3 * k) 1) (by omega) hL dL_law_1581 ?_
  refine lx_aload_n hC dL_law_1582 rfl 3 rfl ?_
  refine lx_callW (as := [.ref 0, .int (ys (3 * k + 1)), .ref 9]) (rest := []) hC hE (sat_L_rowOf (xl X) hl (ys (3 * k + 1)) σ) lc_rowOf li_L wd921 ls_rowOf ld_rowOf (by decide) (by decide) (Nat.le_of_ble_eq_true rfl) dL_law_1583 rfl e1 ?_
  refine lx_istore hC dL_law_1586 (by decide) ?_
  refine lx_aload_n hC dL_law_1588 rfl 3 rfl ?_
  refine lx_aload_n hC dL_law_1589 rfl 1 rfl ?_
  refine lx_iload hC dL_law_1590 6 rfl ?_
  refine lx_iconstv (v := 1) hC dL_law_1592 rfl ?_
  refine lx_iadd hC dL_law_1593 ?_
  refine lx_sld (n := 3 * k + 1) hC hS (nI_add (3 * k) 1) (by omega) hL dL_law_1594 ?_
  refine lx_callL hC (sat_X8_rowOf (xl X) hl (ys (3 * k + 1)) s1) (run_V (as := [.int (ys (3 * k + 1))]) (rest := []) hC hE ly8 rfl cw_X8_rowOf ci_X8_rowOf wd1931 cs_X8_rowOf ce_X8_rowOf cd_X8_rowOf (by decide) (by decide) (Nat.le_of_ble_eq_true rfl) dL_law_1595 rfl) e2 ?_
  refine lx_istore hC dL_law_1598 (by decide) ?_
  refine lx_sub (lv' := (7, .int v2) :: (6, .int v1) :: LV (nI (3 * k))) [0, 1, 2, 3, 4, 5, 6, 7] rfl ?_
  exact tl_I hC hE hl dL_law_1600 dL_law_1601 dL_law_1604 dL_law_1606 dL_law_1611 dL_law_1613 dL_law_1616 dL_law_1617 dL_law_1618 dL_law_1619 dL_law_1621 dL_law_1622 dL_law_1623 dL_law_1628 (by decide) e3 e4 (kk _ _ j)
theorem bk_24 (hC : Cok X V A RL cL_law 9) (hE : Env0 V adV A (xs X) (xs X).heap) (hl : (xl X).stackTraces = false) (hS : Scr X V A L ys) (hL : L ≤ 1536) (hk : 3 * k + 2 < L) (h : J CC SS k σ A0) (kk : ∀ σ1 A1, J CC SS (k + 1) σ1 A1 → LX X V A 2048 94400 c0 s0 F 3341 (LV (nI (3 * k))) [] σ1 r) : LX X V A 2048 94400 c0 s0 F 1631 (LV (nI (3 * k))) [] σ r := by
  obtain ⟨v1, s1, v2, s2, A1, e1, e2, e3, e4, j⟩ := zo_loudness (p := (ys (3 * k + 1))) h (by omega)
  refine lx_aload_n hC dL_law_1631 rfl 1 rfl ?_
  refine lx_aload_n hC dL_law_1632 rfl 0 rfl ?_
  refine lx_iload hC dL_law_1633 5 rfl ?_
  refine lx_iconstv (v := 1) hC dL_law_1635 rfl ?_
  refine lx_iadd hC dL_law_1636 ?_
  refine lx_sld (n := 3 * k + 1) hC hS (nI_add (3 * k) 1) (by omega) hL dL_law_1637 ?_
  refine lx_aload_n hC dL_law_1638 rfl 3 rfl ?_
  refine lx_callW (as := [.ref 0, .int (ys (3 * k + 1)), .ref 9]) (rest := []) hC hE (sat_L_loudness (xl X) hl (ys (3 * k + 1)) σ) lc_loudness li_L wd932 ls_loudness ld_loudness (by decide) (by decide) (Nat.le_of_ble_eq_true rfl) dL_law_1639 rfl e1 ?_
  refine lx_istore hC dL_law_1642 (by decide) ?_
  refine lx_aload_n hC dL_law_1644 rfl 3 rfl ?_
  refine lx_aload_n hC dL_law_1645 rfl 1 rfl ?_
  refine lx_iload hC dL_law_1646 6 rfl ?_
  refine lx_iconstv (v := 1) hC dL_law_1648 rfl ?_
  refine lx_iadd hC dL_law_1649 ?_
  refine lx_sld (n := 3 * k + 1) hC hS (nI_add (3 * k) 1) (by omega) hL dL_law_1650 ?_
  refine lx_callL hC (sat_X8_loudness (xl X) hl (ys (3 * k + 1)) s1) (run_V (as := [.int (ys (3 * k + 1))]) (rest := []) hC hE ly8 rfl cw_X8_loudness ci_X8_loudness wd1939 cs_X8_loudness ce_X8_loudness cd_X8_loudness (by decide) (by decide) (Nat.le_of_ble_eq_true rfl) dL_law_1651 rfl) e2 ?_
  refine lx_istore hC dL_law_1654 (by decide) ?_
  refine lx_sub (lv' := (7, .int v2) :: (6, .int v1) :: LV (nI (3 * k))) [0, 1, 2, 3, 4, 5, 6, 7] rfl ?_
  exact tl_I hC hE hl dL_law_1656 dL_law_1657 dL_law_1660 dL_law_1662 dL_law_1667 dL_law_1669 dL_law_1672 dL_law_1673 dL_law_1674 dL_law_1675 dL_law_1677 dL_law_1678 dL_law_1679 dL_law_1684 (by decide) e3 e4 (kk _ _ j)
theorem bk_25 (hC : Cok X V A RL cL_law 9) (hE : Env0 V adV A (xs X) (xs X).heap) (hl : (xl X).stackTraces = false) (hS : Scr X V A L ys) (hL : L ≤ 1536) (hk : 3 * k + 2 < L) (h : J CC SS k σ A0) (kk : ∀ σ1 A1, J CC SS (k + 1) σ1 A1 → LX X V A 2048 94400 c0 s0 F 3341 (LV (nI (3 * k))) [] σ1 r) : LX X V A 2048 94400 c0 s0 F 1687 (LV (nI (3 * k))) [] σ r := by
  obtain ⟨v1, s1, v2, s2, A1, e1, e2, e3, e4, j⟩ := zo_positionInRow (p := (ys (3 * k + 1))) h (by omega)
  refine lx_aload_n hC dL_law_1687 rfl 1 rfl ?_
  refine lx_aload_n hC dL_law_1688 rfl 0 rfl ?_
  refine lx_iload hC dL_law_1689 5 rfl ?_
  refine lx_iconstv (v := 1) hC dL_law_1691 rfl ?_
  refine lx_iadd hC dL_law_1692 ?_
  refine lx_sld (n := 3 * k + 1) hC hS (nI_add (3 * k) 1) (by omega) hL dL_law_1693 ?_
  refine lx_aload_n hC dL_law_1694 rfl 3 rfl ?_
  refine lx_callW (as := [.ref 0, .int (ys (3 * k + 1)), .ref 9]) (rest := []) hC hE (sat_L_positionInRow (xl X) hl (ys (3 * k + 1)) σ) lc_positionInRow li_L wd939 ls_positionInRow ld_positionInRow (by decide) (by decide) (Nat.le_of_ble_eq_true rfl) dL_law_1695 rfl e1 ?_
  refine lx_istore hC dL_law_1698 (by decide) ?_
  refine lx_aload_n hC dL_law_1700 rfl 3 rfl ?_
  refine lx_aload_n hC dL_law_1701 rfl 1 rfl ?_
  refine lx_iload hC dL_law_1702 6 rfl ?_
  refine lx_iconstv (v := 1) hC dL_law_1704 rfl ?_
  refine lx_iadd hC dL_law_1705 ?_
  refine lx_sld (n := 3 * k + 1) hC hS (nI_add (3 * k) 1) (by omega) hL dL_law_1706 ?_
  refine lx_callL hC (sat_X8_positionInRow (xl X) hl (ys (3 * k + 1)) s1) (run_V (as := [.int (ys (3 * k + 1))]) (rest := []) hC hE ly8 rfl cw_X8_positionInRow ci_X8_positionInRow wd1943 cs_X8_positionInRow ce_X8_positionInRow cd_X8_positionInRow (by decide) (by decide) (Nat.le_of_ble_eq_true rfl) dL_law_1707 rfl) e2 ?_
  refine lx_istore hC dL_law_1710 (by decide) ?_
  refine lx_sub (lv' := (7, .int v2) :: (6, .int v1) :: LV (nI (3 * k))) [0, 1, 2, 3, 4, 5, 6, 7] rfl ?_
  exact tl_I hC hE hl dL_law_1712 dL_law_1713 dL_law_1716 dL_law_1718 dL_law_1723 dL_law_1725 dL_law_1728 dL_law_1729 dL_law_1730 dL_law_1731 dL_law_1733 dL_law_1734 dL_law_1735 dL_law_1740 (by decide) e3 e4 (kk _ _ j)
theorem bk_26 (hC : Cok X V A RL cL_law 9) (hE : Env0 V adV A (xs X) (xs X).heap) (hl : (xl X).stackTraces = false) (hS : Scr X V A L ys) (hL : L ≤ 1536) (hk : 3 * k + 2 < L) (h : J CC SS k σ A0) (kk : ∀ σ1 A1, J CC SS (k + 1) σ1 A1 → LX X V A 2048 94400 c0 s0 F 3341 (LV (nI (3 * k))) [] σ1 r) : LX X V A 2048 94400 c0 s0 F 1743 (LV (nI (3 * k))) [] σ r := by
  obtain ⟨v1, s1, v2, s2, A1, e1, e2, e3, e4, j⟩ := zo_hasHeir (p := (ys (3 * k + 1))) h (by omega)
  refine lx_aload_n hC dL_law_1743 rfl 1 rfl ?_
  refine lx_aload_n hC dL_law_1744 rfl 0 rfl ?_
  refine lx_iload hC dL_law_1745 5 rfl ?_
  refine lx_iconstv (v := 1) hC dL_law_1747 rfl ?_
  refine lx_iadd hC dL_law_1748 ?_
  refine lx_sld (n := 3 * k + 1) hC hS (nI_add (3 * k) 1) (by omega) hL dL_law_1749 ?_
  refine lx_aload_n hC dL_law_1750 rfl 3 rfl ?_
  refine lx_callW (as := [.ref 0, .int (ys (3 * k + 1)), .ref 9]) (rest := []) hC hE (sat_L_hasHeir (xl X) hl (ys (3 * k + 1)) σ) lc_hasHeir li_L wd950 ls_hasHeir ld_hasHeir (by decide) (by decide) (Nat.le_of_ble_eq_true rfl) dL_law_1751 rfl e1 ?_
  refine lx_istore hC dL_law_1754 (by decide) ?_
  refine lx_aload_n hC dL_law_1756 rfl 3 rfl ?_
  refine lx_aload_n hC dL_law_1757 rfl 1 rfl ?_
  refine lx_iload hC dL_law_1758 6 rfl ?_
  refine lx_iconstv (v := 1) hC dL_law_1760 rfl ?_
  refine lx_iadd hC dL_law_1761 ?_
  refine lx_sld (n := 3 * k + 1) hC hS (nI_add (3 * k) 1) (by omega) hL dL_law_1762 ?_
  refine lx_callL hC (sat_X8_hasHeir (xl X) hl (ys (3 * k + 1)) s1) (run_V (as := [.int (ys (3 * k + 1))]) (rest := []) hC hE ly8 rfl cw_X8_hasHeir ci_X8_hasHeir wd1951 cs_X8_hasHeir ce_X8_hasHeir cd_X8_hasHeir (by decide) (by decide) (Nat.le_of_ble_eq_true rfl) dL_law_1763 rfl) e2 ?_
  refine lx_istore hC dL_law_1766 (by decide) ?_
  refine lx_sub (lv' := (7, .int v2) :: (6, .int v1) :: LV (nI (3 * k))) [0, 1, 2, 3, 4, 5, 6, 7] rfl ?_
  exact tl_Z hC hE hl dL_law_1768 dL_law_1769 dL_law_1772 dL_law_1774 dL_law_1779 dL_law_1781 dL_law_1784 dL_law_1785 dL_law_1786 dL_law_1787 dL_law_1789 dL_law_1792 dL_law_1793 dL_law_1796 dL_law_1797 dL_law_1798 dL_law_1803 (by decide) e3 e4 (kk _ _ j)
theorem bk_27 (hC : Cok X V A RL cL_law 9) (hE : Env0 V adV A (xs X) (xs X).heap) (hl : (xl X).stackTraces = false) (hS : Scr X V A L ys) (hL : L ≤ 1536) (hk : 3 * k + 2 < L) (h : J CC SS k σ A0) (kk : ∀ σ1 A1, J CC SS (k + 1) σ1 A1 → LX X V A 2048 94400 c0 s0 F 3341 (LV (nI (3 * k))) [] σ1 r) : LX X V A 2048 94400 c0 s0 F 1806 (LV (nI (3 * k))) [] σ r := by
  obtain ⟨v1, s1, v2, s2, A1, e1, e2, e3, e4, j⟩ := zo_heir (p := (ys (3 * k + 1))) h (by omega)
  refine lx_aload_n hC dL_law_1806 rfl 1 rfl ?_
  refine lx_aload_n hC dL_law_1807 rfl 0 rfl ?_
  refine lx_iload hC dL_law_1808 5 rfl ?_
  refine lx_iconstv (v := 1) hC dL_law_1810 rfl ?_
  refine lx_iadd hC dL_law_1811 ?_
  refine lx_sld (n := 3 * k + 1) hC hS (nI_add (3 * k) 1) (by omega) hL dL_law_1812 ?_
  refine lx_aload_n hC dL_law_1813 rfl 3 rfl ?_
  refine lx_callW (as := [.ref 0, .int (ys (3 * k + 1)), .ref 9]) (rest := []) hC hE (sat_L_heir (xl X) hl (ys (3 * k + 1)) σ) lc_heir li_L wd957 ls_heir ld_heir (by decide) (by decide) (Nat.le_of_ble_eq_true rfl) dL_law_1814 rfl e1 ?_
  refine lx_istore hC dL_law_1817 (by decide) ?_
  refine lx_aload_n hC dL_law_1819 rfl 3 rfl ?_
  refine lx_aload_n hC dL_law_1820 rfl 1 rfl ?_
  refine lx_iload hC dL_law_1821 6 rfl ?_
  refine lx_iconstv (v := 1) hC dL_law_1823 rfl ?_
  refine lx_iadd hC dL_law_1824 ?_
  refine lx_sld (n := 3 * k + 1) hC hS (nI_add (3 * k) 1) (by omega) hL dL_law_1825 ?_
  refine lx_callL hC (sat_X8_heir (xl X) hl (ys (3 * k + 1)) s1) (run_V (as := [.int (ys (3 * k + 1))]) (rest := []) hC hE ly8 rfl cw_X8_heir ci_X8_heir wd1955 cs_X8_heir ce_X8_heir cd_X8_heir (by decide) (by decide) (Nat.le_of_ble_eq_true rfl) dL_law_1826 rfl) e2 ?_
  refine lx_istore hC dL_law_1829 (by decide) ?_
  refine lx_sub (lv' := (7, .int v2) :: (6, .int v1) :: LV (nI (3 * k))) [0, 1, 2, 3, 4, 5, 6, 7] rfl ?_
  exact tl_I hC hE hl dL_law_1831 dL_law_1832 dL_law_1835 dL_law_1837 dL_law_1842 dL_law_1844 dL_law_1847 dL_law_1848 dL_law_1849 dL_law_1850 dL_law_1852 dL_law_1853 dL_law_1854 dL_law_1859 (by decide) e3 e4 (kk _ _ j)
theorem bk_28 (hC : Cok X V A RL cL_law 9) (hE : Env0 V adV A (xs X) (xs X).heap) (hl : (xl X).stackTraces = false) (hS : Scr X V A L ys) (hL : L ≤ 1536) (hk : 3 * k + 2 < L) (h : J CC SS k σ A0) (kk : ∀ σ1 A1, J CC SS (k + 1) σ1 A1 → LX X V A 2048 94400 c0 s0 F 3341 (LV (nI (3 * k))) [] σ1 r) : LX X V A 2048 94400 c0 s0 F 1862 (LV (nI (3 * k))) [] σ r := by
  obtain ⟨v1, s1, v2, s2, A1, e1, e2, e3, e4, j⟩ := zo_lastHeir (p := (ys (3 * k + 1))) h (by omega)
  refine lx_aload_n hC dL_law_1862 rfl 1 rfl ?_
  refine lx_aload_n hC dL_law_1863 rfl 0 rfl ?_
  refine lx_iload hC dL_law_1864 5 rfl ?_
  refine lx_iconstv (v := 1) hC dL_law_1866 rfl ?_
  refine lx_iadd hC dL_law_1867 ?_
  refine lx_sld (n := 3 * k + 1) hC hS (nI_add (3 * k) 1) (by omega) hL dL_law_1868 ?_
  refine lx_aload_n hC dL_law_1869 rfl 3 rfl ?_
  refine lx_callW (as := [.ref 0, .int (ys (3 * k + 1)), .ref 9]) (rest := []) hC hE (sat_L_lastHeir (xl X) hl (ys (3 * k + 1)) σ) lc_lastHeir li_L wd965 ls_lastHeir ld_lastHeir (by decide) (by decide) (Nat.le_of_ble_eq_true rfl) dL_law_1870 rfl e1 ?_
  refine lx_istore hC dL_law_1873 (by decide) ?_
  refine lx_aload_n hC dL_law_1875 rfl 3 rfl ?_
  refine lx_aload_n hC dL_law_1876 rfl 1 rfl ?_
  refine lx_iload hC dL_law_1877 6 rfl ?_
  refine lx_iconstv (v := 1) hC dL_law_1879 rfl ?_
  refine lx_iadd hC dL_law_1880 ?_
  refine lx_sld (n := 3 * k + 1) hC hS (nI_add (3 * k) 1) (by omega) hL dL_law_1881 ?_
  refine lx_callL hC (sat_X8_lastHeir (xl X) hl (ys (3 * k + 1)) s1) (run_V (as := [.int (ys (3 * k + 1))]) (rest := []) hC hE ly8 rfl cw_X8_lastHeir ci_X8_lastHeir wd1959 cs_X8_lastHeir ce_X8_lastHeir cd_X8_lastHeir (by decide) (by decide) (Nat.le_of_ble_eq_true rfl) dL_law_1882 rfl) e2 ?_
  refine lx_istore hC dL_law_1885 (by decide) ?_
  refine lx_sub (lv' := (7, .int v2) :: (6, .int v1) :: LV (nI (3 * k))) [0, 1, 2, 3, 4, 5, 6, 7] rfl ?_
  exact tl_I hC hE hl dL_law_1887 dL_law_1888 dL_law_1891 dL_law_1893 dL_law_1898 dL_law_1900 dL_law_1903 dL_law_1904 dL_law_1905 dL_law_1906 dL_law_1908 dL_law_1909 dL_law_1910 dL_law_1915 (by decide) e3 e4 (kk _ _ j)
theorem bk_29 (hC : Cok X V A RL cL_law 9) (hE : Env0 V adV A (xs X) (xs X).heap) (hl : (xl X).stackTraces = false) (hS : Scr X V A L ys) (hL : L ≤ 1536) (hk : 3 * k + 2 < L) (h : J CC SS k σ A0) (kk : ∀ σ1 A1, J CC SS (k + 1) σ1 A1 → LX X V A 2048 94400 c0 s0 F 3341 (LV (nI (3 * k))) [] σ1 r) : LX X V A 2048 94400 c0 s0 F 1918 (LV (nI (3 * k))) [] σ r := by
  obtain ⟨v1, s1, v2, s2, A1, e1, e2, e3, e4, j⟩ := zo_lastHeirByDoubling (p := (ys (3 * k + 1))) h (by omega)
  refine lx_aload_n hC dL_law_1918 rfl 1 rfl ?_
  refine lx_aload_n hC dL_law_1919 rfl 0 rfl ?_
  refine lx_iload hC dL_law_1920 5 rfl ?_
  refine lx_iconstv (v := 1) hC dL_law_1922 rfl ?_
  refine lx_iadd hC dL_law_1923 ?_
  refine lx_sld (n := 3 * k + 1) hC hS (nI_add (3 * k) 1) (by omega) hL dL_law_1924 ?_
  refine lx_aload_n hC dL_law_1925 rfl 3 rfl ?_
  refine lx_callW (as := [.ref 0, .int (ys (3 * k + 1)), .ref 9]) (rest := []) hC hE (sat_L_lastHeirByDoubling (xl X) hl (ys (3 * k + 1)) σ) lc_lastHeirByDoubling li_L wd972 ls_lastHeirByDoubling ld_lastHeirByDoubling (by decide) (by decide) (Nat.le_of_ble_eq_true rfl) dL_law_1926 rfl e1 ?_
  refine lx_istore hC dL_law_1929 (by decide) ?_
  refine lx_aload_n hC dL_law_1931 rfl 3 rfl ?_
  refine lx_aload_n hC dL_law_1932 rfl 1 rfl ?_
  refine lx_iload hC dL_law_1933 6 rfl ?_
  refine lx_iconstv (v := 1) hC dL_law_1935 rfl ?_
  refine lx_iadd hC dL_law_1936 ?_
  refine lx_sld (n := 3 * k + 1) hC hS (nI_add (3 * k) 1) (by omega) hL dL_law_1937 ?_
  refine lx_callL hC (sat_X8_lastHeirByDoubling (xl X) hl (ys (3 * k + 1)) s1) (run_V (as := [.int (ys (3 * k + 1))]) (rest := []) hC hE ly8 rfl cw_X8_lastHeirByDoubling ci_X8_lastHeirByDoubling wd1967 cs_X8_lastHeirByDoubling ce_X8_lastHeirByDoubling cd_X8_lastHeirByDoubling (by decide) (by decide) (Nat.le_of_ble_eq_true rfl) dL_law_1938 rfl) e2 ?_
  refine lx_istore hC dL_law_1941 (by decide) ?_
  refine lx_sub (lv' := (7, .int v2) :: (6, .int v1) :: LV (nI (3 * k))) [0, 1, 2, 3, 4, 5, 6, 7] rfl ?_
  exact tl_I hC hE hl dL_law_1943 dL_law_1944 dL_law_1947 dL_law_1949 dL_law_1954 dL_law_1956 dL_law_1959 dL_law_1960 dL_law_1961 dL_law_1962 dL_law_1964 dL_law_1965 dL_law_1966 dL_law_1971 (by decide) e3 e4 (kk _ _ j)
theorem bk_30 (hC : Cok X V A RL cL_law 9) (hE : Env0 V adV A (xs X) (xs X).heap) (hl : (xl X).stackTraces = false) (hS : Scr X V A L ys) (hL : L ≤ 1536) (hk : 3 * k + 2 < L) (h : J CC SS k σ A0) (kk : ∀ σ1 A1, J CC SS (k + 1) σ1 A1 → LX X V A 2048 94400 c0 s0 F 3341 (LV (nI (3 * k))) [] σ1 r) : LX X V A 2048 94400 c0 s0 F 1974 (LV (nI (3 * k))) [] σ r := by
  obtain ⟨v1, s1, v2, s2, A1, e1, e2, e3, e4, j⟩ := zo_stepsToLastHeir (p := (ys (3 * k + 1))) h (by omega)
  refine lx_aload_n hC dL_law_1974 rfl 1 rfl ?_
  refine lx_aload_n hC dL_law_1975 rfl 0 rfl ?_
  refine lx_iload hC dL_law_1976 5 rfl ?_
  refine lx_iconstv (v := 1) hC dL_law_1978 rfl ?_
  refine lx_iadd hC dL_law_1979 ?_
  refine lx_sld (n := 3 * k + 1) hC hS (nI_add (3 * k) 1) (by omega) hL dL_law_1980 ?_
  refine lx_aload_n hC dL_law_1981 rfl 3 rfl ?_
  refine lx_callW (as := [.ref 0, .int (ys (3 * k + 1)), .ref 9]) (rest := []) hC hE (sat_L_stepsToLastHeir (xl X) hl (ys (3 * k + 1)) σ) lc_stepsToLastHeir li_L wd979 ls_stepsToLastHeir ld_stepsToLastHeir (by decide) (by decide) (Nat.le_of_ble_eq_true rfl) dL_law_1982 rfl e1 ?_
  refine lx_istore hC dL_law_1985 (by decide) ?_
  refine lx_aload_n hC dL_law_1987 rfl 3 rfl ?_
  refine lx_aload_n hC dL_law_1988 rfl 1 rfl ?_
  refine lx_iload hC dL_law_1989 6 rfl ?_
  refine lx_iconstv (v := 1) hC dL_law_1991 rfl ?_
  refine lx_iadd hC dL_law_1992 ?_
  refine lx_sld (n := 3 * k + 1) hC hS (nI_add (3 * k) 1) (by omega) hL dL_law_1993 ?_
  refine lx_callL hC (sat_X8_stepsToLastHeir (xl X) hl (ys (3 * k + 1)) s1) (run_V (as := [.int (ys (3 * k + 1))]) (rest := []) hC hE ly8 rfl cw_X8_stepsToLastHeir ci_X8_stepsToLastHeir wd1972 cs_X8_stepsToLastHeir ce_X8_stepsToLastHeir cd_X8_stepsToLastHeir (by decide) (by decide) (Nat.le_of_ble_eq_true rfl) dL_law_1994 rfl) e2 ?_
  refine lx_istore hC dL_law_1997 (by decide) ?_
  refine lx_sub (lv' := (7, .int v2) :: (6, .int v1) :: LV (nI (3 * k))) [0, 1, 2, 3, 4, 5, 6, 7] rfl ?_
  exact tl_I hC hE hl dL_law_1999 dL_law_2000 dL_law_2003 dL_law_2005 dL_law_2010 dL_law_2012 dL_law_2015 dL_law_2016 dL_law_2017 dL_law_2018 dL_law_2020 dL_law_2021 dL_law_2022 dL_law_2027 (by decide) e3 e4 (kk _ _ j)
theorem bk_31 (hC : Cok X V A RL cL_law 9) (hE : Env0 V adV A (xs X) (xs X).heap) (hl : (xl X).stackTraces = false) (hS : Scr X V A L ys) (hL : L ≤ 1536) (hk : 3 * k + 2 < L) (h : J CC SS k σ A0) (kk : ∀ σ1 A1, J CC SS (k + 1) σ1 A1 → LX X V A 2048 94400 c0 s0 F 3341 (LV (nI (3 * k))) [] σ1 r) : LX X V A 2048 94400 c0 s0 F 2030 (LV (nI (3 * k))) [] σ r := by
  obtain ⟨v1, s1, v2, s2, A1, e1, e2, e3, e4, j⟩ := zo_bequeathers (p := (ys (3 * k + 1))) h (by omega)
  refine lx_aload_n hC dL_law_2030 rfl 1 rfl ?_
  refine lx_aload_n hC dL_law_2031 rfl 0 rfl ?_
  refine lx_iload hC dL_law_2032 5 rfl ?_
  refine lx_iconstv (v := 1) hC dL_law_2034 rfl ?_
  refine lx_iadd hC dL_law_2035 ?_
  refine lx_sld (n := 3 * k + 1) hC hS (nI_add (3 * k) 1) (by omega) hL dL_law_2036 ?_
  refine lx_aload_n hC dL_law_2037 rfl 3 rfl ?_
  refine lx_callW (as := [.ref 0, .int (ys (3 * k + 1)), .ref 9]) (rest := []) hC hE (sat_L_bequeathers (xl X) hl (ys (3 * k + 1)) σ) lc_bequeathers li_L wd990 ls_bequeathers ld_bequeathers (by decide) (by decide) (Nat.le_of_ble_eq_true rfl) dL_law_2038 rfl e1 ?_
  refine lx_istore hC dL_law_2041 (by decide) ?_
  refine lx_aload_n hC dL_law_2043 rfl 3 rfl ?_
  refine lx_aload_n hC dL_law_2044 rfl 1 rfl ?_
  refine lx_iload hC dL_law_2045 6 rfl ?_
  refine lx_iconstv (v := 1) hC dL_law_2047 rfl ?_
  refine lx_iadd hC dL_law_2048 ?_
  refine lx_sld (n := 3 * k + 1) hC hS (nI_add (3 * k) 1) (by omega) hL dL_law_2049 ?_
  refine lx_callL hC (sat_X8_bequeathers (xl X) hl (ys (3 * k + 1)) s1) (run_V (as := [.int (ys (3 * k + 1))]) (rest := []) hC hE ly8 rfl cw_X8_bequeathers ci_X8_bequeathers wd1976 cs_X8_bequeathers ce_X8_bequeathers cd_X8_bequeathers (by decide) (by decide) (Nat.le_of_ble_eq_true rfl) dL_law_2050 rfl) e2 ?_
  refine lx_istore hC dL_law_2053 (by decide) ?_
  refine lx_sub (lv' := (7, .int v2) :: (6, .int v1) :: LV (nI (3 * k))) [0, 1, 2, 3, 4, 5, 6, 7] rfl ?_
  exact tl_I hC hE hl dL_law_2055 dL_law_2056 dL_law_2059 dL_law_2061 dL_law_2066 dL_law_2068 dL_law_2071 dL_law_2072 dL_law_2073 dL_law_2074 dL_law_2076 dL_law_2077 dL_law_2078 dL_law_2083 (by decide) e3 e4 (kk _ _ j)
theorem bk_32 (hC : Cok X V A RL cL_law 9) (hE : Env0 V adV A (xs X) (xs X).heap) (hl : (xl X).stackTraces = false) (hS : Scr X V A L ys) (hL : L ≤ 1536) (hk : 3 * k + 2 < L) (h : J CC SS k σ A0) (kk : ∀ σ1 A1, J CC SS (k + 1) σ1 A1 → LX X V A 2048 94400 c0 s0 F 3341 (LV (nI (3 * k))) [] σ1 r) : LX X V A 2048 94400 c0 s0 F 2086 (LV (nI (3 * k))) [] σ r := by
  obtain ⟨v1, s1, v2, s2, A1, e1, e2, e3, e4, j⟩ := zo_countInRows (p := (ys (3 * k + 1))) (q := (ys (3 * k + 2))) h (by omega)
  refine lx_aload_n hC dL_law_2086 rfl 1 rfl ?_
  refine lx_aload_n hC dL_law_2087 rfl 0 rfl ?_
  refine lx_iload hC dL_law_2088 5 rfl ?_
  refine lx_iconstv (v := 1) hC dL_law_2090 rfl ?_
  refine lx_iadd hC dL_law_2091 ?_
  refine lx_sld (n := 3 * k + 1) hC hS (nI_add (3 * k) 1) (by omega) hL dL_law_2092 ?_
  refine lx_aload_n hC dL_law_2093 rfl 0 rfl ?_
  refine lx_iload hC dL_law_2094 5 rfl ?_
  refine lx_iconstv (v := 2) hC dL_law_2096 rfl ?_
  refine lx_iadd hC dL_law_2097 ?_
  refine lx_sld (n := 3 * k + 2) hC hS (nI_add (3 * k) 2) (by omega) hL dL_law_2098 ?_
  refine lx_aload_n hC dL_law_2099 rfl 3 rfl ?_
  refine lx_callW (as := [.ref 0, .int (ys (3 * k + 1)), .int (ys (3 * k + 2)), .ref 9]) (rest := []) hC hE (sat_L_countInRows (xl X) hl (ys (3 * k + 1)) (ys (3 * k + 2)) σ) lc_countInRows li_L wd1001 ls_countInRows ld_countInRows (by decide) (by decide) (Nat.le_of_ble_eq_true rfl) dL_law_2100 rfl e1 ?_
  refine lx_istore hC dL_law_2103 (by decide) ?_
  refine lx_aload_n hC dL_law_2105 rfl 3 rfl ?_
  refine lx_aload_n hC dL_law_2106 rfl 1 rfl ?_
  refine lx_iload hC dL_law_2107 6 rfl ?_
  refine lx_iconstv (v := 1) hC dL_law_2109 rfl ?_
  refine lx_iadd hC dL_law_2110 ?_
  refine lx_sld (n := 3 * k + 1) hC hS (nI_add (3 * k) 1) (by omega) hL dL_law_2111 ?_
  refine lx_aload_n hC dL_law_2112 rfl 1 rfl ?_
  refine lx_iload hC dL_law_2113 6 rfl ?_
  refine lx_iconstv (v := 2) hC dL_law_2115 rfl ?_
  refine lx_iadd hC dL_law_2116 ?_
  refine lx_sld (n := 3 * k + 2) hC hS (nI_add (3 * k) 2) (by omega) hL dL_law_2117 ?_
  refine lx_callL hC (sat_X8_countInRows (xl X) hl (ys (3 * k + 1)) (ys (3 * k + 2)) s1) (run_V (as := [.int (ys (3 * k + 1)), .int (ys (3 * k + 2))]) (rest := []) hC hE ly8 rfl cw_X8_countInRows ci_X8_countInRows wd1980 cs_X8_countInRows ce_X8_countInRows cd_X8_countInRows (by decide) (by decide) (Nat.le_of_ble_eq_true rfl) dL_law_2118 rfl) e2 ?_
  refine lx_istore hC dL_law_2121 (by decide) ?_
  refine lx_sub (lv' := (7, .int v2) :: (6, .int v1) :: LV (nI (3 * k))) [0, 1, 2, 3, 4, 5, 6, 7] rfl ?_
  exact tl_I hC hE hl dL_law_2123 dL_law_2124 dL_law_2127 dL_law_2129 dL_law_2134 dL_law_2136 dL_law_2139 dL_law_2140 dL_law_2141 dL_law_2142 dL_law_2144 dL_law_2145 dL_law_2146 dL_law_2151 (by decide) e3 e4 (kk _ _ j)
theorem bk_33 (hC : Cok X V A RL cL_law 9) (hE : Env0 V adV A (xs X) (xs X).heap) (hl : (xl X).stackTraces = false) (hS : Scr X V A L ys) (hL : L ≤ 1536) (hk : 3 * k + 2 < L) (h : J CC SS k σ A0) (kk : ∀ σ1 A1, J CC SS (k + 1) σ1 A1 → LX X V A 2048 94400 c0 s0 F 3341 (LV (nI (3 * k))) [] σ1 r) : LX X V A 2048 94400 c0 s0 F 2154 (LV (nI (3 * k))) [] σ r := by
  obtain ⟨v1, s1, v2, s2, A1, e1, e2, e3, e4, j⟩ := zo_countInRowsByTree (p := (ys (3 * k + 1))) (q := (ys (3 * k + 2))) h (by omega)
  refine lx_aload_n hC dL_law_2154 rfl 1 rfl ?_
  refine lx_aload_n hC dL_law_2155 rfl 0 rfl ?_
  refine lx_iload hC dL_law_2156 5 rfl ?_
  refine lx_iconstv (v := 1) hC dL_law_2158 rfl ?_
  refine lx_iadd hC dL_law_2159 ?_
  refine lx_sld (n := 3 * k + 1) hC hS (nI_add (3 * k) 1) (by omega) hL dL_law_2160 ?_
  refine lx_aload_n hC dL_law_2161 rfl 0 rfl ?_
  refine lx_iload hC dL_law_2162 5 rfl ?_
  refine lx_iconstv (v := 2) hC dL_law_2164 rfl ?_
  refine lx_iadd hC dL_law_2165 ?_
  refine lx_sld (n := 3 * k + 2) hC hS (nI_add (3 * k) 2) (by omega) hL dL_law_2166 ?_
  refine lx_aload_n hC dL_law_2167 rfl 3 rfl ?_
  refine lx_callW (as := [.ref 0, .int (ys (3 * k + 1)), .int (ys (3 * k + 2)), .ref 9]) (rest := []) hC hE (sat_L_countInRowsByTree (xl X) hl (ys (3 * k + 1)) (ys (3 * k + 2)) σ) lc_countInRowsByTree li_L wd1013 ls_countInRowsByTree ld_countInRowsByTree (by decide) (by decide) (Nat.le_of_ble_eq_true rfl) dL_law_2168 rfl e1 ?_
  refine lx_istore hC dL_law_2171 (by decide) ?_
  refine lx_aload_n hC dL_law_2173 rfl 3 rfl ?_
  refine lx_aload_n hC dL_law_2174 rfl 1 rfl ?_
  refine lx_iload hC dL_law_2175 6 rfl ?_
  refine lx_iconstv (v := 1) hC dL_law_2177 rfl ?_
  refine lx_iadd hC dL_law_2178 ?_
  refine lx_sld (n := 3 * k + 1) hC hS (nI_add (3 * k) 1) (by omega) hL dL_law_2179 ?_
  refine lx_aload_n hC dL_law_2180 rfl 1 rfl ?_
  refine lx_iload hC dL_law_2181 6 rfl ?_
  refine lx_iconstv (v := 2) hC dL_law_2183 rfl ?_
  refine lx_iadd hC dL_law_2184 ?_
  refine lx_sld (n := 3 * k + 2) hC hS (nI_add (3 * k) 2) (by omega) hL dL_law_2185 ?_
  refine lx_callL hC (sat_X8_countInRowsByTree (xl X) hl (ys (3 * k + 1)) (ys (3 * k + 2)) s1) (run_V (as := [.int (ys (3 * k + 1)), .int (ys (3 * k + 2))]) (rest := []) hC hE ly8 rfl cw_X8_countInRowsByTree ci_X8_countInRowsByTree wd1984 cs_X8_countInRowsByTree ce_X8_countInRowsByTree cd_X8_countInRowsByTree (by decide) (by decide) (Nat.le_of_ble_eq_true rfl) dL_law_2186 rfl) e2 ?_
  refine lx_istore hC dL_law_2189 (by decide) ?_
  refine lx_sub (lv' := (7, .int v2) :: (6, .int v1) :: LV (nI (3 * k))) [0, 1, 2, 3, 4, 5, 6, 7] rfl ?_
  exact tl_I hC hE hl dL_law_2191 dL_law_2192 dL_law_2195 dL_law_2197 dL_law_2202 dL_law_2204 dL_law_2207 dL_law_2208 dL_law_2209 dL_law_2210 dL_law_2212 dL_law_2213 dL_law_2214 dL_law_2219 (by decide) e3 e4 (kk _ _ j)
theorem bk_34 (hC : Cok X V A RL cL_law 9) (hE : Env0 V adV A (xs X) (xs X).heap) (hl : (xl X).stackTraces = false) (hS : Scr X V A L ys) (hL : L ≤ 1536) (hk : 3 * k + 2 < L) (h : J CC SS k σ A0) (kk : ∀ σ1 A1, J CC SS (k + 1) σ1 A1 → LX X V A 2048 94400 c0 s0 F 3341 (LV (nI (3 * k))) [] σ1 r) : LX X V A 2048 94400 c0 s0 F 2222 (LV (nI (3 * k))) [] σ r := by
  obtain ⟨v1, s1, v2, s2, A1, e1, e2, e3, e4, j⟩ := zo_idByRank (p := (ys (3 * k + 1))) h (by omega)
  refine lx_aload_n hC dL_law_2222 rfl 1 rfl ?_
  refine lx_aload_n hC dL_law_2223 rfl 0 rfl ?_
  refine lx_iload hC dL_law_2224 5 rfl ?_
  refine lx_iconstv (v := 1) hC dL_law_2226 rfl ?_
  refine lx_iadd hC dL_law_2227 ?_
  refine lx_sld (n := 3 * k + 1) hC hS (nI_add (3 * k) 1) (by omega) hL dL_law_2228 ?_
  refine lx_aload_n hC dL_law_2229 rfl 3 rfl ?_
  refine lx_callW (as := [.ref 0, .int (ys (3 * k + 1)), .ref 9]) (rest := []) hC hE (sat_L_idByRank (xl X) hl (ys (3 * k + 1)) σ) lc_idByRank li_L wd1020 ls_idByRank ld_idByRank (by decide) (by decide) (Nat.le_of_ble_eq_true rfl) dL_law_2230 rfl e1 ?_
  refine lx_istore hC dL_law_2233 (by decide) ?_
  refine lx_aload_n hC dL_law_2235 rfl 3 rfl ?_
  refine lx_aload_n hC dL_law_2236 rfl 1 rfl ?_
  refine lx_iload hC dL_law_2237 6 rfl ?_
  refine lx_iconstv (v := 1) hC dL_law_2239 rfl ?_
  refine lx_iadd hC dL_law_2240 ?_
  refine lx_sld (n := 3 * k + 1) hC hS (nI_add (3 * k) 1) (by omega) hL dL_law_2241 ?_
  refine lx_callL hC (sat_X8_idByRank (xl X) hl (ys (3 * k + 1)) s1) (run_V (as := [.int (ys (3 * k + 1))]) (rest := []) hC hE ly8 rfl cw_X8_idByRank ci_X8_idByRank wd1989 cs_X8_idByRank ce_X8_idByRank cd_X8_idByRank (by decide) (by decide) (Nat.le_of_ble_eq_true rfl) dL_law_2242 rfl) e2 ?_
  refine lx_istore hC dL_law_2245 (by decide) ?_
  refine lx_sub (lv' := (7, .int v2) :: (6, .int v1) :: LV (nI (3 * k))) [0, 1, 2, 3, 4, 5, 6, 7] rfl ?_
  exact tl_I hC hE hl dL_law_2247 dL_law_2248 dL_law_2251 dL_law_2253 dL_law_2258 dL_law_2260 dL_law_2263 dL_law_2264 dL_law_2265 dL_law_2266 dL_law_2268 dL_law_2269 dL_law_2270 dL_law_2275 (by decide) e3 e4 (kk _ _ j)
theorem bk_35 (hC : Cok X V A RL cL_law 9) (hE : Env0 V adV A (xs X) (xs X).heap) (hl : (xl X).stackTraces = false) (hS : Scr X V A L ys) (hL : L ≤ 1536) (hk : 3 * k + 2 < L) (h : J CC SS k σ A0) (kk : ∀ σ1 A1, J CC SS (k + 1) σ1 A1 → LX X V A 2048 94400 c0 s0 F 3341 (LV (nI (3 * k))) [] σ1 r) : LX X V A 2048 94400 c0 s0 F 2278 (LV (nI (3 * k))) [] σ r := by
  obtain ⟨v1, s1, v2, s2, A1, e1, e2, e3, e4, j⟩ := zo_idByRankByTree (p := (ys (3 * k + 1))) h (by omega)
  refine lx_aload_n hC dL_law_2278 rfl 1 rfl ?_
  refine lx_aload_n hC dL_law_2279 rfl 0 rfl ?_
  refine lx_iload hC dL_law_2280 5 rfl ?_
  refine lx_iconstv (v := 1) hC dL_law_2282 rfl ?_
  refine lx_iadd hC dL_law_2283 ?_
  refine lx_sld (n := 3 * k + 1) hC hS (nI_add (3 * k) 1) (by omega) hL dL_law_2284 ?_
  refine lx_aload_n hC dL_law_2285 rfl 3 rfl ?_
  refine lx_callW (as := [.ref 0, .int (ys (3 * k + 1)), .ref 9]) (rest := []) hC hE (sat_L_idByRankByTree (xl X) hl (ys (3 * k + 1)) σ) lc_idByRankByTree li_L wd1032 ls_idByRankByTree ld_idByRankByTree (by decide) (by decide) (Nat.le_of_ble_eq_true rfl) dL_law_2286 rfl e1 ?_
  refine lx_istore hC dL_law_2289 (by decide) ?_
  refine lx_aload_n hC dL_law_2291 rfl 3 rfl ?_
  refine lx_aload_n hC dL_law_2292 rfl 1 rfl ?_
  refine lx_iload hC dL_law_2293 6 rfl ?_
  refine lx_iconstv (v := 1) hC dL_law_2295 rfl ?_
  refine lx_iadd hC dL_law_2296 ?_
  refine lx_sld (n := 3 * k + 1) hC hS (nI_add (3 * k) 1) (by omega) hL dL_law_2297 ?_
  refine lx_callL hC (sat_X8_idByRankByTree (xl X) hl (ys (3 * k + 1)) s1) (run_V (as := [.int (ys (3 * k + 1))]) (rest := []) hC hE ly8 rfl cw_X8_idByRankByTree ci_X8_idByRankByTree wd1997 cs_X8_idByRankByTree ce_X8_idByRankByTree cd_X8_idByRankByTree (by decide) (by decide) (Nat.le_of_ble_eq_true rfl) dL_law_2298 rfl) e2 ?_
  refine lx_istore hC dL_law_2301 (by decide) ?_
  refine lx_sub (lv' := (7, .int v2) :: (6, .int v1) :: LV (nI (3 * k))) [0, 1, 2, 3, 4, 5, 6, 7] rfl ?_
  exact tl_I hC hE hl dL_law_2303 dL_law_2304 dL_law_2307 dL_law_2309 dL_law_2314 dL_law_2316 dL_law_2319 dL_law_2320 dL_law_2321 dL_law_2322 dL_law_2324 dL_law_2325 dL_law_2326 dL_law_2331 (by decide) e3 e4 (kk _ _ j)
theorem bk_36 (hC : Cok X V A RL cL_law 9) (hE : Env0 V adV A (xs X) (xs X).heap) (hl : (xl X).stackTraces = false) (hS : Scr X V A L ys) (hL : L ≤ 1536) (hk : 3 * k + 2 < L) (h : J CC SS k σ A0) (kk : ∀ σ1 A1, J CC SS (k + 1) σ1 A1 → LX X V A 2048 94400 c0 s0 F 3341 (LV (nI (3 * k))) [] σ1 r) : LX X V A 2048 94400 c0 s0 F 2334 (LV (nI (3 * k))) [] σ r := by
  obtain ⟨v1, s1, v2, s2, A1, e1, e2, e3, e4, j⟩ := zo_rank (p := (ys (3 * k + 1))) h (by omega)
  refine lx_aload_n hC dL_law_2334 rfl 1 rfl ?_
  refine lx_aload_n hC dL_law_2335 rfl 0 rfl ?_
  refine lx_iload hC dL_law_2336 5 rfl ?_
  refine lx_iconstv (v := 1) hC dL_law_2338 rfl ?_
  refine lx_iadd hC dL_law_2339 ?_
  refine lx_sld (n := 3 * k + 1) hC hS (nI_add (3 * k) 1) (by omega) hL dL_law_2340 ?_
  refine lx_aload_n hC dL_law_2341 rfl 3 rfl ?_
  refine lx_callW (as := [.ref 0, .int (ys (3 * k + 1)), .ref 9]) (rest := []) hC hE (sat_L_rank (xl X) hl (ys (3 * k + 1)) σ) lc_rank li_L wd1039 ls_rank ld_rank (by decide) (by decide) (Nat.le_of_ble_eq_true rfl) dL_law_2342 rfl e1 ?_
  refine lx_istore hC dL_law_2345 (by decide) ?_
  refine lx_aload_n hC dL_law_2347 rfl 3 rfl ?_
  refine lx_aload_n hC dL_law_2348 rfl 1 rfl ?_
  refine lx_iload hC dL_law_2349 6 rfl ?_
  refine lx_iconstv (v := 1) hC dL_law_2351 rfl ?_
  refine lx_iadd hC dL_law_2352 ?_
  refine lx_sld (n := 3 * k + 1) hC hS (nI_add (3 * k) 1) (by omega) hL dL_law_2353 ?_
  refine lx_callL hC (sat_X8_rank (xl X) hl (ys (3 * k + 1)) s1) (run_V (as := [.int (ys (3 * k + 1))]) (rest := []) hC hE ly8 rfl cw_X8_rank ci_X8_rank wd2002 cs_X8_rank ce_X8_rank cd_X8_rank (by decide) (by decide) (Nat.le_of_ble_eq_true rfl) dL_law_2354 rfl) e2 ?_
  refine lx_istore hC dL_law_2357 (by decide) ?_
  refine lx_sub (lv' := (7, .int v2) :: (6, .int v1) :: LV (nI (3 * k))) [0, 1, 2, 3, 4, 5, 6, 7] rfl ?_
  exact tl_I hC hE hl dL_law_2359 dL_law_2360 dL_law_2363 dL_law_2365 dL_law_2370 dL_law_2372 dL_law_2375 dL_law_2376 dL_law_2377 dL_law_2378 dL_law_2380 dL_law_2381 dL_law_2382 dL_law_2387 (by decide) e3 e4 (kk _ _ j)
theorem bk_37 (hC : Cok X V A RL cL_law 9) (hE : Env0 V adV A (xs X) (xs X).heap) (hl : (xl X).stackTraces = false) (hS : Scr X V A L ys) (hL : L ≤ 1536) (hk : 3 * k + 2 < L) (h : J CC SS k σ A0) (kk : ∀ σ1 A1, J CC SS (k + 1) σ1 A1 → LX X V A 2048 94400 c0 s0 F 3341 (LV (nI (3 * k))) [] σ1 r) : LX X V A 2048 94400 c0 s0 F 2390 (LV (nI (3 * k))) [] σ r := by
  obtain ⟨v1, s1, v2, s2, A1, e1, e2, e3, e4, j⟩ := zo_loudest  h (by omega)
  refine lx_aload_n hC dL_law_2390 rfl 1 rfl ?_
  refine lx_aload_n hC dL_law_2391 rfl 3 rfl ?_
  refine lx_callW (as := [.ref 0, .ref 9]) (rest := []) hC hE (sat_L_loudest (xl X) hl σ) lc_loudest li_L wd1052 ls_loudest ld_loudest (by decide) (by decide) (Nat.le_of_ble_eq_true rfl) dL_law_2392 rfl e1 ?_
  refine lx_istore hC dL_law_2395 (by decide) ?_
  refine lx_aload_n hC dL_law_2397 rfl 3 rfl ?_
  refine lx_callL hC (sat_X8_loudest (xl X) hl s1) (run_V (as := []) (rest := []) hC hE ly8 rfl cw_X8_loudest ci_X8_loudest wd2006 cs_X8_loudest ce_X8_loudest cd_X8_loudest (by decide) (by decide) (Nat.le_of_ble_eq_true rfl) dL_law_2398 rfl) e2 ?_
  refine lx_istore hC dL_law_2401 (by decide) ?_
  refine lx_sub (lv' := (7, .int v2) :: (6, .int v1) :: LV (nI (3 * k))) [0, 1, 2, 3, 4, 5, 6, 7] rfl ?_
  exact tl_I hC hE hl dL_law_2403 dL_law_2404 dL_law_2407 dL_law_2409 dL_law_2414 dL_law_2416 dL_law_2419 dL_law_2420 dL_law_2421 dL_law_2422 dL_law_2424 dL_law_2425 dL_law_2426 dL_law_2431 (by decide) e3 e4 (kk _ _ j)
theorem bk_38 (hC : Cok X V A RL cL_law 9) (hE : Env0 V adV A (xs X) (xs X).heap) (hl : (xl X).stackTraces = false) (hS : Scr X V A L ys) (hL : L ≤ 1536) (hk : 3 * k + 2 < L) (h : J CC SS k σ A0) (kk : ∀ σ1 A1, J CC SS (k + 1) σ1 A1 → LX X V A 2048 94400 c0 s0 F 3341 (LV (nI (3 * k))) [] σ1 r) : LX X V A 2048 94400 c0 s0 F 2434 (LV (nI (3 * k))) [] σ r := by
  obtain ⟨v1, s1, v2, s2, A1, e1, e2, e3, e4, j⟩ := zo_quietestRow  h (by omega)
  refine lx_aload_n hC dL_law_2434 rfl 1 rfl ?_
  refine lx_aload_n hC dL_law_2435 rfl 3 rfl ?_
  refine lx_callW (as := [.ref 0, .ref 9]) (rest := []) hC hE (sat_L_quietestRow (xl X) hl σ) lc_quietestRow li_L wd1061 ls_quietestRow ld_quietestRow (by decide) (by decide) (Nat.le_of_ble_eq_true rfl) dL_law_2436 rfl e1 ?_
  refine lx_istore hC dL_law_2439 (by decide) ?_
  refine lx_aload_n hC dL_law_2441 rfl 3 rfl ?_
  refine lx_callL hC (sat_X8_quietestRow (xl X) hl s1) (run_V (as := []) (rest := []) hC hE ly8 rfl cw_X8_quietestRow ci_X8_quietestRow wd2010 cs_X8_quietestRow ce_X8_quietestRow cd_X8_quietestRow (by decide) (by decide) (Nat.le_of_ble_eq_true rfl) dL_law_2442 rfl) e2 ?_
  refine lx_istore hC dL_law_2445 (by decide) ?_
  refine lx_sub (lv' := (7, .int v2) :: (6, .int v1) :: LV (nI (3 * k))) [0, 1, 2, 3, 4, 5, 6, 7] rfl ?_
  exact tl_I hC hE hl dL_law_2447 dL_law_2448 dL_law_2451 dL_law_2453 dL_law_2458 dL_law_2460 dL_law_2463 dL_law_2464 dL_law_2465 dL_law_2466 dL_law_2468 dL_law_2469 dL_law_2470 dL_law_2475 (by decide) e3 e4 (kk _ _ j)
theorem bk_39 (hC : Cok X V A RL cL_law 9) (hE : Env0 V adV A (xs X) (xs X).heap) (hl : (xl X).stackTraces = false) (hS : Scr X V A L ys) (hL : L ≤ 1536) (hk : 3 * k + 2 < L) (h : J CC SS k σ A0) (kk : ∀ σ1 A1, J CC SS (k + 1) σ1 A1 → LX X V A 2048 94400 c0 s0 F 3341 (LV (nI (3 * k))) [] σ1 r) : LX X V A 2048 94400 c0 s0 F 2478 (LV (nI (3 * k))) [] σ r := by
  obtain ⟨v1, s1, v2, s2, A1, e1, e2, e3, e4, j⟩ := zo_isNamed (p := ((ys (3 * k + 1)).toUInt32 % 65536).toInt32) h (by omega)
  refine lx_aload_n hC dL_law_2478 rfl 1 rfl ?_
  refine lx_aload_n hC dL_law_2479 rfl 0 rfl ?_
  refine lx_iload hC dL_law_2480 5 rfl ?_
  refine lx_iconstv (v := 1) hC dL_law_2482 rfl ?_
  refine lx_iadd hC dL_law_2483 ?_
  refine lx_sld (n := 3 * k + 1) hC hS (nI_add (3 * k) 1) (by omega) hL dL_law_2484 ?_
  refine lx_i2c hC dL_law_2485 ?_
  refine lx_aload_n hC dL_law_2486 rfl 3 rfl ?_
  refine lx_callW (as := [.ref 0, .int ((ys (3 * k + 1)).toUInt32 % 65536).toInt32, .ref 9]) (rest := []) hC hE (sat_L_isNamed (xl X) hl ((ys (3 * k + 1)).toUInt32 % 65536).toInt32 σ) lc_isNamed li_L wd1074 ls_isNamed ld_isNamed (by decide) (by decide) (Nat.le_of_ble_eq_true rfl) dL_law_2487 rfl e1 ?_
  refine lx_istore hC dL_law_2490 (by decide) ?_
  refine lx_aload_n hC dL_law_2492 rfl 3 rfl ?_
  refine lx_aload_n hC dL_law_2493 rfl 1 rfl ?_
  refine lx_iload hC dL_law_2494 6 rfl ?_
  refine lx_iconstv (v := 1) hC dL_law_2496 rfl ?_
  refine lx_iadd hC dL_law_2497 ?_
  refine lx_sld (n := 3 * k + 1) hC hS (nI_add (3 * k) 1) (by omega) hL dL_law_2498 ?_
  refine lx_i2c hC dL_law_2499 ?_
  refine lx_callL hC (sat_X8_isNamed (xl X) hl ((ys (3 * k + 1)).toUInt32 % 65536).toInt32 s1) (run_V (as := [.int ((ys (3 * k + 1)).toUInt32 % 65536).toInt32]) (rest := []) hC hE ly8 rfl cw_X8_isNamed ci_X8_isNamed wd2014 cs_X8_isNamed ce_X8_isNamed cd_X8_isNamed (by decide) (by decide) (Nat.le_of_ble_eq_true rfl) dL_law_2500 rfl) e2 ?_
  refine lx_istore hC dL_law_2503 (by decide) ?_
  refine lx_sub (lv' := (7, .int v2) :: (6, .int v1) :: LV (nI (3 * k))) [0, 1, 2, 3, 4, 5, 6, 7] rfl ?_
  exact tl_Z hC hE hl dL_law_2505 dL_law_2506 dL_law_2509 dL_law_2511 dL_law_2516 dL_law_2518 dL_law_2521 dL_law_2522 dL_law_2523 dL_law_2524 dL_law_2526 dL_law_2529 dL_law_2530 dL_law_2533 dL_law_2534 dL_law_2535 dL_law_2540 (by decide) e3 e4 (kk _ _ j)
theorem bk_40 (hC : Cok X V A RL cL_law 9) (hE : Env0 V adV A (xs X) (xs X).heap) (hl : (xl X).stackTraces = false) (hS : Scr X V A L ys) (hL : L ≤ 1536) (hk : 3 * k + 2 < L) (h : J CC SS k σ A0) (kk : ∀ σ1 A1, J CC SS (k + 1) σ1 A1 → LX X V A 2048 94400 c0 s0 F 3341 (LV (nI (3 * k))) [] σ1 r) : LX X V A 2048 94400 c0 s0 F 2543 (LV (nI (3 * k))) [] σ r := by
  obtain ⟨v1, s1, v2, s2, A1, e1, e2, e3, e4, j⟩ := zo_namedRow (p := ((ys (3 * k + 1)).toUInt32 % 65536).toInt32) h (by omega)
  refine lx_aload_n hC dL_law_2543 rfl 1 rfl ?_
  refine lx_aload_n hC dL_law_2544 rfl 0 rfl ?_
  refine lx_iload hC dL_law_2545 5 rfl ?_
  refine lx_iconstv (v := 1) hC dL_law_2547 rfl ?_
  refine lx_iadd hC dL_law_2548 ?_
  refine lx_sld (n := 3 * k + 1) hC hS (nI_add (3 * k) 1) (by omega) hL dL_law_2549 ?_
  refine lx_i2c hC dL_law_2550 ?_
  refine lx_aload_n hC dL_law_2551 rfl 3 rfl ?_
  refine lx_callW (as := [.ref 0, .int ((ys (3 * k + 1)).toUInt32 % 65536).toInt32, .ref 9]) (rest := []) hC hE (sat_L_namedRow (xl X) hl ((ys (3 * k + 1)).toUInt32 % 65536).toInt32 σ) lc_namedRow li_L wd1087 ls_namedRow ld_namedRow (by decide) (by decide) (Nat.le_of_ble_eq_true rfl) dL_law_2552 rfl e1 ?_
  refine lx_istore hC dL_law_2555 (by decide) ?_
  refine lx_aload_n hC dL_law_2557 rfl 3 rfl ?_
  refine lx_aload_n hC dL_law_2558 rfl 1 rfl ?_
  refine lx_iload hC dL_law_2559 6 rfl ?_
  refine lx_iconstv (v := 1) hC dL_law_2561 rfl ?_
  refine lx_iadd hC dL_law_2562 ?_
  refine lx_sld (n := 3 * k + 1) hC hS (nI_add (3 * k) 1) (by omega) hL dL_law_2563 ?_
  refine lx_i2c hC dL_law_2564 ?_
  refine lx_callL hC (sat_X8_namedRow (xl X) hl ((ys (3 * k + 1)).toUInt32 % 65536).toInt32 s1) (run_V (as := [.int ((ys (3 * k + 1)).toUInt32 % 65536).toInt32]) (rest := []) hC hE ly8 rfl cw_X8_namedRow ci_X8_namedRow wd2018 cs_X8_namedRow ce_X8_namedRow cd_X8_namedRow (by decide) (by decide) (Nat.le_of_ble_eq_true rfl) dL_law_2565 rfl) e2 ?_
  refine lx_istore hC dL_law_2568 (by decide) ?_
  refine lx_sub (lv' := (7, .int v2) :: (6, .int v1) :: LV (nI (3 * k))) [0, 1, 2, 3, 4, 5, 6, 7] rfl ?_
  exact tl_I hC hE hl dL_law_2570 dL_law_2571 dL_law_2574 dL_law_2576 dL_law_2581 dL_law_2583 dL_law_2586 dL_law_2587 dL_law_2588 dL_law_2589 dL_law_2591 dL_law_2592 dL_law_2593 dL_law_2598 (by decide) e3 e4 (kk _ _ j)
end
