/-! ===== the law: its instructions, the rest ===== -/
theorem i_L_law_1698 : am_i m_L_law 1698 = some (1698, .aload_n 1, 1, [], 0) := (lk_16 (Nat.le_of_ble_eq_true rfl)).trans rfl
theorem i_L_law_1699 : am_i m_L_law 1699 = some (1699, .aload_n 0, 1, [], 0) := (lk_16 (Nat.le_of_ble_eq_true rfl)).trans rfl
theorem i_L_law_1700 : am_i m_L_law 1700 = some (1700, .iload 5, 2, [], 0) := (lk_16 (Nat.le_of_ble_eq_true rfl)).trans rfl
theorem i_L_law_1702 : am_i m_L_law 1702 = some (1702, .iconst 1, 1, [], 1) := (lk_16 (Nat.le_of_ble_eq_true rfl)).trans rfl
theorem i_L_law_1703 : am_i m_L_law 1703 = some (1703, .iadd, 1, [], 0) := (lk_16 (Nat.le_of_ble_eq_true rfl)).trans rfl
theorem i_L_law_1704 : am_i m_L_law 1704 = some (1704, .iaload, 1, [], 0) := (lk_16 (Nat.le_of_ble_eq_true rfl)).trans rfl
theorem i_L_law_1705 : am_i m_L_law 1705 = some (1705, .aload_n 0, 1, [], 0) := (lk_17 (Nat.le_of_ble_eq_true rfl)).trans rfl
theorem i_L_law_1706 : am_i m_L_law 1706 = some (1706, .iload 5, 2, [], 0) := (lk_17 (Nat.le_of_ble_eq_true rfl)).trans rfl
theorem i_L_law_1708 : am_i m_L_law 1708 = some (1708, .iconst 2, 1, [], 2) := (lk_17 (Nat.le_of_ble_eq_true rfl)).trans rfl
theorem i_L_law_1709 : am_i m_L_law 1709 = some (1709, .iadd, 1, [], 0) := (lk_17 (Nat.le_of_ble_eq_true rfl)).trans rfl
theorem i_L_law_1710 : am_i m_L_law 1710 = some (1710, .iaload, 1, [], 0) := (lk_17 (Nat.le_of_ble_eq_true rfl)).trans rfl
theorem i_L_law_1711 : am_i m_L_law 1711 = some (1711, .aload_n 0, 1, [], 0) := (lk_17 (Nat.le_of_ble_eq_true rfl)).trans rfl
theorem i_L_law_1712 : am_i m_L_law 1712 = some (1712, .iload 5, 2, [], 0) := (lk_17 (Nat.le_of_ble_eq_true rfl)).trans rfl
theorem i_L_law_1714 : am_i m_L_law 1714 = some (1714, .iconst 3, 1, [], 3) := (lk_17 (Nat.le_of_ble_eq_true rfl)).trans rfl
theorem i_L_law_1715 : am_i m_L_law 1715 = some (1715, .iadd, 1, [], 0) := (lk_17 (Nat.le_of_ble_eq_true rfl)).trans rfl
theorem i_L_law_1716 : am_i m_L_law 1716 = some (1716, .iaload, 1, [], 0) := (lk_17 (Nat.le_of_ble_eq_true rfl)).trans rfl
theorem i_L_law_1717 : am_i m_L_law 1717 = some (1717, .aload_n 3, 1, [], 0) := (lk_17 (Nat.le_of_ble_eq_true rfl)).trans rfl
theorem i_L_law_1718 : am_i m_L_law 1718 = some (1718, .invokestatic 222, 3, [238], 0) := (lk_17 (Nat.le_of_ble_eq_true rfl)).trans rfl
theorem b_L_law_1698 {a0 a1 a2 a3 a4 n_a0 : Nat} {x5 : Int} {v6 v7 v8 : Value} {h : am_H} (n1 : gn h a0 = n_a0) (s2 : sh h a0 = (1, 7)) (g3 : 0 ≤ wr (x5 + 1) ∧ wr (x5 + 1) < (n_a0 : Int)) (g4 : 0 ≤ wr (x5 + 2) ∧ wr (x5 + 2) < (n_a0 : Int)) (g5 : 0 ≤ wr (x5 + 3) ∧ wr (x5 + 3) < (n_a0 : Int)) : rn m_L_law 1698 [.ref a0, .ref a1, .ref a2, .ref a3, .ref a4, .int (mI x5), v6, v7, v8] [] h = cl m_L_law 1721 [.ref a0, .ref a1, .ref a2, .ref a3, .ref a4, .int (mI x5), v6, v7, v8] [] (rn m_L_built 0 [.ref a1, .int (mI (gZ h a0 (wr (x5 + 1)))), .int (mI (gZ h a0 (wr (x5 + 2)))), .int (mI (gZ h a0 (wr (x5 + 3)))), .ref a3, am_J] [] h) := by
  refine (tq_aload_n i_L_law_1698 rfl (isA_ref _) rfl).trans ?_
  refine (tq_aload_n i_L_law_1699 rfl (isA_ref _) rfl).trans ?_
  refine (tq_iload i_L_law_1700 rfl rfl).trans ?_
  refine (tq_iconst i_L_law_1702 rfl).trans ?_
  refine (tq_iadd i_L_law_1703 rfl).trans ?_
  refine (tq_iaload i_L_law_1704 s2 (by decide) rfl g3.1 (lt_gn n1 g3.2) rfl).trans ?_
  refine (tq_aload_n i_L_law_1705 rfl (isA_ref _) rfl).trans ?_
  refine (tq_iload i_L_law_1706 rfl rfl).trans ?_
  refine (tq_iconst i_L_law_1708 rfl).trans ?_
  refine (tq_iadd i_L_law_1709 rfl).trans ?_
  refine (tq_iaload i_L_law_1710 s2 (by decide) rfl g4.1 (lt_gn n1 g4.2) rfl).trans ?_
  refine (tq_aload_n i_L_law_1711 rfl (isA_ref _) rfl).trans ?_
  refine (tq_iload i_L_law_1712 rfl rfl).trans ?_
  refine (tq_iconst i_L_law_1714 rfl).trans ?_
  refine (tq_iadd i_L_law_1715 rfl).trans ?_
  refine (tq_iaload i_L_law_1716 s2 (by decide) rfl g5.1 (lt_gn n1 g5.2) rfl).trans ?_
  refine (tq_aload_n i_L_law_1717 rfl (isA_ref _) rfl).trans ?_
  exact c_L_built i_L_law_1718 (ltd d_L_law (by decide)) (isA_ref _) (isA_ref _) stOk_0 rfl
theorem i_L_law_1721 : am_i m_L_law 1721 = some (1721, .istore 6, 2, [], 0) := (lk_17 (Nat.le_of_ble_eq_true rfl)).trans rfl
theorem i_L_law_1723 : am_i m_L_law 1723 = some (1723, .aload_n 2, 1, [], 0) := (lk_17 (Nat.le_of_ble_eq_true rfl)).trans rfl
theorem i_L_law_1724 : am_i m_L_law 1724 = some (1724, .aload_n 0, 1, [], 0) := (lk_17 (Nat.le_of_ble_eq_true rfl)).trans rfl
theorem i_L_law_1725 : am_i m_L_law 1725 = some (1725, .iload 5, 2, [], 0) := (lk_17 (Nat.le_of_ble_eq_true rfl)).trans rfl
theorem i_L_law_1727 : am_i m_L_law 1727 = some (1727, .iconst 1, 1, [], 1) := (lk_17 (Nat.le_of_ble_eq_true rfl)).trans rfl
theorem i_L_law_1728 : am_i m_L_law 1728 = some (1728, .iadd, 1, [], 0) := (lk_17 (Nat.le_of_ble_eq_true rfl)).trans rfl
theorem i_L_law_1729 : am_i m_L_law 1729 = some (1729, .iaload, 1, [], 0) := (lk_17 (Nat.le_of_ble_eq_true rfl)).trans rfl
theorem i_L_law_1730 : am_i m_L_law 1730 = some (1730, .aload_n 0, 1, [], 0) := (lk_17 (Nat.le_of_ble_eq_true rfl)).trans rfl
theorem i_L_law_1731 : am_i m_L_law 1731 = some (1731, .iload 5, 2, [], 0) := (lk_17 (Nat.le_of_ble_eq_true rfl)).trans rfl
theorem i_L_law_1733 : am_i m_L_law 1733 = some (1733, .iconst 2, 1, [], 2) := (lk_17 (Nat.le_of_ble_eq_true rfl)).trans rfl
theorem i_L_law_1734 : am_i m_L_law 1734 = some (1734, .iadd, 1, [], 0) := (lk_17 (Nat.le_of_ble_eq_true rfl)).trans rfl
theorem i_L_law_1735 : am_i m_L_law 1735 = some (1735, .iaload, 1, [], 0) := (lk_17 (Nat.le_of_ble_eq_true rfl)).trans rfl
theorem i_L_law_1736 : am_i m_L_law 1736 = some (1736, .aload_n 0, 1, [], 0) := (lk_17 (Nat.le_of_ble_eq_true rfl)).trans rfl
theorem i_L_law_1737 : am_i m_L_law 1737 = some (1737, .iload 5, 2, [], 0) := (lk_17 (Nat.le_of_ble_eq_true rfl)).trans rfl
theorem i_L_law_1739 : am_i m_L_law 1739 = some (1739, .iconst 3, 1, [], 3) := (lk_17 (Nat.le_of_ble_eq_true rfl)).trans rfl
theorem i_L_law_1740 : am_i m_L_law 1740 = some (1740, .iadd, 1, [], 0) := (lk_17 (Nat.le_of_ble_eq_true rfl)).trans rfl
theorem i_L_law_1741 : am_i m_L_law 1741 = some (1741, .iaload, 1, [], 0) := (lk_17 (Nat.le_of_ble_eq_true rfl)).trans rfl
theorem i_L_law_1742 : am_i m_L_law 1742 = some (1742, .invokevirtual 224, 3, [154, 10], 0) := (lk_17 (Nat.le_of_ble_eq_true rfl)).trans rfl
theorem b_L_law_1721 {a0 a1 a2 a3 a4 n_a0 : Nat} {x5 xs0 : Int} {v6 v7 v8 : Value} {h : am_H} (n1 : gn h a0 = n_a0) (s2 : sh h a0 = (1, 7)) (g3 : 0 ≤ wr (x5 + 1) ∧ wr (x5 + 1) < (n_a0 : Int)) (g4 : 0 ≤ wr (x5 + 2) ∧ wr (x5 + 2) < (n_a0 : Int)) (g5 : 0 ≤ wr (x5 + 3) ∧ wr (x5 + 3) < (n_a0 : Int)) (k6 : K10 h a2) : rn m_L_law 1721 [.ref a0, .ref a1, .ref a2, .ref a3, .ref a4, .int (mI x5), v6, v7, v8] [.int (mI xs0)] h = cl m_L_law 1745 [.ref a0, .ref a1, .ref a2, .ref a3, .ref a4, .int (mI x5), .int (mI xs0), v7, v8] [] (rn m_X12_built 0 [.ref a2, .int (mI (gZ h a0 (wr (x5 + 1)))), .int (mI (gZ h a0 (wr (x5 + 2)))), .int (mI (gZ h a0 (wr (x5 + 3))))] [] h) := by
  refine (tq_istore (L' := [.ref a0, .ref a1, .ref a2, .ref a3, .ref a4, .int (mI x5), .int (mI xs0), v7, v8]) i_L_law_1721 rfl rfl).trans ?_
  refine (tq_aload_n i_L_law_1723 rfl (isA_ref _) rfl).trans ?_
  refine (tq_aload_n i_L_law_1724 rfl (isA_ref _) rfl).trans ?_
  refine (tq_iload i_L_law_1725 rfl rfl).trans ?_
  refine (tq_iconst i_L_law_1727 rfl).trans ?_
  refine (tq_iadd i_L_law_1728 rfl).trans ?_
  refine (tq_iaload i_L_law_1729 s2 (by decide) rfl g3.1 (lt_gn n1 g3.2) rfl).trans ?_
  refine (tq_aload_n i_L_law_1730 rfl (isA_ref _) rfl).trans ?_
  refine (tq_iload i_L_law_1731 rfl rfl).trans ?_
  refine (tq_iconst i_L_law_1733 rfl).trans ?_
  refine (tq_iadd i_L_law_1734 rfl).trans ?_
  refine (tq_iaload i_L_law_1735 s2 (by decide) rfl g4.1 (lt_gn n1 g4.2) rfl).trans ?_
  refine (tq_aload_n i_L_law_1736 rfl (isA_ref _) rfl).trans ?_
  refine (tq_iload i_L_law_1737 rfl rfl).trans ?_
  refine (tq_iconst i_L_law_1739 rfl).trans ?_
  refine (tq_iadd i_L_law_1740 rfl).trans ?_
  refine (tq_iaload i_L_law_1741 s2 (by decide) rfl g5.1 (lt_gn n1 g5.2) rfl).trans ?_
  exact c_X12_built i_L_law_1742 (K10_s k6) (ltd d_L_law (by decide)) stOk_0 rfl
theorem i_L_law_1745 : am_i m_L_law 1745 = some (1745, .istore 7, 2, [], 0) := (lk_17 (Nat.le_of_ble_eq_true rfl)).trans rfl
theorem i_L_law_1747 : am_i m_L_law 1747 = some (1747, .aload_n 2, 1, [], 0) := (lk_17 (Nat.le_of_ble_eq_true rfl)).trans rfl
theorem i_L_law_1748 : am_i m_L_law 1748 = some (1748, .invokevirtual 139, 3, [39, 10], 0) := (lk_17 (Nat.le_of_ble_eq_true rfl)).trans rfl
theorem i_L_law_1751 : am_i m_L_law 1751 = some (1751, .iload 6, 2, [], 0) := (lk_17 (Nat.le_of_ble_eq_true rfl)).trans rfl
theorem i_L_law_1753 : am_i m_L_law 1753 = some (1753, .if_icmp .eq 5, 3, [], 0) := (lk_17 (Nat.le_of_ble_eq_true rfl)).trans rfl
theorem i_L_law_1756 : am_i m_L_law 1756 = some (1756, .iconst 0, 1, [], 0) := (lk_17 (Nat.le_of_ble_eq_true rfl)).trans rfl
theorem i_L_law_1757 : am_i m_L_law 1757 = some (1757, .ireturn, 1, [], 0) := (lk_17 (Nat.le_of_ble_eq_true rfl)).trans rfl
theorem i_L_law_1758 : am_i m_L_law 1758 = some (1758, .iload 6, 2, [], 0) := (lk_17 (Nat.le_of_ble_eq_true rfl)).trans rfl
theorem i_L_law_1760 : am_i m_L_law 1760 = some (1760, .ifCond .ne 15, 3, [], 0) := (lk_17 (Nat.le_of_ble_eq_true rfl)).trans rfl
theorem i_L_law_1763 : am_i m_L_law 1763 = some (1763, .aload_n 3, 1, [], 0) := (lk_17 (Nat.le_of_ble_eq_true rfl)).trans rfl
theorem i_L_law_1764 : am_i m_L_law 1764 = some (1764, .iconst 0, 1, [], 0) := (lk_17 (Nat.le_of_ble_eq_true rfl)).trans rfl
theorem i_L_law_1765 : am_i m_L_law 1765 = some (1765, .laload, 1, [], 0) := (lk_17 (Nat.le_of_ble_eq_true rfl)).trans rfl
theorem i_L_law_1766 : am_i m_L_law 1766 = some (1766, .iload 7, 2, [], 0) := (lk_17 (Nat.le_of_ble_eq_true rfl)).trans rfl
theorem i_L_law_1768 : am_i m_L_law 1768 = some (1768, .i2l, 1, [], 0) := (lk_17 (Nat.le_of_ble_eq_true rfl)).trans rfl
theorem i_L_law_1769 : am_i m_L_law 1769 = some (1769, .lcmp, 1, [], 0) := (lk_17 (Nat.le_of_ble_eq_true rfl)).trans rfl
theorem i_L_law_1770 : am_i m_L_law 1770 = some (1770, .ifCond .eq 5, 3, [], 0) := (lk_17 (Nat.le_of_ble_eq_true rfl)).trans rfl
theorem i_L_law_1773 : am_i m_L_law 1773 = some (1773, .iconst 0, 1, [], 0) := (lk_17 (Nat.le_of_ble_eq_true rfl)).trans rfl
theorem i_L_law_1774 : am_i m_L_law 1774 = some (1774, .ireturn, 1, [], 0) := (lk_17 (Nat.le_of_ble_eq_true rfl)).trans rfl
theorem i_L_law_1775 : am_i m_L_law 1775 = some (1775, .goto 608, 3, [], 0) := (lk_17 (Nat.le_of_ble_eq_true rfl)).trans rfl
theorem b_L_law_1745 {a0 a1 a2 a3 a4 n_a3 : Nat} {x5 x6 xs0 x6' xs0' : Int} {v7 v8 : Value} {h : am_H} (w6 : wr x6 = x6') (ws0 : wr xs0 = xs0') (k1 : K10 h a2) (n2 : gn h a3 = n_a3) (s3 : sh h a3 = (2, 3)) (g4 : ((fZ h a2 0) = x6') → (¬ (¬ x6' = 0)) → ((0 : Int) ≤ 0 ∧ 0 < (n_a3 : Int))) : rn m_L_law 1745 [.ref a0, .ref a1, .ref a2, .ref a3, .ref a4, .int (mI x5), .int (mI x6), v7, v8] [.int (mI xs0)] h = if (fZ h a2 0) = x6' then if ¬ x6' = 0 then rn m_L_law 2383 [.ref a0, .ref a1, .ref a2, .ref a3, .ref a4, .int (mI x5), .int (mI x6), .int (mI xs0), v8] [] h else if (gJ h a3 0) = xs0' then rn m_L_law 2383 [.ref a0, .ref a1, .ref a2, .ref a3, .ref a4, .int (mI x5), .int (mI x6), .int (mI xs0), v8] [] h else some (.inl (some (.int (mI 0))), h) else some (.inl (some (.int (mI 0))), h) := by
  refine (tq_istore (L' := [.ref a0, .ref a1, .ref a2, .ref a3, .ref a4, .int (mI x5), .int (mI x6), .int (mI xs0), v8]) i_L_law_1745 rfl rfl).trans ?_
  refine (tq_aload_n i_L_law_1747 rfl (isA_ref _) rfl).trans ?_
  refine (c_X12_thrown i_L_law_1748 (K10_s k1) (ltd d_L_law (by decide)) stOk_0 rfl).trans ?_
  refine (congrArg (cl _ _ _ _) (b_X12_thrown_0 k1)).trans ?_
  refine (cl_v _ _ _ _ _ _).trans ?_
  refine (tq_iload i_L_law_1751 rfl rfl).trans ?_
  refine (tq_icmp_eq (pt := 1758) i_L_law_1753 (wr_fZ _ _ _) w6 (by decide) rfl).trans ?_
  refine ite_congr rfl (fun c1 => ?_) (fun c1 => ?_)
  · refine (tq_iload i_L_law_1758 rfl rfl).trans ?_
    refine (tq_if_ne (pt := 1775) i_L_law_1760 w6 (by decide) rfl).trans ?_
    refine ite_congr rfl (fun c2 => ?_) (fun c2 => ?_)
    · refine (tq_goto (pc' := 2383) i_L_law_1775 (by decide)).trans ?_
      rfl
    · refine (tq_aload_n i_L_law_1763 rfl (isA_ref _) rfl).trans ?_
      refine (tq_iconst i_L_law_1764 rfl).trans ?_
      refine (tq_laload i_L_law_1765 s3 w_0 (g4 c1 c2).1 (lt_gn n2 (g4 c1 c2).2) rfl).trans ?_
      refine (tq_iload i_L_law_1766 rfl rfl).trans ?_
      refine (tq_i2l i_L_law_1768 ws0 rfl).trans ?_
      refine (tq_lcmp_eq (pt := 1775) i_L_law_1769 i_L_law_1770 rfl (wl_gJ _ _ _) (wl_of_wr ws0) (by decide) rfl).trans ?_
      refine ite_congr rfl (fun c3 => ?_) (fun c3 => ?_)
      · refine (tq_goto (pc' := 2383) i_L_law_1775 (by decide)).trans ?_
        rfl
      · refine (tq_iconst i_L_law_1773 rfl).trans ?_
        exact tq_ireturn i_L_law_1774 r_L_law (okB w_0 (by decide))
  · refine (tq_iconst i_L_law_1756 rfl).trans ?_
    exact tq_ireturn i_L_law_1757 r_L_law (okB w_0 (by decide))
theorem i_L_law_1778 : am_i m_L_law 1778 = some (1778, .aload_n 1, 1, [], 0) := (lk_17 (Nat.le_of_ble_eq_true rfl)).trans rfl
theorem i_L_law_1779 : am_i m_L_law 1779 = some (1779, .aload_n 0, 1, [], 0) := (lk_17 (Nat.le_of_ble_eq_true rfl)).trans rfl
theorem i_L_law_1780 : am_i m_L_law 1780 = some (1780, .iload 5, 2, [], 0) := (lk_17 (Nat.le_of_ble_eq_true rfl)).trans rfl
theorem i_L_law_1782 : am_i m_L_law 1782 = some (1782, .iconst 1, 1, [], 1) := (lk_17 (Nat.le_of_ble_eq_true rfl)).trans rfl
theorem i_L_law_1783 : am_i m_L_law 1783 = some (1783, .iadd, 1, [], 0) := (lk_17 (Nat.le_of_ble_eq_true rfl)).trans rfl
theorem i_L_law_1784 : am_i m_L_law 1784 = some (1784, .iaload, 1, [], 0) := (lk_17 (Nat.le_of_ble_eq_true rfl)).trans rfl
theorem i_L_law_1785 : am_i m_L_law 1785 = some (1785, .aload_n 3, 1, [], 0) := (lk_17 (Nat.le_of_ble_eq_true rfl)).trans rfl
theorem i_L_law_1786 : am_i m_L_law 1786 = some (1786, .invokestatic 225, 3, [242], 0) := (lk_17 (Nat.le_of_ble_eq_true rfl)).trans rfl
theorem b_L_law_1778 {a0 a1 a2 a3 a4 n_a0 : Nat} {x5 : Int} {v6 v7 v8 : Value} {h : am_H} (n1 : gn h a0 = n_a0) (s2 : sh h a0 = (1, 7)) (g3 : 0 ≤ wr (x5 + 1) ∧ wr (x5 + 1) < (n_a0 : Int)) : rn m_L_law 1778 [.ref a0, .ref a1, .ref a2, .ref a3, .ref a4, .int (mI x5), v6, v7, v8] [] h = cl m_L_law 1789 [.ref a0, .ref a1, .ref a2, .ref a3, .ref a4, .int (mI x5), v6, v7, v8] [] (rn m_L_errorOf 0 [.ref a1, .int (mI (gZ h a0 (wr (x5 + 1)))), .ref a3, am_J] [] h) := by
  refine (tq_aload_n i_L_law_1778 rfl (isA_ref _) rfl).trans ?_
  refine (tq_aload_n i_L_law_1779 rfl (isA_ref _) rfl).trans ?_
  refine (tq_iload i_L_law_1780 rfl rfl).trans ?_
  refine (tq_iconst i_L_law_1782 rfl).trans ?_
  refine (tq_iadd i_L_law_1783 rfl).trans ?_
  refine (tq_iaload i_L_law_1784 s2 (by decide) rfl g3.1 (lt_gn n1 g3.2) rfl).trans ?_
  refine (tq_aload_n i_L_law_1785 rfl (isA_ref _) rfl).trans ?_
  exact c_L_errorOf i_L_law_1786 (ltd d_L_law (by decide)) (isA_ref _) (isA_ref _) stOk_0 rfl
theorem i_L_law_1789 : am_i m_L_law 1789 = some (1789, .istore 6, 2, [], 0) := (lk_17 (Nat.le_of_ble_eq_true rfl)).trans rfl
theorem i_L_law_1791 : am_i m_L_law 1791 = some (1791, .aload_n 2, 1, [], 0) := (lk_17 (Nat.le_of_ble_eq_true rfl)).trans rfl
theorem i_L_law_1792 : am_i m_L_law 1792 = some (1792, .aload_n 0, 1, [], 0) := (lk_17 (Nat.le_of_ble_eq_true rfl)).trans rfl
theorem i_L_law_1793 : am_i m_L_law 1793 = some (1793, .iload 5, 2, [], 0) := (lk_18 (Nat.le_of_ble_eq_true rfl)).trans rfl
theorem i_L_law_1795 : am_i m_L_law 1795 = some (1795, .iconst 1, 1, [], 1) := (lk_18 (Nat.le_of_ble_eq_true rfl)).trans rfl
theorem i_L_law_1796 : am_i m_L_law 1796 = some (1796, .iadd, 1, [], 0) := (lk_18 (Nat.le_of_ble_eq_true rfl)).trans rfl
theorem i_L_law_1797 : am_i m_L_law 1797 = some (1797, .iaload, 1, [], 0) := (lk_18 (Nat.le_of_ble_eq_true rfl)).trans rfl
theorem i_L_law_1798 : am_i m_L_law 1798 = some (1798, .invokevirtual 227, 3, [132, 10], 0) := (lk_18 (Nat.le_of_ble_eq_true rfl)).trans rfl
theorem b_L_law_1789 {a0 a1 a2 a3 a4 n_a0 : Nat} {x5 xs0 : Int} {v6 v7 v8 : Value} {h : am_H} (n1 : gn h a0 = n_a0) (s2 : sh h a0 = (1, 7)) (g3 : 0 ≤ wr (x5 + 1) ∧ wr (x5 + 1) < (n_a0 : Int)) (k4 : K10 h a2) : rn m_L_law 1789 [.ref a0, .ref a1, .ref a2, .ref a3, .ref a4, .int (mI x5), v6, v7, v8] [.int (mI xs0)] h = cl m_L_law 1801 [.ref a0, .ref a1, .ref a2, .ref a3, .ref a4, .int (mI x5), .int (mI xs0), v7, v8] [] (rn m_X12_errorOf 0 [.ref a2, .int (mI (gZ h a0 (wr (x5 + 1))))] [] h) := by
  refine (tq_istore (L' := [.ref a0, .ref a1, .ref a2, .ref a3, .ref a4, .int (mI x5), .int (mI xs0), v7, v8]) i_L_law_1789 rfl rfl).trans ?_
  refine (tq_aload_n i_L_law_1791 rfl (isA_ref _) rfl).trans ?_
  refine (tq_aload_n i_L_law_1792 rfl (isA_ref _) rfl).trans ?_
  refine (tq_iload i_L_law_1793 rfl rfl).trans ?_
  refine (tq_iconst i_L_law_1795 rfl).trans ?_
  refine (tq_iadd i_L_law_1796 rfl).trans ?_
  refine (tq_iaload i_L_law_1797 s2 (by decide) rfl g3.1 (lt_gn n1 g3.2) rfl).trans ?_
  exact c_X12_errorOf i_L_law_1798 (K10_s k4) (ltd d_L_law (by decide)) stOk_0 rfl
theorem i_L_law_1801 : am_i m_L_law 1801 = some (1801, .lstore 7, 2, [], 0) := (lk_18 (Nat.le_of_ble_eq_true rfl)).trans rfl
theorem i_L_law_1803 : am_i m_L_law 1803 = some (1803, .aload_n 2, 1, [], 0) := (lk_18 (Nat.le_of_ble_eq_true rfl)).trans rfl
theorem i_L_law_1804 : am_i m_L_law 1804 = some (1804, .invokevirtual 139, 3, [39, 10], 0) := (lk_18 (Nat.le_of_ble_eq_true rfl)).trans rfl
theorem i_L_law_1807 : am_i m_L_law 1807 = some (1807, .iload 6, 2, [], 0) := (lk_18 (Nat.le_of_ble_eq_true rfl)).trans rfl
theorem i_L_law_1809 : am_i m_L_law 1809 = some (1809, .if_icmp .eq 5, 3, [], 0) := (lk_18 (Nat.le_of_ble_eq_true rfl)).trans rfl
theorem i_L_law_1812 : am_i m_L_law 1812 = some (1812, .iconst 0, 1, [], 0) := (lk_18 (Nat.le_of_ble_eq_true rfl)).trans rfl
theorem i_L_law_1813 : am_i m_L_law 1813 = some (1813, .ireturn, 1, [], 0) := (lk_18 (Nat.le_of_ble_eq_true rfl)).trans rfl
theorem i_L_law_1814 : am_i m_L_law 1814 = some (1814, .iload 6, 2, [], 0) := (lk_18 (Nat.le_of_ble_eq_true rfl)).trans rfl
theorem i_L_law_1816 : am_i m_L_law 1816 = some (1816, .ifCond .ne 14, 3, [], 0) := (lk_18 (Nat.le_of_ble_eq_true rfl)).trans rfl
theorem i_L_law_1819 : am_i m_L_law 1819 = some (1819, .aload_n 3, 1, [], 0) := (lk_18 (Nat.le_of_ble_eq_true rfl)).trans rfl
theorem i_L_law_1820 : am_i m_L_law 1820 = some (1820, .iconst 0, 1, [], 0) := (lk_18 (Nat.le_of_ble_eq_true rfl)).trans rfl
theorem i_L_law_1821 : am_i m_L_law 1821 = some (1821, .laload, 1, [], 0) := (lk_18 (Nat.le_of_ble_eq_true rfl)).trans rfl
theorem i_L_law_1822 : am_i m_L_law 1822 = some (1822, .lload 7, 2, [], 0) := (lk_18 (Nat.le_of_ble_eq_true rfl)).trans rfl
theorem i_L_law_1824 : am_i m_L_law 1824 = some (1824, .lcmp, 1, [], 0) := (lk_18 (Nat.le_of_ble_eq_true rfl)).trans rfl
theorem i_L_law_1825 : am_i m_L_law 1825 = some (1825, .ifCond .eq 5, 3, [], 0) := (lk_18 (Nat.le_of_ble_eq_true rfl)).trans rfl
theorem i_L_law_1828 : am_i m_L_law 1828 = some (1828, .iconst 0, 1, [], 0) := (lk_18 (Nat.le_of_ble_eq_true rfl)).trans rfl
theorem i_L_law_1829 : am_i m_L_law 1829 = some (1829, .ireturn, 1, [], 0) := (lk_18 (Nat.le_of_ble_eq_true rfl)).trans rfl
theorem i_L_law_1830 : am_i m_L_law 1830 = some (1830, .goto 553, 3, [], 0) := (lk_18 (Nat.le_of_ble_eq_true rfl)).trans rfl
theorem b_L_law_1801 {a0 a1 a2 a3 a4 n_a3 : Nat} {x5 x6 js0 x6' js0' : Int} {v7 v8 : Value} {h : am_H} (w6 : wr x6 = x6') (ws0 : wl js0 = js0') (k1 : K10 h a2) (n2 : gn h a3 = n_a3) (s3 : sh h a3 = (2, 3)) (g4 : ((fZ h a2 0) = x6') → (¬ (¬ x6' = 0)) → ((0 : Int) ≤ 0 ∧ 0 < (n_a3 : Int))) : rn m_L_law 1801 [.ref a0, .ref a1, .ref a2, .ref a3, .ref a4, .int (mI x5), .int (mI x6), v7, v8] [.long (mL js0)] h = if (fZ h a2 0) = x6' then if ¬ x6' = 0 then rn m_L_law 2383 [.ref a0, .ref a1, .ref a2, .ref a3, .ref a4, .int (mI x5), .int (mI x6), .long (mL js0), am_J] [] h else if (gJ h a3 0) = js0' then rn m_L_law 2383 [.ref a0, .ref a1, .ref a2, .ref a3, .ref a4, .int (mI x5), .int (mI x6), .long (mL js0), am_J] [] h else some (.inl (some (.int (mI 0))), h) else some (.inl (some (.int (mI 0))), h) := by
  refine (tq_lstore (L' := [.ref a0, .ref a1, .ref a2, .ref a3, .ref a4, .int (mI x5), .int (mI x6), .long (mL js0), am_J]) i_L_law_1801 rfl rfl).trans ?_
  refine (tq_aload_n i_L_law_1803 rfl (isA_ref _) rfl).trans ?_
  refine (c_X12_thrown i_L_law_1804 (K10_s k1) (ltd d_L_law (by decide)) stOk_0 rfl).trans ?_
  refine (congrArg (cl _ _ _ _) (b_X12_thrown_0 k1)).trans ?_
  refine (cl_v _ _ _ _ _ _).trans ?_
  refine (tq_iload i_L_law_1807 rfl rfl).trans ?_
  refine (tq_icmp_eq (pt := 1814) i_L_law_1809 (wr_fZ _ _ _) w6 (by decide) rfl).trans ?_
  refine ite_congr rfl (fun c1 => ?_) (fun c1 => ?_)
  · refine (tq_iload i_L_law_1814 rfl rfl).trans ?_
    refine (tq_if_ne (pt := 1830) i_L_law_1816 w6 (by decide) rfl).trans ?_
    refine ite_congr rfl (fun c2 => ?_) (fun c2 => ?_)
    · refine (tq_goto (pc' := 2383) i_L_law_1830 (by decide)).trans ?_
      rfl
    · refine (tq_aload_n i_L_law_1819 rfl (isA_ref _) rfl).trans ?_
      refine (tq_iconst i_L_law_1820 rfl).trans ?_
      refine (tq_laload i_L_law_1821 s3 w_0 (g4 c1 c2).1 (lt_gn n2 (g4 c1 c2).2) rfl).trans ?_
      refine (tq_lload i_L_law_1822 rfl rfl).trans ?_
      refine (tq_lcmp_eq (pt := 1830) i_L_law_1824 i_L_law_1825 rfl (wl_gJ _ _ _) ws0 (by decide) rfl).trans ?_
      refine ite_congr rfl (fun c3 => ?_) (fun c3 => ?_)
      · refine (tq_goto (pc' := 2383) i_L_law_1830 (by decide)).trans ?_
        rfl
      · refine (tq_iconst i_L_law_1828 rfl).trans ?_
        exact tq_ireturn i_L_law_1829 r_L_law (okB w_0 (by decide))
  · refine (tq_iconst i_L_law_1812 rfl).trans ?_
    exact tq_ireturn i_L_law_1813 r_L_law (okB w_0 (by decide))
theorem i_L_law_1833 : am_i m_L_law 1833 = some (1833, .aload_n 1, 1, [], 0) := (lk_18 (Nat.le_of_ble_eq_true rfl)).trans rfl
theorem i_L_law_1834 : am_i m_L_law 1834 = some (1834, .aload_n 0, 1, [], 0) := (lk_18 (Nat.le_of_ble_eq_true rfl)).trans rfl
theorem i_L_law_1835 : am_i m_L_law 1835 = some (1835, .iload 5, 2, [], 0) := (lk_18 (Nat.le_of_ble_eq_true rfl)).trans rfl
theorem i_L_law_1837 : am_i m_L_law 1837 = some (1837, .iconst 1, 1, [], 1) := (lk_18 (Nat.le_of_ble_eq_true rfl)).trans rfl
theorem i_L_law_1838 : am_i m_L_law 1838 = some (1838, .iadd, 1, [], 0) := (lk_18 (Nat.le_of_ble_eq_true rfl)).trans rfl
theorem i_L_law_1839 : am_i m_L_law 1839 = some (1839, .iaload, 1, [], 0) := (lk_18 (Nat.le_of_ble_eq_true rfl)).trans rfl
theorem i_L_law_1840 : am_i m_L_law 1840 = some (1840, .aload_n 3, 1, [], 0) := (lk_18 (Nat.le_of_ble_eq_true rfl)).trans rfl
theorem i_L_law_1841 : am_i m_L_law 1841 = some (1841, .invokestatic 228, 3, [262], 0) := (lk_18 (Nat.le_of_ble_eq_true rfl)).trans rfl
theorem b_L_law_1833 {a0 a1 a2 a3 a4 n_a0 : Nat} {x5 : Int} {v6 v7 v8 : Value} {h : am_H} (n1 : gn h a0 = n_a0) (s2 : sh h a0 = (1, 7)) (g3 : 0 ≤ wr (x5 + 1) ∧ wr (x5 + 1) < (n_a0 : Int)) : rn m_L_law 1833 [.ref a0, .ref a1, .ref a2, .ref a3, .ref a4, .int (mI x5), v6, v7, v8] [] h = cl m_L_law 1844 [.ref a0, .ref a1, .ref a2, .ref a3, .ref a4, .int (mI x5), v6, v7, v8] [] (rn m_L_heaviest 0 [.ref a1, .int (mI (gZ h a0 (wr (x5 + 1)))), .ref a3, am_J] [] h) := by
  refine (tq_aload_n i_L_law_1833 rfl (isA_ref _) rfl).trans ?_
  refine (tq_aload_n i_L_law_1834 rfl (isA_ref _) rfl).trans ?_
  refine (tq_iload i_L_law_1835 rfl rfl).trans ?_
  refine (tq_iconst i_L_law_1837 rfl).trans ?_
  refine (tq_iadd i_L_law_1838 rfl).trans ?_
  refine (tq_iaload i_L_law_1839 s2 (by decide) rfl g3.1 (lt_gn n1 g3.2) rfl).trans ?_
  refine (tq_aload_n i_L_law_1840 rfl (isA_ref _) rfl).trans ?_
  exact c_L_heaviest i_L_law_1841 (ltd d_L_law (by decide)) (isA_ref _) (isA_ref _) stOk_0 rfl
theorem i_L_law_1844 : am_i m_L_law 1844 = some (1844, .istore 6, 2, [], 0) := (lk_18 (Nat.le_of_ble_eq_true rfl)).trans rfl
theorem i_L_law_1846 : am_i m_L_law 1846 = some (1846, .aload_n 2, 1, [], 0) := (lk_18 (Nat.le_of_ble_eq_true rfl)).trans rfl
theorem i_L_law_1847 : am_i m_L_law 1847 = some (1847, .aload_n 0, 1, [], 0) := (lk_18 (Nat.le_of_ble_eq_true rfl)).trans rfl
theorem i_L_law_1848 : am_i m_L_law 1848 = some (1848, .iload 5, 2, [], 0) := (lk_18 (Nat.le_of_ble_eq_true rfl)).trans rfl
theorem i_L_law_1850 : am_i m_L_law 1850 = some (1850, .iconst 1, 1, [], 1) := (lk_18 (Nat.le_of_ble_eq_true rfl)).trans rfl
theorem i_L_law_1851 : am_i m_L_law 1851 = some (1851, .iadd, 1, [], 0) := (lk_18 (Nat.le_of_ble_eq_true rfl)).trans rfl
theorem i_L_law_1852 : am_i m_L_law 1852 = some (1852, .iaload, 1, [], 0) := (lk_18 (Nat.le_of_ble_eq_true rfl)).trans rfl
theorem i_L_law_1853 : am_i m_L_law 1853 = some (1853, .invokevirtual 230, 3, [75, 10], 0) := (lk_18 (Nat.le_of_ble_eq_true rfl)).trans rfl
theorem b_L_law_1844 {a0 a1 a2 a3 a4 n_a0 : Nat} {x5 xs0 : Int} {v6 v7 v8 : Value} {h : am_H} (n1 : gn h a0 = n_a0) (s2 : sh h a0 = (1, 7)) (g3 : 0 ≤ wr (x5 + 1) ∧ wr (x5 + 1) < (n_a0 : Int)) (k4 : K10 h a2) : rn m_L_law 1844 [.ref a0, .ref a1, .ref a2, .ref a3, .ref a4, .int (mI x5), v6, v7, v8] [.int (mI xs0)] h = cl m_L_law 1856 [.ref a0, .ref a1, .ref a2, .ref a3, .ref a4, .int (mI x5), .int (mI xs0), v7, v8] [] (rn m_X12_heaviest 0 [.ref a2, .int (mI (gZ h a0 (wr (x5 + 1)))), am_J, am_J, am_J] [] h) := by
  refine (tq_istore (L' := [.ref a0, .ref a1, .ref a2, .ref a3, .ref a4, .int (mI x5), .int (mI xs0), v7, v8]) i_L_law_1844 rfl rfl).trans ?_
  refine (tq_aload_n i_L_law_1846 rfl (isA_ref _) rfl).trans ?_
  refine (tq_aload_n i_L_law_1847 rfl (isA_ref _) rfl).trans ?_
  refine (tq_iload i_L_law_1848 rfl rfl).trans ?_
  refine (tq_iconst i_L_law_1850 rfl).trans ?_
  refine (tq_iadd i_L_law_1851 rfl).trans ?_
  refine (tq_iaload i_L_law_1852 s2 (by decide) rfl g3.1 (lt_gn n1 g3.2) rfl).trans ?_
  exact c_X12_heaviest i_L_law_1853 (K10_s k4) (ltd d_L_law (by decide)) stOk_0 rfl
theorem i_L_law_1856 : am_i m_L_law 1856 = some (1856, .istore 7, 2, [], 0) := (lk_18 (Nat.le_of_ble_eq_true rfl)).trans rfl
theorem i_L_law_1858 : am_i m_L_law 1858 = some (1858, .aload_n 2, 1, [], 0) := (lk_18 (Nat.le_of_ble_eq_true rfl)).trans rfl
theorem i_L_law_1859 : am_i m_L_law 1859 = some (1859, .invokevirtual 139, 3, [39, 10], 0) := (lk_18 (Nat.le_of_ble_eq_true rfl)).trans rfl
theorem i_L_law_1862 : am_i m_L_law 1862 = some (1862, .iload 6, 2, [], 0) := (lk_18 (Nat.le_of_ble_eq_true rfl)).trans rfl
theorem i_L_law_1864 : am_i m_L_law 1864 = some (1864, .if_icmp .eq 5, 3, [], 0) := (lk_18 (Nat.le_of_ble_eq_true rfl)).trans rfl
theorem i_L_law_1867 : am_i m_L_law 1867 = some (1867, .iconst 0, 1, [], 0) := (lk_18 (Nat.le_of_ble_eq_true rfl)).trans rfl
theorem i_L_law_1868 : am_i m_L_law 1868 = some (1868, .ireturn, 1, [], 0) := (lk_18 (Nat.le_of_ble_eq_true rfl)).trans rfl
theorem i_L_law_1869 : am_i m_L_law 1869 = some (1869, .iload 6, 2, [], 0) := (lk_18 (Nat.le_of_ble_eq_true rfl)).trans rfl
theorem i_L_law_1871 : am_i m_L_law 1871 = some (1871, .ifCond .ne 15, 3, [], 0) := (lk_18 (Nat.le_of_ble_eq_true rfl)).trans rfl
theorem i_L_law_1874 : am_i m_L_law 1874 = some (1874, .aload_n 3, 1, [], 0) := (lk_18 (Nat.le_of_ble_eq_true rfl)).trans rfl
theorem i_L_law_1875 : am_i m_L_law 1875 = some (1875, .iconst 0, 1, [], 0) := (lk_18 (Nat.le_of_ble_eq_true rfl)).trans rfl
theorem i_L_law_1876 : am_i m_L_law 1876 = some (1876, .laload, 1, [], 0) := (lk_18 (Nat.le_of_ble_eq_true rfl)).trans rfl
theorem i_L_law_1877 : am_i m_L_law 1877 = some (1877, .iload 7, 2, [], 0) := (lk_18 (Nat.le_of_ble_eq_true rfl)).trans rfl
theorem i_L_law_1879 : am_i m_L_law 1879 = some (1879, .i2l, 1, [], 0) := (lk_18 (Nat.le_of_ble_eq_true rfl)).trans rfl
theorem i_L_law_1880 : am_i m_L_law 1880 = some (1880, .lcmp, 1, [], 0) := (lk_18 (Nat.le_of_ble_eq_true rfl)).trans rfl
theorem i_L_law_1881 : am_i m_L_law 1881 = some (1881, .ifCond .eq 5, 3, [], 0) := (lk_18 (Nat.le_of_ble_eq_true rfl)).trans rfl
theorem i_L_law_1884 : am_i m_L_law 1884 = some (1884, .iconst 0, 1, [], 0) := (lk_18 (Nat.le_of_ble_eq_true rfl)).trans rfl
theorem i_L_law_1885 : am_i m_L_law 1885 = some (1885, .ireturn, 1, [], 0) := (lk_18 (Nat.le_of_ble_eq_true rfl)).trans rfl
theorem i_L_law_1886 : am_i m_L_law 1886 = some (1886, .goto 497, 3, [], 0) := (lk_18 (Nat.le_of_ble_eq_true rfl)).trans rfl
theorem b_L_law_1856 {a0 a1 a2 a3 a4 n_a3 : Nat} {x5 x6 xs0 x6' xs0' : Int} {v7 v8 : Value} {h : am_H} (w6 : wr x6 = x6') (ws0 : wr xs0 = xs0') (k1 : K10 h a2) (n2 : gn h a3 = n_a3) (s3 : sh h a3 = (2, 3)) (g4 : ((fZ h a2 0) = x6') → (¬ (¬ x6' = 0)) → ((0 : Int) ≤ 0 ∧ 0 < (n_a3 : Int))) : rn m_L_law 1856 [.ref a0, .ref a1, .ref a2, .ref a3, .ref a4, .int (mI x5), .int (mI x6), v7, v8] [.int (mI xs0)] h = if (fZ h a2 0) = x6' then if ¬ x6' = 0 then rn m_L_law 2383 [.ref a0, .ref a1, .ref a2, .ref a3, .ref a4, .int (mI x5), .int (mI x6), .int (mI xs0), v8] [] h else if (gJ h a3 0) = xs0' then rn m_L_law 2383 [.ref a0, .ref a1, .ref a2, .ref a3, .ref a4, .int (mI x5), .int (mI x6), .int (mI xs0), v8] [] h else some (.inl (some (.int (mI 0))), h) else some (.inl (some (.int (mI 0))), h) := by
  refine (tq_istore (L' := [.ref a0, .ref a1, .ref a2, .ref a3, .ref a4, .int (mI x5), .int (mI x6), .int (mI xs0), v8]) i_L_law_1856 rfl rfl).trans ?_
  refine (tq_aload_n i_L_law_1858 rfl (isA_ref _) rfl).trans ?_
  refine (c_X12_thrown i_L_law_1859 (K10_s k1) (ltd d_L_law (by decide)) stOk_0 rfl).trans ?_
  refine (congrArg (cl _ _ _ _) (b_X12_thrown_0 k1)).trans ?_
  refine (cl_v _ _ _ _ _ _).trans ?_
  refine (tq_iload i_L_law_1862 rfl rfl).trans ?_
  refine (tq_icmp_eq (pt := 1869) i_L_law_1864 (wr_fZ _ _ _) w6 (by decide) rfl).trans ?_
  refine ite_congr rfl (fun c1 => ?_) (fun c1 => ?_)
  · refine (tq_iload i_L_law_1869 rfl rfl).trans ?_
    refine (tq_if_ne (pt := 1886) i_L_law_1871 w6 (by decide) rfl).trans ?_
    refine ite_congr rfl (fun c2 => ?_) (fun c2 => ?_)
    · refine (tq_goto (pc' := 2383) i_L_law_1886 (by decide)).trans ?_
      rfl
    · refine (tq_aload_n i_L_law_1874 rfl (isA_ref _) rfl).trans ?_
      refine (tq_iconst i_L_law_1875 rfl).trans ?_
      refine (tq_laload i_L_law_1876 s3 w_0 (g4 c1 c2).1 (lt_gn n2 (g4 c1 c2).2) rfl).trans ?_
      refine (tq_iload i_L_law_1877 rfl rfl).trans ?_
      refine (tq_i2l i_L_law_1879 ws0 rfl).trans ?_
      refine (tq_lcmp_eq (pt := 1886) i_L_law_1880 i_L_law_1881 rfl (wl_gJ _ _ _) (wl_of_wr ws0) (by decide) rfl).trans ?_
      refine ite_congr rfl (fun c3 => ?_) (fun c3 => ?_)
      · refine (tq_goto (pc' := 2383) i_L_law_1886 (by decide)).trans ?_
        rfl
      · refine (tq_iconst i_L_law_1884 rfl).trans ?_
        exact tq_ireturn i_L_law_1885 r_L_law (okB w_0 (by decide))
  · refine (tq_iconst i_L_law_1867 rfl).trans ?_
    exact tq_ireturn i_L_law_1868 r_L_law (okB w_0 (by decide))
theorem i_L_law_1889 : am_i m_L_law 1889 = some (1889, .aload_n 1, 1, [], 0) := (lk_18 (Nat.le_of_ble_eq_true rfl)).trans rfl
theorem i_L_law_1890 : am_i m_L_law 1890 = some (1890, .aload_n 3, 1, [], 0) := (lk_18 (Nat.le_of_ble_eq_true rfl)).trans rfl
theorem i_L_law_1891 : am_i m_L_law 1891 = some (1891, .invokestatic 231, 3, [240], 0) := (lk_19 (Nat.le_of_ble_eq_true rfl)).trans rfl
theorem b_L_law_1889 {a0 a1 a2 a3 a4 : Nat} {x5 : Int} {v6 v7 v8 : Value} {h : am_H} : rn m_L_law 1889 [.ref a0, .ref a1, .ref a2, .ref a3, .ref a4, .int (mI x5), v6, v7, v8] [] h = cl m_L_law 1894 [.ref a0, .ref a1, .ref a2, .ref a3, .ref a4, .int (mI x5), v6, v7, v8] [] (rn m_L_commonest 0 [.ref a1, .ref a3, am_J] [] h) := by
  refine (tq_aload_n i_L_law_1889 rfl (isA_ref _) rfl).trans ?_
  refine (tq_aload_n i_L_law_1890 rfl (isA_ref _) rfl).trans ?_
  exact c_L_commonest i_L_law_1891 (ltd d_L_law (by decide)) (isA_ref _) (isA_ref _) stOk_0 rfl
theorem i_L_law_1894 : am_i m_L_law 1894 = some (1894, .istore 6, 2, [], 0) := (lk_19 (Nat.le_of_ble_eq_true rfl)).trans rfl
theorem i_L_law_1896 : am_i m_L_law 1896 = some (1896, .aload_n 2, 1, [], 0) := (lk_19 (Nat.le_of_ble_eq_true rfl)).trans rfl
theorem i_L_law_1897 : am_i m_L_law 1897 = some (1897, .invokevirtual 233, 3, [24, 10], 0) := (lk_19 (Nat.le_of_ble_eq_true rfl)).trans rfl
theorem b_L_law_1894 {a0 a1 a2 a3 a4 : Nat} {x5 xs0 : Int} {v6 v7 v8 : Value} {h : am_H} (k1 : K10 h a2) : rn m_L_law 1894 [.ref a0, .ref a1, .ref a2, .ref a3, .ref a4, .int (mI x5), v6, v7, v8] [.int (mI xs0)] h = cl m_L_law 1900 [.ref a0, .ref a1, .ref a2, .ref a3, .ref a4, .int (mI x5), .int (mI xs0), v7, v8] [] (rn m_X12_commonest 0 [.ref a2, am_J, am_J, am_J, am_J] [] h) := by
  refine (tq_istore (L' := [.ref a0, .ref a1, .ref a2, .ref a3, .ref a4, .int (mI x5), .int (mI xs0), v7, v8]) i_L_law_1894 rfl rfl).trans ?_
  refine (tq_aload_n i_L_law_1896 rfl (isA_ref _) rfl).trans ?_
  exact c_X12_commonest i_L_law_1897 (K10_s k1) (ltd d_L_law (by decide)) stOk_0 rfl
theorem i_L_law_1900 : am_i m_L_law 1900 = some (1900, .istore 7, 2, [], 0) := (lk_19 (Nat.le_of_ble_eq_true rfl)).trans rfl
theorem i_L_law_1902 : am_i m_L_law 1902 = some (1902, .aload_n 2, 1, [], 0) := (lk_19 (Nat.le_of_ble_eq_true rfl)).trans rfl
theorem i_L_law_1903 : am_i m_L_law 1903 = some (1903, .invokevirtual 139, 3, [39, 10], 0) := (lk_19 (Nat.le_of_ble_eq_true rfl)).trans rfl
theorem i_L_law_1906 : am_i m_L_law 1906 = some (1906, .iload 6, 2, [], 0) := (lk_19 (Nat.le_of_ble_eq_true rfl)).trans rfl
theorem i_L_law_1908 : am_i m_L_law 1908 = some (1908, .if_icmp .eq 5, 3, [], 0) := (lk_19 (Nat.le_of_ble_eq_true rfl)).trans rfl
theorem i_L_law_1911 : am_i m_L_law 1911 = some (1911, .iconst 0, 1, [], 0) := (lk_19 (Nat.le_of_ble_eq_true rfl)).trans rfl
theorem i_L_law_1912 : am_i m_L_law 1912 = some (1912, .ireturn, 1, [], 0) := (lk_19 (Nat.le_of_ble_eq_true rfl)).trans rfl
theorem i_L_law_1913 : am_i m_L_law 1913 = some (1913, .iload 6, 2, [], 0) := (lk_19 (Nat.le_of_ble_eq_true rfl)).trans rfl
theorem i_L_law_1915 : am_i m_L_law 1915 = some (1915, .ifCond .ne 15, 3, [], 0) := (lk_19 (Nat.le_of_ble_eq_true rfl)).trans rfl
theorem i_L_law_1918 : am_i m_L_law 1918 = some (1918, .aload_n 3, 1, [], 0) := (lk_19 (Nat.le_of_ble_eq_true rfl)).trans rfl
theorem i_L_law_1919 : am_i m_L_law 1919 = some (1919, .iconst 0, 1, [], 0) := (lk_19 (Nat.le_of_ble_eq_true rfl)).trans rfl
theorem i_L_law_1920 : am_i m_L_law 1920 = some (1920, .laload, 1, [], 0) := (lk_19 (Nat.le_of_ble_eq_true rfl)).trans rfl
theorem i_L_law_1921 : am_i m_L_law 1921 = some (1921, .iload 7, 2, [], 0) := (lk_19 (Nat.le_of_ble_eq_true rfl)).trans rfl
theorem i_L_law_1923 : am_i m_L_law 1923 = some (1923, .i2l, 1, [], 0) := (lk_19 (Nat.le_of_ble_eq_true rfl)).trans rfl
theorem i_L_law_1924 : am_i m_L_law 1924 = some (1924, .lcmp, 1, [], 0) := (lk_19 (Nat.le_of_ble_eq_true rfl)).trans rfl
theorem i_L_law_1925 : am_i m_L_law 1925 = some (1925, .ifCond .eq 5, 3, [], 0) := (lk_19 (Nat.le_of_ble_eq_true rfl)).trans rfl
theorem i_L_law_1928 : am_i m_L_law 1928 = some (1928, .iconst 0, 1, [], 0) := (lk_19 (Nat.le_of_ble_eq_true rfl)).trans rfl
theorem i_L_law_1929 : am_i m_L_law 1929 = some (1929, .ireturn, 1, [], 0) := (lk_19 (Nat.le_of_ble_eq_true rfl)).trans rfl
theorem i_L_law_1930 : am_i m_L_law 1930 = some (1930, .goto 453, 3, [], 0) := (lk_19 (Nat.le_of_ble_eq_true rfl)).trans rfl
theorem b_L_law_1900 {a0 a1 a2 a3 a4 n_a3 : Nat} {x5 x6 xs0 x6' xs0' : Int} {v7 v8 : Value} {h : am_H} (w6 : wr x6 = x6') (ws0 : wr xs0 = xs0') (k1 : K10 h a2) (n2 : gn h a3 = n_a3) (s3 : sh h a3 = (2, 3)) (g4 : ((fZ h a2 0) = x6') → (¬ (¬ x6' = 0)) → ((0 : Int) ≤ 0 ∧ 0 < (n_a3 : Int))) : rn m_L_law 1900 [.ref a0, .ref a1, .ref a2, .ref a3, .ref a4, .int (mI x5), .int (mI x6), v7, v8] [.int (mI xs0)] h = if (fZ h a2 0) = x6' then if ¬ x6' = 0 then rn m_L_law 2383 [.ref a0, .ref a1, .ref a2, .ref a3, .ref a4, .int (mI x5), .int (mI x6), .int (mI xs0), v8] [] h else if (gJ h a3 0) = xs0' then rn m_L_law 2383 [.ref a0, .ref a1, .ref a2, .ref a3, .ref a4, .int (mI x5), .int (mI x6), .int (mI xs0), v8] [] h else some (.inl (some (.int (mI 0))), h) else some (.inl (some (.int (mI 0))), h) := by
  refine (tq_istore (L' := [.ref a0, .ref a1, .ref a2, .ref a3, .ref a4, .int (mI x5), .int (mI x6), .int (mI xs0), v8]) i_L_law_1900 rfl rfl).trans ?_
  refine (tq_aload_n i_L_law_1902 rfl (isA_ref _) rfl).trans ?_
  refine (c_X12_thrown i_L_law_1903 (K10_s k1) (ltd d_L_law (by decide)) stOk_0 rfl).trans ?_
  refine (congrArg (cl _ _ _ _) (b_X12_thrown_0 k1)).trans ?_
  refine (cl_v _ _ _ _ _ _).trans ?_
  refine (tq_iload i_L_law_1906 rfl rfl).trans ?_
  refine (tq_icmp_eq (pt := 1913) i_L_law_1908 (wr_fZ _ _ _) w6 (by decide) rfl).trans ?_
  refine ite_congr rfl (fun c1 => ?_) (fun c1 => ?_)
  · refine (tq_iload i_L_law_1913 rfl rfl).trans ?_
    refine (tq_if_ne (pt := 1930) i_L_law_1915 w6 (by decide) rfl).trans ?_
    refine ite_congr rfl (fun c2 => ?_) (fun c2 => ?_)
    · refine (tq_goto (pc' := 2383) i_L_law_1930 (by decide)).trans ?_
      rfl
    · refine (tq_aload_n i_L_law_1918 rfl (isA_ref _) rfl).trans ?_
      refine (tq_iconst i_L_law_1919 rfl).trans ?_
      refine (tq_laload i_L_law_1920 s3 w_0 (g4 c1 c2).1 (lt_gn n2 (g4 c1 c2).2) rfl).trans ?_
      refine (tq_iload i_L_law_1921 rfl rfl).trans ?_
      refine (tq_i2l i_L_law_1923 ws0 rfl).trans ?_
      refine (tq_lcmp_eq (pt := 1930) i_L_law_1924 i_L_law_1925 rfl (wl_gJ _ _ _) (wl_of_wr ws0) (by decide) rfl).trans ?_
      refine ite_congr rfl (fun c3 => ?_) (fun c3 => ?_)
      · refine (tq_goto (pc' := 2383) i_L_law_1930 (by decide)).trans ?_
        rfl
      · refine (tq_iconst i_L_law_1928 rfl).trans ?_
        exact tq_ireturn i_L_law_1929 r_L_law (okB w_0 (by decide))
  · refine (tq_iconst i_L_law_1911 rfl).trans ?_
    exact tq_ireturn i_L_law_1912 r_L_law (okB w_0 (by decide))
theorem i_L_law_1933 : am_i m_L_law 1933 = some (1933, .aload_n 1, 1, [], 0) := (lk_19 (Nat.le_of_ble_eq_true rfl)).trans rfl
theorem i_L_law_1934 : am_i m_L_law 1934 = some (1934, .aload_n 0, 1, [], 0) := (lk_19 (Nat.le_of_ble_eq_true rfl)).trans rfl
theorem i_L_law_1935 : am_i m_L_law 1935 = some (1935, .iload 5, 2, [], 0) := (lk_19 (Nat.le_of_ble_eq_true rfl)).trans rfl
theorem i_L_law_1937 : am_i m_L_law 1937 = some (1937, .iconst 1, 1, [], 1) := (lk_19 (Nat.le_of_ble_eq_true rfl)).trans rfl
theorem i_L_law_1938 : am_i m_L_law 1938 = some (1938, .iadd, 1, [], 0) := (lk_19 (Nat.le_of_ble_eq_true rfl)).trans rfl
theorem i_L_law_1939 : am_i m_L_law 1939 = some (1939, .iaload, 1, [], 0) := (lk_19 (Nat.le_of_ble_eq_true rfl)).trans rfl
theorem i_L_law_1940 : am_i m_L_law 1940 = some (1940, .aload_n 3, 1, [], 0) := (lk_19 (Nat.le_of_ble_eq_true rfl)).trans rfl
theorem i_L_law_1941 : am_i m_L_law 1941 = some (1941, .invokestatic 234, 3, [250], 0) := (lk_19 (Nat.le_of_ble_eq_true rfl)).trans rfl
theorem b_L_law_1933 {a0 a1 a2 a3 a4 n_a0 : Nat} {x5 : Int} {v6 v7 v8 : Value} {h : am_H} (n1 : gn h a0 = n_a0) (s2 : sh h a0 = (1, 7)) (g3 : 0 ≤ wr (x5 + 1) ∧ wr (x5 + 1) < (n_a0 : Int)) : rn m_L_law 1933 [.ref a0, .ref a1, .ref a2, .ref a3, .ref a4, .int (mI x5), v6, v7, v8] [] h = cl m_L_law 1944 [.ref a0, .ref a1, .ref a2, .ref a3, .ref a4, .int (mI x5), v6, v7, v8] [] (rn m_L_send 0 [.ref a1, .int (mI (gZ h a0 (wr (x5 + 1)))), .ref a3, am_J] [] h) := by
  refine (tq_aload_n i_L_law_1933 rfl (isA_ref _) rfl).trans ?_
  refine (tq_aload_n i_L_law_1934 rfl (isA_ref _) rfl).trans ?_
  refine (tq_iload i_L_law_1935 rfl rfl).trans ?_
  refine (tq_iconst i_L_law_1937 rfl).trans ?_
  refine (tq_iadd i_L_law_1938 rfl).trans ?_
  refine (tq_iaload i_L_law_1939 s2 (by decide) rfl g3.1 (lt_gn n1 g3.2) rfl).trans ?_
  refine (tq_aload_n i_L_law_1940 rfl (isA_ref _) rfl).trans ?_
  exact c_L_send i_L_law_1941 (ltd d_L_law (by decide)) (isA_ref _) (isA_ref _) stOk_0 rfl
theorem i_L_law_1944 : am_i m_L_law 1944 = some (1944, .istore 6, 2, [], 0) := (lk_19 (Nat.le_of_ble_eq_true rfl)).trans rfl
theorem i_L_law_1946 : am_i m_L_law 1946 = some (1946, .aload_n 2, 1, [], 0) := (lk_19 (Nat.le_of_ble_eq_true rfl)).trans rfl
theorem i_L_law_1947 : am_i m_L_law 1947 = some (1947, .aload_n 0, 1, [], 0) := (lk_19 (Nat.le_of_ble_eq_true rfl)).trans rfl
theorem i_L_law_1948 : am_i m_L_law 1948 = some (1948, .iload 5, 2, [], 0) := (lk_19 (Nat.le_of_ble_eq_true rfl)).trans rfl
theorem i_L_law_1950 : am_i m_L_law 1950 = some (1950, .iconst 1, 1, [], 1) := (lk_19 (Nat.le_of_ble_eq_true rfl)).trans rfl
theorem i_L_law_1951 : am_i m_L_law 1951 = some (1951, .iadd, 1, [], 0) := (lk_19 (Nat.le_of_ble_eq_true rfl)).trans rfl
theorem i_L_law_1952 : am_i m_L_law 1952 = some (1952, .iaload, 1, [], 0) := (lk_19 (Nat.le_of_ble_eq_true rfl)).trans rfl
theorem i_L_law_1953 : am_i m_L_law 1953 = some (1953, .invokevirtual 236, 3, [237, 10], 0) := (lk_19 (Nat.le_of_ble_eq_true rfl)).trans rfl
theorem b_L_law_1944 {a0 a1 a2 a3 a4 n_a0 : Nat} {x5 xs0 : Int} {v6 v7 v8 : Value} {h : am_H} (n1 : gn h a0 = n_a0) (s2 : sh h a0 = (1, 7)) (g3 : 0 ≤ wr (x5 + 1) ∧ wr (x5 + 1) < (n_a0 : Int)) (k4 : K10 h a2) : rn m_L_law 1944 [.ref a0, .ref a1, .ref a2, .ref a3, .ref a4, .int (mI x5), v6, v7, v8] [.int (mI xs0)] h = cl m_L_law 1956 [.ref a0, .ref a1, .ref a2, .ref a3, .ref a4, .int (mI x5), .int (mI xs0), v7, v8] [] (rn m_X12_send 0 [.ref a2, .int (mI (gZ h a0 (wr (x5 + 1)))), am_J, am_J] [] h) := by
  refine (tq_istore (L' := [.ref a0, .ref a1, .ref a2, .ref a3, .ref a4, .int (mI x5), .int (mI xs0), v7, v8]) i_L_law_1944 rfl rfl).trans ?_
  refine (tq_aload_n i_L_law_1946 rfl (isA_ref _) rfl).trans ?_
  refine (tq_aload_n i_L_law_1947 rfl (isA_ref _) rfl).trans ?_
  refine (tq_iload i_L_law_1948 rfl rfl).trans ?_
  refine (tq_iconst i_L_law_1950 rfl).trans ?_
  refine (tq_iadd i_L_law_1951 rfl).trans ?_
  refine (tq_iaload i_L_law_1952 s2 (by decide) rfl g3.1 (lt_gn n1 g3.2) rfl).trans ?_
  exact c_X12_send i_L_law_1953 (K10_s k4) (ltd d_L_law (by decide)) stOk_0 rfl
theorem i_L_law_1956 : am_i m_L_law 1956 = some (1956, .istore 7, 2, [], 0) := (lk_19 (Nat.le_of_ble_eq_true rfl)).trans rfl
theorem i_L_law_1958 : am_i m_L_law 1958 = some (1958, .aload_n 2, 1, [], 0) := (lk_19 (Nat.le_of_ble_eq_true rfl)).trans rfl
theorem i_L_law_1959 : am_i m_L_law 1959 = some (1959, .invokevirtual 139, 3, [39, 10], 0) := (lk_19 (Nat.le_of_ble_eq_true rfl)).trans rfl
theorem i_L_law_1962 : am_i m_L_law 1962 = some (1962, .iload 6, 2, [], 0) := (lk_19 (Nat.le_of_ble_eq_true rfl)).trans rfl
theorem i_L_law_1964 : am_i m_L_law 1964 = some (1964, .if_icmp .eq 5, 3, [], 0) := (lk_19 (Nat.le_of_ble_eq_true rfl)).trans rfl
theorem i_L_law_1967 : am_i m_L_law 1967 = some (1967, .iconst 0, 1, [], 0) := (lk_19 (Nat.le_of_ble_eq_true rfl)).trans rfl
theorem i_L_law_1968 : am_i m_L_law 1968 = some (1968, .ireturn, 1, [], 0) := (lk_19 (Nat.le_of_ble_eq_true rfl)).trans rfl
theorem i_L_law_1969 : am_i m_L_law 1969 = some (1969, .iload 6, 2, [], 0) := (lk_19 (Nat.le_of_ble_eq_true rfl)).trans rfl
theorem i_L_law_1971 : am_i m_L_law 1971 = some (1971, .ifCond .ne 15, 3, [], 0) := (lk_19 (Nat.le_of_ble_eq_true rfl)).trans rfl
theorem i_L_law_1974 : am_i m_L_law 1974 = some (1974, .aload_n 3, 1, [], 0) := (lk_19 (Nat.le_of_ble_eq_true rfl)).trans rfl
theorem i_L_law_1975 : am_i m_L_law 1975 = some (1975, .iconst 0, 1, [], 0) := (lk_19 (Nat.le_of_ble_eq_true rfl)).trans rfl
theorem i_L_law_1976 : am_i m_L_law 1976 = some (1976, .laload, 1, [], 0) := (lk_19 (Nat.le_of_ble_eq_true rfl)).trans rfl
theorem i_L_law_1977 : am_i m_L_law 1977 = some (1977, .iload 7, 2, [], 0) := (lk_19 (Nat.le_of_ble_eq_true rfl)).trans rfl
theorem i_L_law_1979 : am_i m_L_law 1979 = some (1979, .i2l, 1, [], 0) := (lk_19 (Nat.le_of_ble_eq_true rfl)).trans rfl
theorem i_L_law_1980 : am_i m_L_law 1980 = some (1980, .lcmp, 1, [], 0) := (lk_19 (Nat.le_of_ble_eq_true rfl)).trans rfl
theorem i_L_law_1981 : am_i m_L_law 1981 = some (1981, .ifCond .eq 5, 3, [], 0) := (lk_19 (Nat.le_of_ble_eq_true rfl)).trans rfl
theorem i_L_law_1984 : am_i m_L_law 1984 = some (1984, .iconst 0, 1, [], 0) := (lk_19 (Nat.le_of_ble_eq_true rfl)).trans rfl
theorem i_L_law_1985 : am_i m_L_law 1985 = some (1985, .ireturn, 1, [], 0) := (lk_19 (Nat.le_of_ble_eq_true rfl)).trans rfl
theorem i_L_law_1986 : am_i m_L_law 1986 = some (1986, .goto 397, 3, [], 0) := (lk_19 (Nat.le_of_ble_eq_true rfl)).trans rfl
theorem b_L_law_1956 {a0 a1 a2 a3 a4 n_a3 : Nat} {x5 x6 xs0 x6' xs0' : Int} {v7 v8 : Value} {h : am_H} (w6 : wr x6 = x6') (ws0 : wr xs0 = xs0') (k1 : K10 h a2) (n2 : gn h a3 = n_a3) (s3 : sh h a3 = (2, 3)) (g4 : ((fZ h a2 0) = x6') → (¬ (¬ x6' = 0)) → ((0 : Int) ≤ 0 ∧ 0 < (n_a3 : Int))) : rn m_L_law 1956 [.ref a0, .ref a1, .ref a2, .ref a3, .ref a4, .int (mI x5), .int (mI x6), v7, v8] [.int (mI xs0)] h = if (fZ h a2 0) = x6' then if ¬ x6' = 0 then rn m_L_law 2383 [.ref a0, .ref a1, .ref a2, .ref a3, .ref a4, .int (mI x5), .int (mI x6), .int (mI xs0), v8] [] h else if (gJ h a3 0) = xs0' then rn m_L_law 2383 [.ref a0, .ref a1, .ref a2, .ref a3, .ref a4, .int (mI x5), .int (mI x6), .int (mI xs0), v8] [] h else some (.inl (some (.int (mI 0))), h) else some (.inl (some (.int (mI 0))), h) := by
  refine (tq_istore (L' := [.ref a0, .ref a1, .ref a2, .ref a3, .ref a4, .int (mI x5), .int (mI x6), .int (mI xs0), v8]) i_L_law_1956 rfl rfl).trans ?_
  refine (tq_aload_n i_L_law_1958 rfl (isA_ref _) rfl).trans ?_
  refine (c_X12_thrown i_L_law_1959 (K10_s k1) (ltd d_L_law (by decide)) stOk_0 rfl).trans ?_
  refine (congrArg (cl _ _ _ _) (b_X12_thrown_0 k1)).trans ?_
  refine (cl_v _ _ _ _ _ _).trans ?_
  refine (tq_iload i_L_law_1962 rfl rfl).trans ?_
  refine (tq_icmp_eq (pt := 1969) i_L_law_1964 (wr_fZ _ _ _) w6 (by decide) rfl).trans ?_
  refine ite_congr rfl (fun c1 => ?_) (fun c1 => ?_)
  · refine (tq_iload i_L_law_1969 rfl rfl).trans ?_
    refine (tq_if_ne (pt := 1986) i_L_law_1971 w6 (by decide) rfl).trans ?_
    refine ite_congr rfl (fun c2 => ?_) (fun c2 => ?_)
    · refine (tq_goto (pc' := 2383) i_L_law_1986 (by decide)).trans ?_
      rfl
    · refine (tq_aload_n i_L_law_1974 rfl (isA_ref _) rfl).trans ?_
      refine (tq_iconst i_L_law_1975 rfl).trans ?_
      refine (tq_laload i_L_law_1976 s3 w_0 (g4 c1 c2).1 (lt_gn n2 (g4 c1 c2).2) rfl).trans ?_
      refine (tq_iload i_L_law_1977 rfl rfl).trans ?_
      refine (tq_i2l i_L_law_1979 ws0 rfl).trans ?_
      refine (tq_lcmp_eq (pt := 1986) i_L_law_1980 i_L_law_1981 rfl (wl_gJ _ _ _) (wl_of_wr ws0) (by decide) rfl).trans ?_
      refine ite_congr rfl (fun c3 => ?_) (fun c3 => ?_)
      · refine (tq_goto (pc' := 2383) i_L_law_1986 (by decide)).trans ?_
        rfl
      · refine (tq_iconst i_L_law_1984 rfl).trans ?_
        exact tq_ireturn i_L_law_1985 r_L_law (okB w_0 (by decide))
  · refine (tq_iconst i_L_law_1967 rfl).trans ?_
    exact tq_ireturn i_L_law_1968 r_L_law (okB w_0 (by decide))
theorem i_L_law_1989 : am_i m_L_law 1989 = some (1989, .aload_n 1, 1, [], 0) := (lk_19 (Nat.le_of_ble_eq_true rfl)).trans rfl
theorem i_L_law_1990 : am_i m_L_law 1990 = some (1990, .aload_n 0, 1, [], 0) := (lk_19 (Nat.le_of_ble_eq_true rfl)).trans rfl
theorem i_L_law_1991 : am_i m_L_law 1991 = some (1991, .iload 5, 2, [], 0) := (lk_20 (Nat.le_of_ble_eq_true rfl)).trans rfl
theorem i_L_law_1993 : am_i m_L_law 1993 = some (1993, .iconst 1, 1, [], 1) := (lk_20 (Nat.le_of_ble_eq_true rfl)).trans rfl
theorem i_L_law_1994 : am_i m_L_law 1994 = some (1994, .iadd, 1, [], 0) := (lk_20 (Nat.le_of_ble_eq_true rfl)).trans rfl
theorem i_L_law_1995 : am_i m_L_law 1995 = some (1995, .iaload, 1, [], 0) := (lk_20 (Nat.le_of_ble_eq_true rfl)).trans rfl
theorem i_L_law_1996 : am_i m_L_law 1996 = some (1996, .aload_n 3, 1, [], 0) := (lk_20 (Nat.le_of_ble_eq_true rfl)).trans rfl
theorem i_L_law_1997 : am_i m_L_law 1997 = some (1997, .invokestatic 237, 3, [209], 0) := (lk_20 (Nat.le_of_ble_eq_true rfl)).trans rfl
theorem b_L_law_1989 {a0 a1 a2 a3 a4 n_a0 : Nat} {x5 : Int} {v6 v7 v8 : Value} {h : am_H} (n1 : gn h a0 = n_a0) (s2 : sh h a0 = (1, 7)) (g3 : 0 ≤ wr (x5 + 1) ∧ wr (x5 + 1) < (n_a0 : Int)) : rn m_L_law 1989 [.ref a0, .ref a1, .ref a2, .ref a3, .ref a4, .int (mI x5), v6, v7, v8] [] h = cl m_L_law 2000 [.ref a0, .ref a1, .ref a2, .ref a3, .ref a4, .int (mI x5), v6, v7, v8] [] (rn m_L_join 0 [.ref a1, .int (mI (gZ h a0 (wr (x5 + 1)))), .ref a3, am_J] [] h) := by
  refine (tq_aload_n i_L_law_1989 rfl (isA_ref _) rfl).trans ?_
  refine (tq_aload_n i_L_law_1990 rfl (isA_ref _) rfl).trans ?_
  refine (tq_iload i_L_law_1991 rfl rfl).trans ?_
  refine (tq_iconst i_L_law_1993 rfl).trans ?_
  refine (tq_iadd i_L_law_1994 rfl).trans ?_
  refine (tq_iaload i_L_law_1995 s2 (by decide) rfl g3.1 (lt_gn n1 g3.2) rfl).trans ?_
  refine (tq_aload_n i_L_law_1996 rfl (isA_ref _) rfl).trans ?_
  exact c_L_join i_L_law_1997 (ltd d_L_law (by decide)) (isA_ref _) (isA_ref _) stOk_0 rfl
theorem i_L_law_2000 : am_i m_L_law 2000 = some (2000, .istore 6, 2, [], 0) := (lk_20 (Nat.le_of_ble_eq_true rfl)).trans rfl
theorem i_L_law_2002 : am_i m_L_law 2002 = some (2002, .aload_n 2, 1, [], 0) := (lk_20 (Nat.le_of_ble_eq_true rfl)).trans rfl
theorem i_L_law_2003 : am_i m_L_law 2003 = some (2003, .aload_n 0, 1, [], 0) := (lk_20 (Nat.le_of_ble_eq_true rfl)).trans rfl
theorem i_L_law_2004 : am_i m_L_law 2004 = some (2004, .iload 5, 2, [], 0) := (lk_20 (Nat.le_of_ble_eq_true rfl)).trans rfl
theorem i_L_law_2006 : am_i m_L_law 2006 = some (2006, .iconst 1, 1, [], 1) := (lk_20 (Nat.le_of_ble_eq_true rfl)).trans rfl
theorem i_L_law_2007 : am_i m_L_law 2007 = some (2007, .iadd, 1, [], 0) := (lk_20 (Nat.le_of_ble_eq_true rfl)).trans rfl
theorem i_L_law_2008 : am_i m_L_law 2008 = some (2008, .iaload, 1, [], 0) := (lk_20 (Nat.le_of_ble_eq_true rfl)).trans rfl
theorem i_L_law_2009 : am_i m_L_law 2009 = some (2009, .invokevirtual 239, 3, [82, 10], 0) := (lk_20 (Nat.le_of_ble_eq_true rfl)).trans rfl
theorem b_L_law_2000 {a0 a1 a2 a3 a4 n_a0 : Nat} {x5 xs0 : Int} {v6 v7 v8 : Value} {h : am_H} (n1 : gn h a0 = n_a0) (s2 : sh h a0 = (1, 7)) (g3 : 0 ≤ wr (x5 + 1) ∧ wr (x5 + 1) < (n_a0 : Int)) (k4 : K10 h a2) : rn m_L_law 2000 [.ref a0, .ref a1, .ref a2, .ref a3, .ref a4, .int (mI x5), v6, v7, v8] [.int (mI xs0)] h = cl m_L_law 2012 [.ref a0, .ref a1, .ref a2, .ref a3, .ref a4, .int (mI x5), .int (mI xs0), v7, v8] [] (rn m_X12_join 0 [.ref a2, .int (mI (gZ h a0 (wr (x5 + 1)))), am_J] [] h) := by
  refine (tq_istore (L' := [.ref a0, .ref a1, .ref a2, .ref a3, .ref a4, .int (mI x5), .int (mI xs0), v7, v8]) i_L_law_2000 rfl rfl).trans ?_
  refine (tq_aload_n i_L_law_2002 rfl (isA_ref _) rfl).trans ?_
  refine (tq_aload_n i_L_law_2003 rfl (isA_ref _) rfl).trans ?_
  refine (tq_iload i_L_law_2004 rfl rfl).trans ?_
  refine (tq_iconst i_L_law_2006 rfl).trans ?_
  refine (tq_iadd i_L_law_2007 rfl).trans ?_
  refine (tq_iaload i_L_law_2008 s2 (by decide) rfl g3.1 (lt_gn n1 g3.2) rfl).trans ?_
  exact c_X12_join i_L_law_2009 (K10_s k4) (ltd d_L_law (by decide)) stOk_0 rfl
theorem i_L_law_2012 : am_i m_L_law 2012 = some (2012, .istore 7, 2, [], 0) := (lk_20 (Nat.le_of_ble_eq_true rfl)).trans rfl
theorem i_L_law_2014 : am_i m_L_law 2014 = some (2014, .aload_n 2, 1, [], 0) := (lk_20 (Nat.le_of_ble_eq_true rfl)).trans rfl
theorem i_L_law_2015 : am_i m_L_law 2015 = some (2015, .invokevirtual 139, 3, [39, 10], 0) := (lk_20 (Nat.le_of_ble_eq_true rfl)).trans rfl
theorem i_L_law_2018 : am_i m_L_law 2018 = some (2018, .iload 6, 2, [], 0) := (lk_20 (Nat.le_of_ble_eq_true rfl)).trans rfl
theorem i_L_law_2020 : am_i m_L_law 2020 = some (2020, .if_icmp .eq 5, 3, [], 0) := (lk_20 (Nat.le_of_ble_eq_true rfl)).trans rfl
theorem i_L_law_2023 : am_i m_L_law 2023 = some (2023, .iconst 0, 1, [], 0) := (lk_20 (Nat.le_of_ble_eq_true rfl)).trans rfl
theorem i_L_law_2024 : am_i m_L_law 2024 = some (2024, .ireturn, 1, [], 0) := (lk_20 (Nat.le_of_ble_eq_true rfl)).trans rfl
theorem i_L_law_2025 : am_i m_L_law 2025 = some (2025, .iload 6, 2, [], 0) := (lk_20 (Nat.le_of_ble_eq_true rfl)).trans rfl
theorem i_L_law_2027 : am_i m_L_law 2027 = some (2027, .ifCond .ne 15, 3, [], 0) := (lk_20 (Nat.le_of_ble_eq_true rfl)).trans rfl
theorem i_L_law_2030 : am_i m_L_law 2030 = some (2030, .aload_n 3, 1, [], 0) := (lk_20 (Nat.le_of_ble_eq_true rfl)).trans rfl
theorem i_L_law_2031 : am_i m_L_law 2031 = some (2031, .iconst 0, 1, [], 0) := (lk_20 (Nat.le_of_ble_eq_true rfl)).trans rfl
theorem i_L_law_2032 : am_i m_L_law 2032 = some (2032, .laload, 1, [], 0) := (lk_20 (Nat.le_of_ble_eq_true rfl)).trans rfl
theorem i_L_law_2033 : am_i m_L_law 2033 = some (2033, .iload 7, 2, [], 0) := (lk_20 (Nat.le_of_ble_eq_true rfl)).trans rfl
theorem i_L_law_2035 : am_i m_L_law 2035 = some (2035, .i2l, 1, [], 0) := (lk_20 (Nat.le_of_ble_eq_true rfl)).trans rfl
theorem i_L_law_2036 : am_i m_L_law 2036 = some (2036, .lcmp, 1, [], 0) := (lk_20 (Nat.le_of_ble_eq_true rfl)).trans rfl
theorem i_L_law_2037 : am_i m_L_law 2037 = some (2037, .ifCond .eq 5, 3, [], 0) := (lk_20 (Nat.le_of_ble_eq_true rfl)).trans rfl
theorem i_L_law_2040 : am_i m_L_law 2040 = some (2040, .iconst 0, 1, [], 0) := (lk_20 (Nat.le_of_ble_eq_true rfl)).trans rfl
theorem i_L_law_2041 : am_i m_L_law 2041 = some (2041, .ireturn, 1, [], 0) := (lk_20 (Nat.le_of_ble_eq_true rfl)).trans rfl
theorem i_L_law_2042 : am_i m_L_law 2042 = some (2042, .goto 341, 3, [], 0) := (lk_20 (Nat.le_of_ble_eq_true rfl)).trans rfl
theorem b_L_law_2012 {a0 a1 a2 a3 a4 n_a3 : Nat} {x5 x6 xs0 x6' xs0' : Int} {v7 v8 : Value} {h : am_H} (w6 : wr x6 = x6') (ws0 : wr xs0 = xs0') (k1 : K10 h a2) (n2 : gn h a3 = n_a3) (s3 : sh h a3 = (2, 3)) (g4 : ((fZ h a2 0) = x6') → (¬ (¬ x6' = 0)) → ((0 : Int) ≤ 0 ∧ 0 < (n_a3 : Int))) : rn m_L_law 2012 [.ref a0, .ref a1, .ref a2, .ref a3, .ref a4, .int (mI x5), .int (mI x6), v7, v8] [.int (mI xs0)] h = if (fZ h a2 0) = x6' then if ¬ x6' = 0 then rn m_L_law 2383 [.ref a0, .ref a1, .ref a2, .ref a3, .ref a4, .int (mI x5), .int (mI x6), .int (mI xs0), v8] [] h else if (gJ h a3 0) = xs0' then rn m_L_law 2383 [.ref a0, .ref a1, .ref a2, .ref a3, .ref a4, .int (mI x5), .int (mI x6), .int (mI xs0), v8] [] h else some (.inl (some (.int (mI 0))), h) else some (.inl (some (.int (mI 0))), h) := by
  refine (tq_istore (L' := [.ref a0, .ref a1, .ref a2, .ref a3, .ref a4, .int (mI x5), .int (mI x6), .int (mI xs0), v8]) i_L_law_2012 rfl rfl).trans ?_
  refine (tq_aload_n i_L_law_2014 rfl (isA_ref _) rfl).trans ?_
  refine (c_X12_thrown i_L_law_2015 (K10_s k1) (ltd d_L_law (by decide)) stOk_0 rfl).trans ?_
  refine (congrArg (cl _ _ _ _) (b_X12_thrown_0 k1)).trans ?_
  refine (cl_v _ _ _ _ _ _).trans ?_
  refine (tq_iload i_L_law_2018 rfl rfl).trans ?_
  refine (tq_icmp_eq (pt := 2025) i_L_law_2020 (wr_fZ _ _ _) w6 (by decide) rfl).trans ?_
  refine ite_congr rfl (fun c1 => ?_) (fun c1 => ?_)
  · refine (tq_iload i_L_law_2025 rfl rfl).trans ?_
    refine (tq_if_ne (pt := 2042) i_L_law_2027 w6 (by decide) rfl).trans ?_
    refine ite_congr rfl (fun c2 => ?_) (fun c2 => ?_)
    · refine (tq_goto (pc' := 2383) i_L_law_2042 (by decide)).trans ?_
      rfl
    · refine (tq_aload_n i_L_law_2030 rfl (isA_ref _) rfl).trans ?_
      refine (tq_iconst i_L_law_2031 rfl).trans ?_
      refine (tq_laload i_L_law_2032 s3 w_0 (g4 c1 c2).1 (lt_gn n2 (g4 c1 c2).2) rfl).trans ?_
      refine (tq_iload i_L_law_2033 rfl rfl).trans ?_
      refine (tq_i2l i_L_law_2035 ws0 rfl).trans ?_
      refine (tq_lcmp_eq (pt := 2042) i_L_law_2036 i_L_law_2037 rfl (wl_gJ _ _ _) (wl_of_wr ws0) (by decide) rfl).trans ?_
      refine ite_congr rfl (fun c3 => ?_) (fun c3 => ?_)
      · refine (tq_goto (pc' := 2383) i_L_law_2042 (by decide)).trans ?_
        rfl
      · refine (tq_iconst i_L_law_2040 rfl).trans ?_
        exact tq_ireturn i_L_law_2041 r_L_law (okB w_0 (by decide))
  · refine (tq_iconst i_L_law_2023 rfl).trans ?_
    exact tq_ireturn i_L_law_2024 r_L_law (okB w_0 (by decide))
theorem i_L_law_2045 : am_i m_L_law 2045 = some (2045, .aload_n 1, 1, [], 0) := (lk_20 (Nat.le_of_ble_eq_true rfl)).trans rfl
theorem i_L_law_2046 : am_i m_L_law 2046 = some (2046, .aload_n 3, 1, [], 0) := (lk_20 (Nat.le_of_ble_eq_true rfl)).trans rfl
theorem i_L_law_2047 : am_i m_L_law 2047 = some (2047, .invokestatic 240, 3, [251], 0) := (lk_20 (Nat.le_of_ble_eq_true rfl)).trans rfl
theorem b_L_law_2045 {a0 a1 a2 a3 a4 : Nat} {x5 : Int} {v6 v7 v8 : Value} {h : am_H} : rn m_L_law 2045 [.ref a0, .ref a1, .ref a2, .ref a3, .ref a4, .int (mI x5), v6, v7, v8] [] h = cl m_L_law 2050 [.ref a0, .ref a1, .ref a2, .ref a3, .ref a4, .int (mI x5), v6, v7, v8] [] (rn m_L_shown 0 [.ref a1, .ref a3, am_J] [] h) := by
  refine (tq_aload_n i_L_law_2045 rfl (isA_ref _) rfl).trans ?_
  refine (tq_aload_n i_L_law_2046 rfl (isA_ref _) rfl).trans ?_
  exact c_L_shown i_L_law_2047 (ltd d_L_law (by decide)) (isA_ref _) (isA_ref _) stOk_0 rfl
theorem i_L_law_2050 : am_i m_L_law 2050 = some (2050, .istore 6, 2, [], 0) := (lk_20 (Nat.le_of_ble_eq_true rfl)).trans rfl
theorem i_L_law_2052 : am_i m_L_law 2052 = some (2052, .aload_n 2, 1, [], 0) := (lk_20 (Nat.le_of_ble_eq_true rfl)).trans rfl
theorem i_L_law_2053 : am_i m_L_law 2053 = some (2053, .invokevirtual 242, 3, [96, 10], 0) := (lk_20 (Nat.le_of_ble_eq_true rfl)).trans rfl
theorem b_L_law_2050 {a0 a1 a2 a3 a4 : Nat} {x5 xs0 : Int} {v6 v7 v8 : Value} {h : am_H} (k1 : K10 h a2) : rn m_L_law 2050 [.ref a0, .ref a1, .ref a2, .ref a3, .ref a4, .int (mI x5), v6, v7, v8] [.int (mI xs0)] h = cl m_L_law 2056 [.ref a0, .ref a1, .ref a2, .ref a3, .ref a4, .int (mI x5), .int (mI xs0), v7, v8] [] (rn m_X12_shown 0 [.ref a2] [] h) := by
  refine (tq_istore (L' := [.ref a0, .ref a1, .ref a2, .ref a3, .ref a4, .int (mI x5), .int (mI xs0), v7, v8]) i_L_law_2050 rfl rfl).trans ?_
  refine (tq_aload_n i_L_law_2052 rfl (isA_ref _) rfl).trans ?_
  exact c_X12_shown i_L_law_2053 (K10_s k1) (ltd d_L_law (by decide)) stOk_0 rfl
theorem i_L_law_2056 : am_i m_L_law 2056 = some (2056, .istore 7, 2, [], 0) := (lk_20 (Nat.le_of_ble_eq_true rfl)).trans rfl
theorem i_L_law_2058 : am_i m_L_law 2058 = some (2058, .aload_n 2, 1, [], 0) := (lk_20 (Nat.le_of_ble_eq_true rfl)).trans rfl
theorem i_L_law_2059 : am_i m_L_law 2059 = some (2059, .invokevirtual 139, 3, [39, 10], 0) := (lk_20 (Nat.le_of_ble_eq_true rfl)).trans rfl
theorem i_L_law_2062 : am_i m_L_law 2062 = some (2062, .iload 6, 2, [], 0) := (lk_20 (Nat.le_of_ble_eq_true rfl)).trans rfl
theorem i_L_law_2064 : am_i m_L_law 2064 = some (2064, .if_icmp .eq 5, 3, [], 0) := (lk_20 (Nat.le_of_ble_eq_true rfl)).trans rfl
theorem i_L_law_2067 : am_i m_L_law 2067 = some (2067, .iconst 0, 1, [], 0) := (lk_20 (Nat.le_of_ble_eq_true rfl)).trans rfl
theorem i_L_law_2068 : am_i m_L_law 2068 = some (2068, .ireturn, 1, [], 0) := (lk_20 (Nat.le_of_ble_eq_true rfl)).trans rfl
theorem i_L_law_2069 : am_i m_L_law 2069 = some (2069, .iload 6, 2, [], 0) := (lk_20 (Nat.le_of_ble_eq_true rfl)).trans rfl
theorem i_L_law_2071 : am_i m_L_law 2071 = some (2071, .ifCond .ne 15, 3, [], 0) := (lk_20 (Nat.le_of_ble_eq_true rfl)).trans rfl
theorem i_L_law_2074 : am_i m_L_law 2074 = some (2074, .aload_n 3, 1, [], 0) := (lk_20 (Nat.le_of_ble_eq_true rfl)).trans rfl
theorem i_L_law_2075 : am_i m_L_law 2075 = some (2075, .iconst 0, 1, [], 0) := (lk_20 (Nat.le_of_ble_eq_true rfl)).trans rfl
theorem i_L_law_2076 : am_i m_L_law 2076 = some (2076, .laload, 1, [], 0) := (lk_20 (Nat.le_of_ble_eq_true rfl)).trans rfl
theorem i_L_law_2077 : am_i m_L_law 2077 = some (2077, .iload 7, 2, [], 0) := (lk_20 (Nat.le_of_ble_eq_true rfl)).trans rfl
theorem i_L_law_2079 : am_i m_L_law 2079 = some (2079, .i2l, 1, [], 0) := (lk_20 (Nat.le_of_ble_eq_true rfl)).trans rfl
theorem i_L_law_2080 : am_i m_L_law 2080 = some (2080, .lcmp, 1, [], 0) := (lk_20 (Nat.le_of_ble_eq_true rfl)).trans rfl
theorem i_L_law_2081 : am_i m_L_law 2081 = some (2081, .ifCond .eq 5, 3, [], 0) := (lk_20 (Nat.le_of_ble_eq_true rfl)).trans rfl
theorem i_L_law_2084 : am_i m_L_law 2084 = some (2084, .iconst 0, 1, [], 0) := (lk_20 (Nat.le_of_ble_eq_true rfl)).trans rfl
theorem i_L_law_2085 : am_i m_L_law 2085 = some (2085, .ireturn, 1, [], 0) := (lk_20 (Nat.le_of_ble_eq_true rfl)).trans rfl
theorem i_L_law_2086 : am_i m_L_law 2086 = some (2086, .goto 297, 3, [], 0) := (lk_20 (Nat.le_of_ble_eq_true rfl)).trans rfl
theorem b_L_law_2056 {a0 a1 a2 a3 a4 n_a3 : Nat} {x5 x6 xs0 x6' xs0' : Int} {v7 v8 : Value} {h : am_H} (w6 : wr x6 = x6') (ws0 : wr xs0 = xs0') (k1 : K10 h a2) (n2 : gn h a3 = n_a3) (s3 : sh h a3 = (2, 3)) (g4 : ((fZ h a2 0) = x6') → (¬ (¬ x6' = 0)) → ((0 : Int) ≤ 0 ∧ 0 < (n_a3 : Int))) : rn m_L_law 2056 [.ref a0, .ref a1, .ref a2, .ref a3, .ref a4, .int (mI x5), .int (mI x6), v7, v8] [.int (mI xs0)] h = if (fZ h a2 0) = x6' then if ¬ x6' = 0 then rn m_L_law 2383 [.ref a0, .ref a1, .ref a2, .ref a3, .ref a4, .int (mI x5), .int (mI x6), .int (mI xs0), v8] [] h else if (gJ h a3 0) = xs0' then rn m_L_law 2383 [.ref a0, .ref a1, .ref a2, .ref a3, .ref a4, .int (mI x5), .int (mI x6), .int (mI xs0), v8] [] h else some (.inl (some (.int (mI 0))), h) else some (.inl (some (.int (mI 0))), h) := by
  refine (tq_istore (L' := [.ref a0, .ref a1, .ref a2, .ref a3, .ref a4, .int (mI x5), .int (mI x6), .int (mI xs0), v8]) i_L_law_2056 rfl rfl).trans ?_
  refine (tq_aload_n i_L_law_2058 rfl (isA_ref _) rfl).trans ?_
  refine (c_X12_thrown i_L_law_2059 (K10_s k1) (ltd d_L_law (by decide)) stOk_0 rfl).trans ?_
  refine (congrArg (cl _ _ _ _) (b_X12_thrown_0 k1)).trans ?_
  refine (cl_v _ _ _ _ _ _).trans ?_
  refine (tq_iload i_L_law_2062 rfl rfl).trans ?_
  refine (tq_icmp_eq (pt := 2069) i_L_law_2064 (wr_fZ _ _ _) w6 (by decide) rfl).trans ?_
  refine ite_congr rfl (fun c1 => ?_) (fun c1 => ?_)
  · refine (tq_iload i_L_law_2069 rfl rfl).trans ?_
    refine (tq_if_ne (pt := 2086) i_L_law_2071 w6 (by decide) rfl).trans ?_
    refine ite_congr rfl (fun c2 => ?_) (fun c2 => ?_)
    · refine (tq_goto (pc' := 2383) i_L_law_2086 (by decide)).trans ?_
      rfl
    · refine (tq_aload_n i_L_law_2074 rfl (isA_ref _) rfl).trans ?_
      refine (tq_iconst i_L_law_2075 rfl).trans ?_
      refine (tq_laload i_L_law_2076 s3 w_0 (g4 c1 c2).1 (lt_gn n2 (g4 c1 c2).2) rfl).trans ?_
      refine (tq_iload i_L_law_2077 rfl rfl).trans ?_
      refine (tq_i2l i_L_law_2079 ws0 rfl).trans ?_
      refine (tq_lcmp_eq (pt := 2086) i_L_law_2080 i_L_law_2081 rfl (wl_gJ _ _ _) (wl_of_wr ws0) (by decide) rfl).trans ?_
      refine ite_congr rfl (fun c3 => ?_) (fun c3 => ?_)
      · refine (tq_goto (pc' := 2383) i_L_law_2086 (by decide)).trans ?_
        rfl
      · refine (tq_iconst i_L_law_2084 rfl).trans ?_
        exact tq_ireturn i_L_law_2085 r_L_law (okB w_0 (by decide))
  · refine (tq_iconst i_L_law_2067 rfl).trans ?_
    exact tq_ireturn i_L_law_2068 r_L_law (okB w_0 (by decide))
theorem i_L_law_2089 : am_i m_L_law 2089 = some (2089, .aload_n 1, 1, [], 0) := (lk_20 (Nat.le_of_ble_eq_true rfl)).trans rfl
theorem i_L_law_2090 : am_i m_L_law 2090 = some (2090, .aload_n 0, 1, [], 0) := (lk_20 (Nat.le_of_ble_eq_true rfl)).trans rfl
theorem i_L_law_2091 : am_i m_L_law 2091 = some (2091, .iload 5, 2, [], 0) := (lk_21 (Nat.le_of_ble_eq_true rfl)).trans rfl
theorem i_L_law_2093 : am_i m_L_law 2093 = some (2093, .iconst 1, 1, [], 1) := (lk_21 (Nat.le_of_ble_eq_true rfl)).trans rfl
theorem i_L_law_2094 : am_i m_L_law 2094 = some (2094, .iadd, 1, [], 0) := (lk_21 (Nat.le_of_ble_eq_true rfl)).trans rfl
theorem i_L_law_2095 : am_i m_L_law 2095 = some (2095, .iaload, 1, [], 0) := (lk_21 (Nat.le_of_ble_eq_true rfl)).trans rfl
theorem i_L_law_2096 : am_i m_L_law 2096 = some (2096, .aload_n 0, 1, [], 0) := (lk_21 (Nat.le_of_ble_eq_true rfl)).trans rfl
theorem i_L_law_2097 : am_i m_L_law 2097 = some (2097, .iload 5, 2, [], 0) := (lk_21 (Nat.le_of_ble_eq_true rfl)).trans rfl
theorem i_L_law_2099 : am_i m_L_law 2099 = some (2099, .iconst 2, 1, [], 2) := (lk_21 (Nat.le_of_ble_eq_true rfl)).trans rfl
theorem i_L_law_2100 : am_i m_L_law 2100 = some (2100, .iadd, 1, [], 0) := (lk_21 (Nat.le_of_ble_eq_true rfl)).trans rfl
theorem i_L_law_2101 : am_i m_L_law 2101 = some (2101, .iaload, 1, [], 0) := (lk_21 (Nat.le_of_ble_eq_true rfl)).trans rfl
theorem i_L_law_2102 : am_i m_L_law 2102 = some (2102, .aload_n 3, 1, [], 0) := (lk_21 (Nat.le_of_ble_eq_true rfl)).trans rfl
theorem i_L_law_2103 : am_i m_L_law 2103 = some (2103, .invokestatic 243, 3, [252], 0) := (lk_21 (Nat.le_of_ble_eq_true rfl)).trans rfl
theorem b_L_law_2089 {a0 a1 a2 a3 a4 n_a0 : Nat} {x5 : Int} {v6 v7 v8 : Value} {h : am_H} (n1 : gn h a0 = n_a0) (s2 : sh h a0 = (1, 7)) (g3 : 0 ≤ wr (x5 + 1) ∧ wr (x5 + 1) < (n_a0 : Int)) (g4 : 0 ≤ wr (x5 + 2) ∧ wr (x5 + 2) < (n_a0 : Int)) : rn m_L_law 2089 [.ref a0, .ref a1, .ref a2, .ref a3, .ref a4, .int (mI x5), v6, v7, v8] [] h = cl m_L_law 2106 [.ref a0, .ref a1, .ref a2, .ref a3, .ref a4, .int (mI x5), v6, v7, v8] [] (rn m_L_shownAt 0 [.ref a1, .int (mI (gZ h a0 (wr (x5 + 1)))), .int (mI (gZ h a0 (wr (x5 + 2)))), .ref a3, am_J] [] h) := by
  refine (tq_aload_n i_L_law_2089 rfl (isA_ref _) rfl).trans ?_
  refine (tq_aload_n i_L_law_2090 rfl (isA_ref _) rfl).trans ?_
  refine (tq_iload i_L_law_2091 rfl rfl).trans ?_
  refine (tq_iconst i_L_law_2093 rfl).trans ?_
  refine (tq_iadd i_L_law_2094 rfl).trans ?_
  refine (tq_iaload i_L_law_2095 s2 (by decide) rfl g3.1 (lt_gn n1 g3.2) rfl).trans ?_
  refine (tq_aload_n i_L_law_2096 rfl (isA_ref _) rfl).trans ?_
  refine (tq_iload i_L_law_2097 rfl rfl).trans ?_
  refine (tq_iconst i_L_law_2099 rfl).trans ?_
  refine (tq_iadd i_L_law_2100 rfl).trans ?_
  refine (tq_iaload i_L_law_2101 s2 (by decide) rfl g4.1 (lt_gn n1 g4.2) rfl).trans ?_
  refine (tq_aload_n i_L_law_2102 rfl (isA_ref _) rfl).trans ?_
  exact c_L_shownAt i_L_law_2103 (ltd d_L_law (by decide)) (isA_ref _) (isA_ref _) stOk_0 rfl
theorem i_L_law_2106 : am_i m_L_law 2106 = some (2106, .istore 6, 2, [], 0) := (lk_21 (Nat.le_of_ble_eq_true rfl)).trans rfl
theorem i_L_law_2108 : am_i m_L_law 2108 = some (2108, .aload_n 2, 1, [], 0) := (lk_21 (Nat.le_of_ble_eq_true rfl)).trans rfl
theorem i_L_law_2109 : am_i m_L_law 2109 = some (2109, .aload_n 0, 1, [], 0) := (lk_21 (Nat.le_of_ble_eq_true rfl)).trans rfl
theorem i_L_law_2110 : am_i m_L_law 2110 = some (2110, .iload 5, 2, [], 0) := (lk_21 (Nat.le_of_ble_eq_true rfl)).trans rfl
theorem i_L_law_2112 : am_i m_L_law 2112 = some (2112, .iconst 1, 1, [], 1) := (lk_21 (Nat.le_of_ble_eq_true rfl)).trans rfl
theorem i_L_law_2113 : am_i m_L_law 2113 = some (2113, .iadd, 1, [], 0) := (lk_21 (Nat.le_of_ble_eq_true rfl)).trans rfl
theorem i_L_law_2114 : am_i m_L_law 2114 = some (2114, .iaload, 1, [], 0) := (lk_21 (Nat.le_of_ble_eq_true rfl)).trans rfl
theorem i_L_law_2115 : am_i m_L_law 2115 = some (2115, .aload_n 0, 1, [], 0) := (lk_21 (Nat.le_of_ble_eq_true rfl)).trans rfl
theorem i_L_law_2116 : am_i m_L_law 2116 = some (2116, .iload 5, 2, [], 0) := (lk_21 (Nat.le_of_ble_eq_true rfl)).trans rfl
theorem i_L_law_2118 : am_i m_L_law 2118 = some (2118, .iconst 2, 1, [], 2) := (lk_21 (Nat.le_of_ble_eq_true rfl)).trans rfl
theorem i_L_law_2119 : am_i m_L_law 2119 = some (2119, .iadd, 1, [], 0) := (lk_21 (Nat.le_of_ble_eq_true rfl)).trans rfl
theorem i_L_law_2120 : am_i m_L_law 2120 = some (2120, .iaload, 1, [], 0) := (lk_21 (Nat.le_of_ble_eq_true rfl)).trans rfl
theorem i_L_law_2121 : am_i m_L_law 2121 = some (2121, .invokevirtual 245, 3, [139, 10], 0) := (lk_21 (Nat.le_of_ble_eq_true rfl)).trans rfl
theorem b_L_law_2106 {a0 a1 a2 a3 a4 n_a0 : Nat} {x5 xs0 : Int} {v6 v7 v8 : Value} {h : am_H} (n1 : gn h a0 = n_a0) (s2 : sh h a0 = (1, 7)) (g3 : 0 ≤ wr (x5 + 1) ∧ wr (x5 + 1) < (n_a0 : Int)) (g4 : 0 ≤ wr (x5 + 2) ∧ wr (x5 + 2) < (n_a0 : Int)) (k5 : K10 h a2) : rn m_L_law 2106 [.ref a0, .ref a1, .ref a2, .ref a3, .ref a4, .int (mI x5), v6, v7, v8] [.int (mI xs0)] h = cl m_L_law 2124 [.ref a0, .ref a1, .ref a2, .ref a3, .ref a4, .int (mI x5), .int (mI xs0), v7, v8] [] (rn m_X12_shownAt 0 [.ref a2, .int (mI (gZ h a0 (wr (x5 + 1)))), .int (mI (gZ h a0 (wr (x5 + 2))))] [] h) := by
  refine (tq_istore (L' := [.ref a0, .ref a1, .ref a2, .ref a3, .ref a4, .int (mI x5), .int (mI xs0), v7, v8]) i_L_law_2106 rfl rfl).trans ?_
  refine (tq_aload_n i_L_law_2108 rfl (isA_ref _) rfl).trans ?_
  refine (tq_aload_n i_L_law_2109 rfl (isA_ref _) rfl).trans ?_
  refine (tq_iload i_L_law_2110 rfl rfl).trans ?_
  refine (tq_iconst i_L_law_2112 rfl).trans ?_
  refine (tq_iadd i_L_law_2113 rfl).trans ?_
  refine (tq_iaload i_L_law_2114 s2 (by decide) rfl g3.1 (lt_gn n1 g3.2) rfl).trans ?_
  refine (tq_aload_n i_L_law_2115 rfl (isA_ref _) rfl).trans ?_
  refine (tq_iload i_L_law_2116 rfl rfl).trans ?_
  refine (tq_iconst i_L_law_2118 rfl).trans ?_
  refine (tq_iadd i_L_law_2119 rfl).trans ?_
  refine (tq_iaload i_L_law_2120 s2 (by decide) rfl g4.1 (lt_gn n1 g4.2) rfl).trans ?_
  exact c_X12_shownAt i_L_law_2121 (K10_s k5) (ltd d_L_law (by decide)) stOk_0 rfl
theorem i_L_law_2124 : am_i m_L_law 2124 = some (2124, .istore 7, 2, [], 0) := (lk_21 (Nat.le_of_ble_eq_true rfl)).trans rfl
theorem i_L_law_2126 : am_i m_L_law 2126 = some (2126, .aload_n 2, 1, [], 0) := (lk_21 (Nat.le_of_ble_eq_true rfl)).trans rfl
theorem i_L_law_2127 : am_i m_L_law 2127 = some (2127, .invokevirtual 139, 3, [39, 10], 0) := (lk_21 (Nat.le_of_ble_eq_true rfl)).trans rfl
theorem i_L_law_2130 : am_i m_L_law 2130 = some (2130, .iload 6, 2, [], 0) := (lk_21 (Nat.le_of_ble_eq_true rfl)).trans rfl
theorem i_L_law_2132 : am_i m_L_law 2132 = some (2132, .if_icmp .eq 5, 3, [], 0) := (lk_21 (Nat.le_of_ble_eq_true rfl)).trans rfl
theorem i_L_law_2135 : am_i m_L_law 2135 = some (2135, .iconst 0, 1, [], 0) := (lk_21 (Nat.le_of_ble_eq_true rfl)).trans rfl
theorem i_L_law_2136 : am_i m_L_law 2136 = some (2136, .ireturn, 1, [], 0) := (lk_21 (Nat.le_of_ble_eq_true rfl)).trans rfl
theorem i_L_law_2137 : am_i m_L_law 2137 = some (2137, .iload 6, 2, [], 0) := (lk_21 (Nat.le_of_ble_eq_true rfl)).trans rfl
theorem i_L_law_2139 : am_i m_L_law 2139 = some (2139, .ifCond .ne 15, 3, [], 0) := (lk_21 (Nat.le_of_ble_eq_true rfl)).trans rfl
theorem i_L_law_2142 : am_i m_L_law 2142 = some (2142, .aload_n 3, 1, [], 0) := (lk_21 (Nat.le_of_ble_eq_true rfl)).trans rfl
theorem i_L_law_2143 : am_i m_L_law 2143 = some (2143, .iconst 0, 1, [], 0) := (lk_21 (Nat.le_of_ble_eq_true rfl)).trans rfl
theorem i_L_law_2144 : am_i m_L_law 2144 = some (2144, .laload, 1, [], 0) := (lk_21 (Nat.le_of_ble_eq_true rfl)).trans rfl
theorem i_L_law_2145 : am_i m_L_law 2145 = some (2145, .iload 7, 2, [], 0) := (lk_21 (Nat.le_of_ble_eq_true rfl)).trans rfl
theorem i_L_law_2147 : am_i m_L_law 2147 = some (2147, .i2l, 1, [], 0) := (lk_21 (Nat.le_of_ble_eq_true rfl)).trans rfl
theorem i_L_law_2148 : am_i m_L_law 2148 = some (2148, .lcmp, 1, [], 0) := (lk_21 (Nat.le_of_ble_eq_true rfl)).trans rfl
theorem i_L_law_2149 : am_i m_L_law 2149 = some (2149, .ifCond .eq 5, 3, [], 0) := (lk_21 (Nat.le_of_ble_eq_true rfl)).trans rfl
theorem i_L_law_2152 : am_i m_L_law 2152 = some (2152, .iconst 0, 1, [], 0) := (lk_21 (Nat.le_of_ble_eq_true rfl)).trans rfl
theorem i_L_law_2153 : am_i m_L_law 2153 = some (2153, .ireturn, 1, [], 0) := (lk_21 (Nat.le_of_ble_eq_true rfl)).trans rfl
theorem i_L_law_2154 : am_i m_L_law 2154 = some (2154, .goto 229, 3, [], 0) := (lk_21 (Nat.le_of_ble_eq_true rfl)).trans rfl
theorem b_L_law_2124 {a0 a1 a2 a3 a4 n_a3 : Nat} {x5 x6 xs0 x6' xs0' : Int} {v7 v8 : Value} {h : am_H} (w6 : wr x6 = x6') (ws0 : wr xs0 = xs0') (k1 : K10 h a2) (n2 : gn h a3 = n_a3) (s3 : sh h a3 = (2, 3)) (g4 : ((fZ h a2 0) = x6') → (¬ (¬ x6' = 0)) → ((0 : Int) ≤ 0 ∧ 0 < (n_a3 : Int))) : rn m_L_law 2124 [.ref a0, .ref a1, .ref a2, .ref a3, .ref a4, .int (mI x5), .int (mI x6), v7, v8] [.int (mI xs0)] h = if (fZ h a2 0) = x6' then if ¬ x6' = 0 then rn m_L_law 2383 [.ref a0, .ref a1, .ref a2, .ref a3, .ref a4, .int (mI x5), .int (mI x6), .int (mI xs0), v8] [] h else if (gJ h a3 0) = xs0' then rn m_L_law 2383 [.ref a0, .ref a1, .ref a2, .ref a3, .ref a4, .int (mI x5), .int (mI x6), .int (mI xs0), v8] [] h else some (.inl (some (.int (mI 0))), h) else some (.inl (some (.int (mI 0))), h) := by
  refine (tq_istore (L' := [.ref a0, .ref a1, .ref a2, .ref a3, .ref a4, .int (mI x5), .int (mI x6), .int (mI xs0), v8]) i_L_law_2124 rfl rfl).trans ?_
  refine (tq_aload_n i_L_law_2126 rfl (isA_ref _) rfl).trans ?_
  refine (c_X12_thrown i_L_law_2127 (K10_s k1) (ltd d_L_law (by decide)) stOk_0 rfl).trans ?_
  refine (congrArg (cl _ _ _ _) (b_X12_thrown_0 k1)).trans ?_
  refine (cl_v _ _ _ _ _ _).trans ?_
  refine (tq_iload i_L_law_2130 rfl rfl).trans ?_
  refine (tq_icmp_eq (pt := 2137) i_L_law_2132 (wr_fZ _ _ _) w6 (by decide) rfl).trans ?_
  refine ite_congr rfl (fun c1 => ?_) (fun c1 => ?_)
  · refine (tq_iload i_L_law_2137 rfl rfl).trans ?_
    refine (tq_if_ne (pt := 2154) i_L_law_2139 w6 (by decide) rfl).trans ?_
    refine ite_congr rfl (fun c2 => ?_) (fun c2 => ?_)
    · refine (tq_goto (pc' := 2383) i_L_law_2154 (by decide)).trans ?_
      rfl
    · refine (tq_aload_n i_L_law_2142 rfl (isA_ref _) rfl).trans ?_
      refine (tq_iconst i_L_law_2143 rfl).trans ?_
      refine (tq_laload i_L_law_2144 s3 w_0 (g4 c1 c2).1 (lt_gn n2 (g4 c1 c2).2) rfl).trans ?_
      refine (tq_iload i_L_law_2145 rfl rfl).trans ?_
      refine (tq_i2l i_L_law_2147 ws0 rfl).trans ?_
      refine (tq_lcmp_eq (pt := 2154) i_L_law_2148 i_L_law_2149 rfl (wl_gJ _ _ _) (wl_of_wr ws0) (by decide) rfl).trans ?_
      refine ite_congr rfl (fun c3 => ?_) (fun c3 => ?_)
      · refine (tq_goto (pc' := 2383) i_L_law_2154 (by decide)).trans ?_
        rfl
      · refine (tq_iconst i_L_law_2152 rfl).trans ?_
        exact tq_ireturn i_L_law_2153 r_L_law (okB w_0 (by decide))
  · refine (tq_iconst i_L_law_2135 rfl).trans ?_
    exact tq_ireturn i_L_law_2136 r_L_law (okB w_0 (by decide))
theorem i_L_law_2157 : am_i m_L_law 2157 = some (2157, .aload_n 1, 1, [], 0) := (lk_21 (Nat.le_of_ble_eq_true rfl)).trans rfl
theorem i_L_law_2158 : am_i m_L_law 2158 = some (2158, .aload_n 3, 1, [], 0) := (lk_21 (Nat.le_of_ble_eq_true rfl)).trans rfl
theorem i_L_law_2159 : am_i m_L_law 2159 = some (2159, .invokestatic 246, 3, [243], 0) := (lk_21 (Nat.le_of_ble_eq_true rfl)).trans rfl
theorem b_L_law_2157 {a0 a1 a2 a3 a4 : Nat} {x5 : Int} {v6 v7 v8 : Value} {h : am_H} : rn m_L_law 2157 [.ref a0, .ref a1, .ref a2, .ref a3, .ref a4, .int (mI x5), v6, v7, v8] [] h = cl m_L_law 2162 [.ref a0, .ref a1, .ref a2, .ref a3, .ref a4, .int (mI x5), v6, v7, v8] [] (rn m_L_isClean 0 [.ref a1, .ref a3, am_J] [] h) := by
  refine (tq_aload_n i_L_law_2157 rfl (isA_ref _) rfl).trans ?_
  refine (tq_aload_n i_L_law_2158 rfl (isA_ref _) rfl).trans ?_
  exact c_L_isClean i_L_law_2159 (ltd d_L_law (by decide)) (isA_ref _) (isA_ref _) stOk_0 rfl
theorem i_L_law_2162 : am_i m_L_law 2162 = some (2162, .istore 6, 2, [], 0) := (lk_21 (Nat.le_of_ble_eq_true rfl)).trans rfl
theorem i_L_law_2164 : am_i m_L_law 2164 = some (2164, .aload_n 2, 1, [], 0) := (lk_21 (Nat.le_of_ble_eq_true rfl)).trans rfl
theorem i_L_law_2165 : am_i m_L_law 2165 = some (2165, .invokevirtual 248, 3, [79, 10], 0) := (lk_21 (Nat.le_of_ble_eq_true rfl)).trans rfl
theorem b_L_law_2162 {a0 a1 a2 a3 a4 : Nat} {x5 xs0 : Int} {v6 v7 v8 : Value} {h : am_H} (k1 : K10 h a2) : rn m_L_law 2162 [.ref a0, .ref a1, .ref a2, .ref a3, .ref a4, .int (mI x5), v6, v7, v8] [.int (mI xs0)] h = cl m_L_law 2168 [.ref a0, .ref a1, .ref a2, .ref a3, .ref a4, .int (mI x5), .int (mI xs0), v7, v8] [] (rn m_X12_isClean 0 [.ref a2] [] h) := by
  refine (tq_istore (L' := [.ref a0, .ref a1, .ref a2, .ref a3, .ref a4, .int (mI x5), .int (mI xs0), v7, v8]) i_L_law_2162 rfl rfl).trans ?_
  refine (tq_aload_n i_L_law_2164 rfl (isA_ref _) rfl).trans ?_
  exact c_X12_isClean i_L_law_2165 (K10_s k1) (ltd d_L_law (by decide)) stOk_0 rfl
theorem i_L_law_2168 : am_i m_L_law 2168 = some (2168, .istore 7, 2, [], 0) := (lk_21 (Nat.le_of_ble_eq_true rfl)).trans rfl
theorem i_L_law_2170 : am_i m_L_law 2170 = some (2170, .aload_n 2, 1, [], 0) := (lk_21 (Nat.le_of_ble_eq_true rfl)).trans rfl
theorem i_L_law_2171 : am_i m_L_law 2171 = some (2171, .invokevirtual 139, 3, [39, 10], 0) := (lk_21 (Nat.le_of_ble_eq_true rfl)).trans rfl
theorem i_L_law_2174 : am_i m_L_law 2174 = some (2174, .iload 6, 2, [], 0) := (lk_21 (Nat.le_of_ble_eq_true rfl)).trans rfl
theorem i_L_law_2176 : am_i m_L_law 2176 = some (2176, .if_icmp .eq 5, 3, [], 0) := (lk_21 (Nat.le_of_ble_eq_true rfl)).trans rfl
theorem i_L_law_2179 : am_i m_L_law 2179 = some (2179, .iconst 0, 1, [], 0) := (lk_21 (Nat.le_of_ble_eq_true rfl)).trans rfl
theorem i_L_law_2180 : am_i m_L_law 2180 = some (2180, .ireturn, 1, [], 0) := (lk_21 (Nat.le_of_ble_eq_true rfl)).trans rfl
theorem i_L_law_2181 : am_i m_L_law 2181 = some (2181, .iload 6, 2, [], 0) := (lk_21 (Nat.le_of_ble_eq_true rfl)).trans rfl
theorem i_L_law_2183 : am_i m_L_law 2183 = some (2183, .ifCond .ne 22, 3, [], 0) := (lk_21 (Nat.le_of_ble_eq_true rfl)).trans rfl
theorem i_L_law_2186 : am_i m_L_law 2186 = some (2186, .aload_n 3, 1, [], 0) := (lk_21 (Nat.le_of_ble_eq_true rfl)).trans rfl
theorem i_L_law_2187 : am_i m_L_law 2187 = some (2187, .iconst 0, 1, [], 0) := (lk_21 (Nat.le_of_ble_eq_true rfl)).trans rfl
theorem i_L_law_2188 : am_i m_L_law 2188 = some (2188, .laload, 1, [], 0) := (lk_22 (Nat.le_of_ble_eq_true rfl)).trans rfl
theorem i_L_law_2189 : am_i m_L_law 2189 = some (2189, .iload 7, 2, [], 0) := (lk_22 (Nat.le_of_ble_eq_true rfl)).trans rfl
theorem i_L_law_2191 : am_i m_L_law 2191 = some (2191, .ifCond .eq 7, 3, [], 0) := (lk_22 (Nat.le_of_ble_eq_true rfl)).trans rfl
theorem i_L_law_2194 : am_i m_L_law 2194 = some (2194, .lconst 1, 1, [], 1) := (lk_22 (Nat.le_of_ble_eq_true rfl)).trans rfl
theorem i_L_law_2195 : am_i m_L_law 2195 = some (2195, .goto 4, 3, [], 0) := (lk_22 (Nat.le_of_ble_eq_true rfl)).trans rfl
theorem i_L_law_2198 : am_i m_L_law 2198 = some (2198, .lconst 0, 1, [], 0) := (lk_22 (Nat.le_of_ble_eq_true rfl)).trans rfl
theorem i_L_law_2199 : am_i m_L_law 2199 = some (2199, .lcmp, 1, [], 0) := (lk_22 (Nat.le_of_ble_eq_true rfl)).trans rfl
theorem i_L_law_2200 : am_i m_L_law 2200 = some (2200, .ifCond .eq 5, 3, [], 0) := (lk_22 (Nat.le_of_ble_eq_true rfl)).trans rfl
theorem i_L_law_2203 : am_i m_L_law 2203 = some (2203, .iconst 0, 1, [], 0) := (lk_22 (Nat.le_of_ble_eq_true rfl)).trans rfl
theorem i_L_law_2204 : am_i m_L_law 2204 = some (2204, .ireturn, 1, [], 0) := (lk_22 (Nat.le_of_ble_eq_true rfl)).trans rfl
theorem i_L_law_2205 : am_i m_L_law 2205 = some (2205, .goto 178, 3, [], 0) := (lk_22 (Nat.le_of_ble_eq_true rfl)).trans rfl
theorem b_L_law_2168 {a0 a1 a2 a3 a4 n_a3 : Nat} {x5 x6 xs0 x6' xs0' : Int} {v7 v8 : Value} {h : am_H} (w6 : wr x6 = x6') (ws0 : wr xs0 = xs0') (k1 : K10 h a2) (n2 : gn h a3 = n_a3) (s3 : sh h a3 = (2, 3)) (g4 : ((fZ h a2 0) = x6') → (¬ (¬ x6' = 0)) → ((0 : Int) ≤ 0 ∧ 0 < (n_a3 : Int))) : rn m_L_law 2168 [.ref a0, .ref a1, .ref a2, .ref a3, .ref a4, .int (mI x5), .int (mI x6), v7, v8] [.int (mI xs0)] h = if (fZ h a2 0) = x6' then if ¬ x6' = 0 then rn m_L_law 2383 [.ref a0, .ref a1, .ref a2, .ref a3, .ref a4, .int (mI x5), .int (mI x6), .int (mI xs0), v8] [] h else if (gJ h a3 0) = (if xs0' = 0 then 0 else 1) then rn m_L_law 2383 [.ref a0, .ref a1, .ref a2, .ref a3, .ref a4, .int (mI x5), .int (mI x6), .int (mI xs0), v8] [] h else some (.inl (some (.int (mI 0))), h) else some (.inl (some (.int (mI 0))), h) := by
  refine (tq_istore (L' := [.ref a0, .ref a1, .ref a2, .ref a3, .ref a4, .int (mI x5), .int (mI x6), .int (mI xs0), v8]) i_L_law_2168 rfl rfl).trans ?_
  refine (tq_aload_n i_L_law_2170 rfl (isA_ref _) rfl).trans ?_
  refine (c_X12_thrown i_L_law_2171 (K10_s k1) (ltd d_L_law (by decide)) stOk_0 rfl).trans ?_
  refine (congrArg (cl _ _ _ _) (b_X12_thrown_0 k1)).trans ?_
  refine (cl_v _ _ _ _ _ _).trans ?_
  refine (tq_iload i_L_law_2174 rfl rfl).trans ?_
  refine (tq_icmp_eq (pt := 2181) i_L_law_2176 (wr_fZ _ _ _) w6 (by decide) rfl).trans ?_
  refine ite_congr rfl (fun c1 => ?_) (fun c1 => ?_)
  · refine (tq_iload i_L_law_2181 rfl rfl).trans ?_
    refine (tq_if_ne (pt := 2205) i_L_law_2183 w6 (by decide) rfl).trans ?_
    refine ite_congr rfl (fun c2 => ?_) (fun c2 => ?_)
    · refine (tq_goto (pc' := 2383) i_L_law_2205 (by decide)).trans ?_
      rfl
    · refine (tq_aload_n i_L_law_2186 rfl (isA_ref _) rfl).trans ?_
      refine (tq_iconst i_L_law_2187 rfl).trans ?_
      refine (tq_laload i_L_law_2188 s3 w_0 (g4 c1 c2).1 (lt_gn n2 (g4 c1 c2).2) rfl).trans ?_
      refine (tq_iload i_L_law_2189 rfl rfl).trans ?_
      refine (tq_if_eq (pt := 2198) i_L_law_2191 ws0 (by decide) rfl).trans ?_
      refine Eq.trans (b := if xs0' = 0 then rn m_L_law 2199 [.ref a0, .ref a1, .ref a2, .ref a3, .ref a4, .int (mI x5), .int (mI x6), .int (mI xs0), v8] [.long (mL 0), .long (mL (gJ h a3 0))] h else rn m_L_law 2199 [.ref a0, .ref a1, .ref a2, .ref a3, .ref a4, .int (mI x5), .int (mI x6), .int (mI xs0), v8] [.long (mL 1), .long (mL (gJ h a3 0))] h) (ite_congr rfl (fun c3 => ?_) (fun c3 => ?_)) ?_
      · refine (tq_lconst i_L_law_2198 rfl).trans ?_
        rfl
      · refine (tq_lconst i_L_law_2194 rfl).trans ?_
        refine (tq_goto (pc' := 2199) i_L_law_2195 (by decide)).trans ?_
        rfl
      refine Eq.trans ite_J ?_
      refine (tq_lcmp_eq (pt := 2205) i_L_law_2199 i_L_law_2200 rfl (wl_gJ _ _ _) (wl_ite wl_0 wl_1) (by decide) rfl).trans ?_
      refine ite_congr rfl (fun c4 => ?_) (fun c4 => ?_)
      · refine (tq_goto (pc' := 2383) i_L_law_2205 (by decide)).trans ?_
        rfl
      · refine (tq_iconst i_L_law_2203 rfl).trans ?_
        exact tq_ireturn i_L_law_2204 r_L_law (okB w_0 (by decide))
  · refine (tq_iconst i_L_law_2179 rfl).trans ?_
    exact tq_ireturn i_L_law_2180 r_L_law (okB w_0 (by decide))
theorem i_L_law_2208 : am_i m_L_law 2208 = some (2208, .aload_n 1, 1, [], 0) := (lk_22 (Nat.le_of_ble_eq_true rfl)).trans rfl
theorem i_L_law_2209 : am_i m_L_law 2209 = some (2209, .aload_n 3, 1, [], 0) := (lk_22 (Nat.le_of_ble_eq_true rfl)).trans rfl
theorem i_L_law_2210 : am_i m_L_law 2210 = some (2210, .invokestatic 249, 3, [241], 0) := (lk_22 (Nat.le_of_ble_eq_true rfl)).trans rfl
theorem b_L_law_2208 {a0 a1 a2 a3 a4 : Nat} {x5 : Int} {v6 v7 v8 : Value} {h : am_H} : rn m_L_law 2208 [.ref a0, .ref a1, .ref a2, .ref a3, .ref a4, .int (mI x5), v6, v7, v8] [] h = cl m_L_law 2213 [.ref a0, .ref a1, .ref a2, .ref a3, .ref a4, .int (mI x5), v6, v7, v8] [] (rn m_L_drift 0 [.ref a1, .ref a3, am_J] [] h) := by
  refine (tq_aload_n i_L_law_2208 rfl (isA_ref _) rfl).trans ?_
  refine (tq_aload_n i_L_law_2209 rfl (isA_ref _) rfl).trans ?_
  exact c_L_drift i_L_law_2210 (ltd d_L_law (by decide)) (isA_ref _) (isA_ref _) stOk_0 rfl
theorem i_L_law_2213 : am_i m_L_law 2213 = some (2213, .istore 6, 2, [], 0) := (lk_22 (Nat.le_of_ble_eq_true rfl)).trans rfl
theorem i_L_law_2215 : am_i m_L_law 2215 = some (2215, .aload_n 2, 1, [], 0) := (lk_22 (Nat.le_of_ble_eq_true rfl)).trans rfl
theorem i_L_law_2216 : am_i m_L_law 2216 = some (2216, .invokevirtual 251, 3, [73, 10], 0) := (lk_22 (Nat.le_of_ble_eq_true rfl)).trans rfl
theorem b_L_law_2213 {a0 a1 a2 a3 a4 : Nat} {x5 xs0 : Int} {v6 v7 v8 : Value} {h : am_H} (k1 : K10 h a2) : rn m_L_law 2213 [.ref a0, .ref a1, .ref a2, .ref a3, .ref a4, .int (mI x5), v6, v7, v8] [.int (mI xs0)] h = cl m_L_law 2219 [.ref a0, .ref a1, .ref a2, .ref a3, .ref a4, .int (mI x5), .int (mI xs0), v7, v8] [] (rn m_X12_drift 0 [.ref a2, am_J, am_J] [] h) := by
  refine (tq_istore (L' := [.ref a0, .ref a1, .ref a2, .ref a3, .ref a4, .int (mI x5), .int (mI xs0), v7, v8]) i_L_law_2213 rfl rfl).trans ?_
  refine (tq_aload_n i_L_law_2215 rfl (isA_ref _) rfl).trans ?_
  exact c_X12_drift i_L_law_2216 (K10_s k1) (ltd d_L_law (by decide)) stOk_0 rfl
theorem i_L_law_2219 : am_i m_L_law 2219 = some (2219, .istore 7, 2, [], 0) := (lk_22 (Nat.le_of_ble_eq_true rfl)).trans rfl
theorem i_L_law_2221 : am_i m_L_law 2221 = some (2221, .aload_n 2, 1, [], 0) := (lk_22 (Nat.le_of_ble_eq_true rfl)).trans rfl
theorem i_L_law_2222 : am_i m_L_law 2222 = some (2222, .invokevirtual 139, 3, [39, 10], 0) := (lk_22 (Nat.le_of_ble_eq_true rfl)).trans rfl
theorem i_L_law_2225 : am_i m_L_law 2225 = some (2225, .iload 6, 2, [], 0) := (lk_22 (Nat.le_of_ble_eq_true rfl)).trans rfl
theorem i_L_law_2227 : am_i m_L_law 2227 = some (2227, .if_icmp .eq 5, 3, [], 0) := (lk_22 (Nat.le_of_ble_eq_true rfl)).trans rfl
theorem i_L_law_2230 : am_i m_L_law 2230 = some (2230, .iconst 0, 1, [], 0) := (lk_22 (Nat.le_of_ble_eq_true rfl)).trans rfl
theorem i_L_law_2231 : am_i m_L_law 2231 = some (2231, .ireturn, 1, [], 0) := (lk_22 (Nat.le_of_ble_eq_true rfl)).trans rfl
theorem i_L_law_2232 : am_i m_L_law 2232 = some (2232, .iload 6, 2, [], 0) := (lk_22 (Nat.le_of_ble_eq_true rfl)).trans rfl
theorem i_L_law_2234 : am_i m_L_law 2234 = some (2234, .ifCond .ne 15, 3, [], 0) := (lk_22 (Nat.le_of_ble_eq_true rfl)).trans rfl
theorem i_L_law_2237 : am_i m_L_law 2237 = some (2237, .aload_n 3, 1, [], 0) := (lk_22 (Nat.le_of_ble_eq_true rfl)).trans rfl
theorem i_L_law_2238 : am_i m_L_law 2238 = some (2238, .iconst 0, 1, [], 0) := (lk_22 (Nat.le_of_ble_eq_true rfl)).trans rfl
theorem i_L_law_2239 : am_i m_L_law 2239 = some (2239, .laload, 1, [], 0) := (lk_22 (Nat.le_of_ble_eq_true rfl)).trans rfl
theorem i_L_law_2240 : am_i m_L_law 2240 = some (2240, .iload 7, 2, [], 0) := (lk_22 (Nat.le_of_ble_eq_true rfl)).trans rfl
theorem i_L_law_2242 : am_i m_L_law 2242 = some (2242, .i2l, 1, [], 0) := (lk_22 (Nat.le_of_ble_eq_true rfl)).trans rfl
theorem i_L_law_2243 : am_i m_L_law 2243 = some (2243, .lcmp, 1, [], 0) := (lk_22 (Nat.le_of_ble_eq_true rfl)).trans rfl
theorem i_L_law_2244 : am_i m_L_law 2244 = some (2244, .ifCond .eq 5, 3, [], 0) := (lk_22 (Nat.le_of_ble_eq_true rfl)).trans rfl
theorem i_L_law_2247 : am_i m_L_law 2247 = some (2247, .iconst 0, 1, [], 0) := (lk_22 (Nat.le_of_ble_eq_true rfl)).trans rfl
theorem i_L_law_2248 : am_i m_L_law 2248 = some (2248, .ireturn, 1, [], 0) := (lk_22 (Nat.le_of_ble_eq_true rfl)).trans rfl
theorem i_L_law_2249 : am_i m_L_law 2249 = some (2249, .goto 134, 3, [], 0) := (lk_22 (Nat.le_of_ble_eq_true rfl)).trans rfl
theorem b_L_law_2219 {a0 a1 a2 a3 a4 n_a3 : Nat} {x5 x6 xs0 x6' xs0' : Int} {v7 v8 : Value} {h : am_H} (w6 : wr x6 = x6') (ws0 : wr xs0 = xs0') (k1 : K10 h a2) (n2 : gn h a3 = n_a3) (s3 : sh h a3 = (2, 3)) (g4 : ((fZ h a2 0) = x6') → (¬ (¬ x6' = 0)) → ((0 : Int) ≤ 0 ∧ 0 < (n_a3 : Int))) : rn m_L_law 2219 [.ref a0, .ref a1, .ref a2, .ref a3, .ref a4, .int (mI x5), .int (mI x6), v7, v8] [.int (mI xs0)] h = if (fZ h a2 0) = x6' then if ¬ x6' = 0 then rn m_L_law 2383 [.ref a0, .ref a1, .ref a2, .ref a3, .ref a4, .int (mI x5), .int (mI x6), .int (mI xs0), v8] [] h else if (gJ h a3 0) = xs0' then rn m_L_law 2383 [.ref a0, .ref a1, .ref a2, .ref a3, .ref a4, .int (mI x5), .int (mI x6), .int (mI xs0), v8] [] h else some (.inl (some (.int (mI 0))), h) else some (.inl (some (.int (mI 0))), h) := by
  refine (tq_istore (L' := [.ref a0, .ref a1, .ref a2, .ref a3, .ref a4, .int (mI x5), .int (mI x6), .int (mI xs0), v8]) i_L_law_2219 rfl rfl).trans ?_
  refine (tq_aload_n i_L_law_2221 rfl (isA_ref _) rfl).trans ?_
  refine (c_X12_thrown i_L_law_2222 (K10_s k1) (ltd d_L_law (by decide)) stOk_0 rfl).trans ?_
  refine (congrArg (cl _ _ _ _) (b_X12_thrown_0 k1)).trans ?_
  refine (cl_v _ _ _ _ _ _).trans ?_
  refine (tq_iload i_L_law_2225 rfl rfl).trans ?_
  refine (tq_icmp_eq (pt := 2232) i_L_law_2227 (wr_fZ _ _ _) w6 (by decide) rfl).trans ?_
  refine ite_congr rfl (fun c1 => ?_) (fun c1 => ?_)
  · refine (tq_iload i_L_law_2232 rfl rfl).trans ?_
    refine (tq_if_ne (pt := 2249) i_L_law_2234 w6 (by decide) rfl).trans ?_
    refine ite_congr rfl (fun c2 => ?_) (fun c2 => ?_)
    · refine (tq_goto (pc' := 2383) i_L_law_2249 (by decide)).trans ?_
      rfl
    · refine (tq_aload_n i_L_law_2237 rfl (isA_ref _) rfl).trans ?_
      refine (tq_iconst i_L_law_2238 rfl).trans ?_
      refine (tq_laload i_L_law_2239 s3 w_0 (g4 c1 c2).1 (lt_gn n2 (g4 c1 c2).2) rfl).trans ?_
      refine (tq_iload i_L_law_2240 rfl rfl).trans ?_
      refine (tq_i2l i_L_law_2242 ws0 rfl).trans ?_
      refine (tq_lcmp_eq (pt := 2249) i_L_law_2243 i_L_law_2244 rfl (wl_gJ _ _ _) (wl_of_wr ws0) (by decide) rfl).trans ?_
      refine ite_congr rfl (fun c3 => ?_) (fun c3 => ?_)
      · refine (tq_goto (pc' := 2383) i_L_law_2249 (by decide)).trans ?_
        rfl
      · refine (tq_iconst i_L_law_2247 rfl).trans ?_
        exact tq_ireturn i_L_law_2248 r_L_law (okB w_0 (by decide))
  · refine (tq_iconst i_L_law_2230 rfl).trans ?_
    exact tq_ireturn i_L_law_2231 r_L_law (okB w_0 (by decide))
theorem i_L_law_2252 : am_i m_L_law 2252 = some (2252, .aload_n 1, 1, [], 0) := (lk_22 (Nat.le_of_ble_eq_true rfl)).trans rfl
theorem i_L_law_2253 : am_i m_L_law 2253 = some (2253, .aload 4, 2, [], 0) := (lk_22 (Nat.le_of_ble_eq_true rfl)).trans rfl
theorem i_L_law_2255 : am_i m_L_law 2255 = some (2255, .invokestatic 252, 3, [246], 0) := (lk_22 (Nat.le_of_ble_eq_true rfl)).trans rfl
theorem b_L_law_2252 {a0 a1 a2 a3 a4 : Nat} {x5 : Int} {v6 v7 v8 : Value} {h : am_H} : rn m_L_law 2252 [.ref a0, .ref a1, .ref a2, .ref a3, .ref a4, .int (mI x5), v6, v7, v8] [] h = cl m_L_law 2258 [.ref a0, .ref a1, .ref a2, .ref a3, .ref a4, .int (mI x5), v6, v7, v8] [] (rn m_L_meanBits 0 [.ref a1, .ref a4, am_J] [] h) := by
  refine (tq_aload_n i_L_law_2252 rfl (isA_ref _) rfl).trans ?_
  refine (tq_aload i_L_law_2253 rfl (isA_ref _) rfl).trans ?_
  exact c_L_meanBits i_L_law_2255 (ltd d_L_law (by decide)) (isA_ref _) (isA_ref _) stOk_0 rfl
theorem i_L_law_2258 : am_i m_L_law 2258 = some (2258, .istore 6, 2, [], 0) := (lk_22 (Nat.le_of_ble_eq_true rfl)).trans rfl
theorem i_L_law_2260 : am_i m_L_law 2260 = some (2260, .aload_n 2, 1, [], 0) := (lk_22 (Nat.le_of_ble_eq_true rfl)).trans rfl
theorem i_L_law_2261 : am_i m_L_law 2261 = some (2261, .invokevirtual 255, 3, [30, 10], 0) := (lk_22 (Nat.le_of_ble_eq_true rfl)).trans rfl
theorem b_L_law_2258 {a0 a1 a2 a3 a4 : Nat} {x5 xs0 : Int} {v6 v7 v8 : Value} {h : am_H} (k1 : K10 h a2) : rn m_L_law 2258 [.ref a0, .ref a1, .ref a2, .ref a3, .ref a4, .int (mI x5), v6, v7, v8] [.int (mI xs0)] h = cl m_L_law 2264 [.ref a0, .ref a1, .ref a2, .ref a3, .ref a4, .int (mI x5), .int (mI xs0), v7, v8] [] (rn m_X12_meanBits 0 [.ref a2, am_J, am_J] [] h) := by
  refine (tq_istore (L' := [.ref a0, .ref a1, .ref a2, .ref a3, .ref a4, .int (mI x5), .int (mI xs0), v7, v8]) i_L_law_2258 rfl rfl).trans ?_
  refine (tq_aload_n i_L_law_2260 rfl (isA_ref _) rfl).trans ?_
  exact c_X12_meanBits i_L_law_2261 (K10_s k1) (ltd d_L_law (by decide)) stOk_0 rfl
theorem i_L_law_2264 : am_i m_L_law 2264 = some (2264, .dstore 7, 2, [], 0) := (lk_22 (Nat.le_of_ble_eq_true rfl)).trans rfl
theorem i_L_law_2266 : am_i m_L_law 2266 = some (2266, .aload_n 2, 1, [], 0) := (lk_22 (Nat.le_of_ble_eq_true rfl)).trans rfl
theorem i_L_law_2267 : am_i m_L_law 2267 = some (2267, .invokevirtual 139, 3, [39, 10], 0) := (lk_22 (Nat.le_of_ble_eq_true rfl)).trans rfl
theorem i_L_law_2270 : am_i m_L_law 2270 = some (2270, .iload 6, 2, [], 0) := (lk_22 (Nat.le_of_ble_eq_true rfl)).trans rfl
theorem i_L_law_2272 : am_i m_L_law 2272 = some (2272, .if_icmp .eq 5, 3, [], 0) := (lk_22 (Nat.le_of_ble_eq_true rfl)).trans rfl
theorem i_L_law_2275 : am_i m_L_law 2275 = some (2275, .iconst 0, 1, [], 0) := (lk_22 (Nat.le_of_ble_eq_true rfl)).trans rfl
theorem i_L_law_2276 : am_i m_L_law 2276 = some (2276, .ireturn, 1, [], 0) := (lk_22 (Nat.le_of_ble_eq_true rfl)).trans rfl
theorem i_L_law_2277 : am_i m_L_law 2277 = some (2277, .iload 6, 2, [], 0) := (lk_22 (Nat.le_of_ble_eq_true rfl)).trans rfl
theorem i_L_law_2279 : am_i m_L_law 2279 = some (2279, .ifCond .ne 35, 3, [], 0) := (lk_22 (Nat.le_of_ble_eq_true rfl)).trans rfl
theorem i_L_law_2282 : am_i m_L_law 2282 = some (2282, .aload 4, 2, [], 0) := (lk_22 (Nat.le_of_ble_eq_true rfl)).trans rfl
theorem i_L_law_2284 : am_i m_L_law 2284 = some (2284, .iconst 0, 1, [], 0) := (lk_22 (Nat.le_of_ble_eq_true rfl)).trans rfl
theorem i_L_law_2285 : am_i m_L_law 2285 = some (2285, .daload, 1, [], 0) := (lk_22 (Nat.le_of_ble_eq_true rfl)).trans rfl
theorem i_L_law_2286 : am_i m_L_law 2286 = some (2286, .dload 7, 2, [], 0) := (lk_22 (Nat.le_of_ble_eq_true rfl)).trans rfl
theorem i_L_law_2288 : am_i m_L_law 2288 = some (2288, .dcmp .l, 1, [], 0) := (lk_22 (Nat.le_of_ble_eq_true rfl)).trans rfl
theorem i_L_law_2289 : am_i m_L_law 2289 = some (2289, .ifCond .eq 25, 3, [], 0) := (lk_22 (Nat.le_of_ble_eq_true rfl)).trans rfl
theorem i_L_law_2292 : am_i m_L_law 2292 = some (2292, .aload 4, 2, [], 0) := (lk_22 (Nat.le_of_ble_eq_true rfl)).trans rfl
theorem i_L_law_2294 : am_i m_L_law 2294 = some (2294, .iconst 0, 1, [], 0) := (lk_22 (Nat.le_of_ble_eq_true rfl)).trans rfl
theorem i_L_law_2295 : am_i m_L_law 2295 = some (2295, .daload, 1, [], 0) := (lk_22 (Nat.le_of_ble_eq_true rfl)).trans rfl
theorem i_L_law_2296 : am_i m_L_law 2296 = some (2296, .aload 4, 2, [], 0) := (lk_23 (Nat.le_of_ble_eq_true rfl)).trans rfl
theorem i_L_law_2298 : am_i m_L_law 2298 = some (2298, .iconst 0, 1, [], 0) := (lk_23 (Nat.le_of_ble_eq_true rfl)).trans rfl
theorem i_L_law_2299 : am_i m_L_law 2299 = some (2299, .daload, 1, [], 0) := (lk_23 (Nat.le_of_ble_eq_true rfl)).trans rfl
theorem i_L_law_2300 : am_i m_L_law 2300 = some (2300, .dcmp .l, 1, [], 0) := (lk_23 (Nat.le_of_ble_eq_true rfl)).trans rfl
theorem i_L_law_2301 : am_i m_L_law 2301 = some (2301, .ifCond .eq 11, 3, [], 0) := (lk_23 (Nat.le_of_ble_eq_true rfl)).trans rfl
theorem i_L_law_2304 : am_i m_L_law 2304 = some (2304, .dload 7, 2, [], 0) := (lk_23 (Nat.le_of_ble_eq_true rfl)).trans rfl
theorem i_L_law_2306 : am_i m_L_law 2306 = some (2306, .dload 7, 2, [], 0) := (lk_23 (Nat.le_of_ble_eq_true rfl)).trans rfl
theorem i_L_law_2308 : am_i m_L_law 2308 = some (2308, .dcmp .l, 1, [], 0) := (lk_23 (Nat.le_of_ble_eq_true rfl)).trans rfl
theorem i_L_law_2309 : am_i m_L_law 2309 = some (2309, .ifCond .ne 5, 3, [], 0) := (lk_23 (Nat.le_of_ble_eq_true rfl)).trans rfl
theorem i_L_law_2312 : am_i m_L_law 2312 = some (2312, .iconst 0, 1, [], 0) := (lk_23 (Nat.le_of_ble_eq_true rfl)).trans rfl
theorem i_L_law_2313 : am_i m_L_law 2313 = some (2313, .ireturn, 1, [], 0) := (lk_23 (Nat.le_of_ble_eq_true rfl)).trans rfl
theorem i_L_law_2314 : am_i m_L_law 2314 = some (2314, .goto 69, 3, [], 0) := (lk_23 (Nat.le_of_ble_eq_true rfl)).trans rfl
theorem b_L_law_2264 {a0 a1 a2 a3 a4 n_a4 : Nat} {x5 x6 x6' : Int} {v7 v8 : Value} {ds0 : UInt64} {h : am_H} (w6 : wr x6 = x6') (k1 : K10 h a2) (n2 : gn h a4 = n_a4) (s3 : sh h a4 = (3, 4)) (g4 : ((fZ h a2 0) = x6') → (¬ (¬ x6' = 0)) → ((0 : Int) ≤ 0 ∧ 0 < (n_a4 : Int))) : rn m_L_law 2264 [.ref a0, .ref a1, .ref a2, .ref a3, .ref a4, .int (mI x5), .int (mI x6), v7, v8] [.double ds0] h = if (fZ h a2 0) = x6' then if ¬ x6' = 0 then rn m_L_law 2383 [.ref a0, .ref a1, .ref a2, .ref a3, .ref a4, .int (mI x5), .int (mI x6), .double ds0, am_J] [] h else if (wr ((Op.cmpValue (FP.dcmp (gDD h a4 0) ds0) .l).toInt)) = 0 then rn m_L_law 2383 [.ref a0, .ref a1, .ref a2, .ref a3, .ref a4, .int (mI x5), .int (mI x6), .double ds0, am_J] [] h else if (wr ((Op.cmpValue (FP.dcmp (gDD h a4 0) (gDD h a4 0)) .l).toInt)) = 0 then some (.inl (some (.int (mI 0))), h) else if ¬ (wr ((Op.cmpValue (FP.dcmp ds0 ds0) .l).toInt)) = 0 then rn m_L_law 2383 [.ref a0, .ref a1, .ref a2, .ref a3, .ref a4, .int (mI x5), .int (mI x6), .double ds0, am_J] [] h else some (.inl (some (.int (mI 0))), h) else some (.inl (some (.int (mI 0))), h) := by
  refine (tq_dstore (L' := [.ref a0, .ref a1, .ref a2, .ref a3, .ref a4, .int (mI x5), .int (mI x6), .double ds0, am_J]) i_L_law_2264 rfl rfl).trans ?_
  refine (tq_aload_n i_L_law_2266 rfl (isA_ref _) rfl).trans ?_
  refine (c_X12_thrown i_L_law_2267 (K10_s k1) (ltd d_L_law (by decide)) stOk_0 rfl).trans ?_
  refine (congrArg (cl _ _ _ _) (b_X12_thrown_0 k1)).trans ?_
  refine (cl_v _ _ _ _ _ _).trans ?_
  refine (tq_iload i_L_law_2270 rfl rfl).trans ?_
  refine (tq_icmp_eq (pt := 2277) i_L_law_2272 (wr_fZ _ _ _) w6 (by decide) rfl).trans ?_
  refine ite_congr rfl (fun c1 => ?_) (fun c1 => ?_)
  · refine (tq_iload i_L_law_2277 rfl rfl).trans ?_
    refine (tq_if_ne (pt := 2314) i_L_law_2279 w6 (by decide) rfl).trans ?_
    refine ite_congr rfl (fun c2 => ?_) (fun c2 => ?_)
    · refine (tq_goto (pc' := 2383) i_L_law_2314 (by decide)).trans ?_
      rfl
    · refine (tq_aload i_L_law_2282 rfl (isA_ref _) rfl).trans ?_
      refine (tq_iconst i_L_law_2284 rfl).trans ?_
      refine (tq_daload i_L_law_2285 s3 w_0 (g4 c1 c2).1 (lt_gn n2 (g4 c1 c2).2) rfl).trans ?_
      refine (tq_dload i_L_law_2286 rfl rfl).trans ?_
      refine (tq_dcmp2 i_L_law_2288 rfl).trans ?_
      refine (tq_if_eq (pt := 2314) i_L_law_2289 rfl (by decide) rfl).trans ?_
      refine ite_congr rfl (fun c3 => ?_) (fun c3 => ?_)
      · refine (tq_goto (pc' := 2383) i_L_law_2314 (by decide)).trans ?_
        rfl
      · refine (tq_aload i_L_law_2292 rfl (isA_ref _) rfl).trans ?_
        refine (tq_iconst i_L_law_2294 rfl).trans ?_
        refine (tq_daload i_L_law_2295 s3 w_0 (g4 c1 c2).1 (lt_gn n2 (g4 c1 c2).2) rfl).trans ?_
        refine (tq_aload i_L_law_2296 rfl (isA_ref _) rfl).trans ?_
        refine (tq_iconst i_L_law_2298 rfl).trans ?_
        refine (tq_daload i_L_law_2299 s3 w_0 (g4 c1 c2).1 (lt_gn n2 (g4 c1 c2).2) rfl).trans ?_
        refine (tq_dcmp2 i_L_law_2300 rfl).trans ?_
        refine (tq_if_eq (pt := 2312) i_L_law_2301 rfl (by decide) rfl).trans ?_
        refine ite_congr rfl (fun c4 => ?_) (fun c4 => ?_)
        · refine (tq_iconst i_L_law_2312 rfl).trans ?_
          exact tq_ireturn i_L_law_2313 r_L_law (okB w_0 (by decide))
        · refine (tq_dload i_L_law_2304 rfl rfl).trans ?_
          refine (tq_dload i_L_law_2306 rfl rfl).trans ?_
          refine (tq_dcmp2 i_L_law_2308 rfl).trans ?_
          refine (tq_if_ne (pt := 2314) i_L_law_2309 rfl (by decide) rfl).trans ?_
          refine ite_congr rfl (fun c5 => ?_) (fun c5 => ?_)
          · refine (tq_goto (pc' := 2383) i_L_law_2314 (by decide)).trans ?_
            rfl
          · refine (tq_iconst i_L_law_2312 rfl).trans ?_
            exact tq_ireturn i_L_law_2313 r_L_law (okB w_0 (by decide))
  · refine (tq_iconst i_L_law_2275 rfl).trans ?_
    exact tq_ireturn i_L_law_2276 r_L_law (okB w_0 (by decide))
theorem i_L_law_2317 : am_i m_L_law 2317 = some (2317, .aload_n 1, 1, [], 0) := (lk_23 (Nat.le_of_ble_eq_true rfl)).trans rfl
theorem i_L_law_2318 : am_i m_L_law 2318 = some (2318, .aload 4, 2, [], 0) := (lk_23 (Nat.le_of_ble_eq_true rfl)).trans rfl
theorem i_L_law_2320 : am_i m_L_law 2320 = some (2320, .invokestatic 256, 3, [206], 0) := (lk_23 (Nat.le_of_ble_eq_true rfl)).trans rfl
theorem b_L_law_2317 {a0 a1 a2 a3 a4 : Nat} {x5 : Int} {v6 v7 v8 : Value} {h : am_H} : rn m_L_law 2317 [.ref a0, .ref a1, .ref a2, .ref a3, .ref a4, .int (mI x5), v6, v7, v8] [] h = cl m_L_law 2323 [.ref a0, .ref a1, .ref a2, .ref a3, .ref a4, .int (mI x5), v6, v7, v8] [] (rn m_L_cleanShare 0 [.ref a1, .ref a4, am_J] [] h) := by
  refine (tq_aload_n i_L_law_2317 rfl (isA_ref _) rfl).trans ?_
  refine (tq_aload i_L_law_2318 rfl (isA_ref _) rfl).trans ?_
  exact c_L_cleanShare i_L_law_2320 (ltd d_L_law (by decide)) (isA_ref _) (isA_ref _) stOk_0 rfl
theorem i_L_law_2323 : am_i m_L_law 2323 = some (2323, .istore 6, 2, [], 0) := (lk_23 (Nat.le_of_ble_eq_true rfl)).trans rfl
theorem i_L_law_2325 : am_i m_L_law 2325 = some (2325, .aload_n 2, 1, [], 0) := (lk_23 (Nat.le_of_ble_eq_true rfl)).trans rfl
theorem i_L_law_2326 : am_i m_L_law 2326 = some (2326, .invokevirtual 258, 3, [22, 10], 0) := (lk_23 (Nat.le_of_ble_eq_true rfl)).trans rfl
theorem b_L_law_2323 {a0 a1 a2 a3 a4 : Nat} {x5 xs0 : Int} {v6 v7 v8 : Value} {h : am_H} (k1 : K10 h a2) : rn m_L_law 2323 [.ref a0, .ref a1, .ref a2, .ref a3, .ref a4, .int (mI x5), v6, v7, v8] [.int (mI xs0)] h = cl m_L_law 2329 [.ref a0, .ref a1, .ref a2, .ref a3, .ref a4, .int (mI x5), .int (mI xs0), v7, v8] [] (rn m_X12_cleanShare 0 [.ref a2] [] h) := by
  refine (tq_istore (L' := [.ref a0, .ref a1, .ref a2, .ref a3, .ref a4, .int (mI x5), .int (mI xs0), v7, v8]) i_L_law_2323 rfl rfl).trans ?_
  refine (tq_aload_n i_L_law_2325 rfl (isA_ref _) rfl).trans ?_
  exact c_X12_cleanShare i_L_law_2326 (K10_s k1) (ltd d_L_law (by decide)) stOk_0 rfl
theorem i_L_law_2329 : am_i m_L_law 2329 = some (2329, .fstore 7, 2, [], 0) := (lk_23 (Nat.le_of_ble_eq_true rfl)).trans rfl
theorem i_L_law_2331 : am_i m_L_law 2331 = some (2331, .aload_n 2, 1, [], 0) := (lk_23 (Nat.le_of_ble_eq_true rfl)).trans rfl
theorem i_L_law_2332 : am_i m_L_law 2332 = some (2332, .invokevirtual 139, 3, [39, 10], 0) := (lk_23 (Nat.le_of_ble_eq_true rfl)).trans rfl
theorem i_L_law_2335 : am_i m_L_law 2335 = some (2335, .iload 6, 2, [], 0) := (lk_23 (Nat.le_of_ble_eq_true rfl)).trans rfl
theorem i_L_law_2337 : am_i m_L_law 2337 = some (2337, .if_icmp .eq 5, 3, [], 0) := (lk_23 (Nat.le_of_ble_eq_true rfl)).trans rfl
theorem i_L_law_2340 : am_i m_L_law 2340 = some (2340, .iconst 0, 1, [], 0) := (lk_23 (Nat.le_of_ble_eq_true rfl)).trans rfl
theorem i_L_law_2341 : am_i m_L_law 2341 = some (2341, .ireturn, 1, [], 0) := (lk_23 (Nat.le_of_ble_eq_true rfl)).trans rfl
theorem i_L_law_2342 : am_i m_L_law 2342 = some (2342, .iload 6, 2, [], 0) := (lk_23 (Nat.le_of_ble_eq_true rfl)).trans rfl
theorem i_L_law_2344 : am_i m_L_law 2344 = some (2344, .ifCond .ne 36, 3, [], 0) := (lk_23 (Nat.le_of_ble_eq_true rfl)).trans rfl
theorem i_L_law_2347 : am_i m_L_law 2347 = some (2347, .aload 4, 2, [], 0) := (lk_23 (Nat.le_of_ble_eq_true rfl)).trans rfl
theorem i_L_law_2349 : am_i m_L_law 2349 = some (2349, .iconst 0, 1, [], 0) := (lk_23 (Nat.le_of_ble_eq_true rfl)).trans rfl
theorem i_L_law_2350 : am_i m_L_law 2350 = some (2350, .daload, 1, [], 0) := (lk_23 (Nat.le_of_ble_eq_true rfl)).trans rfl
theorem i_L_law_2351 : am_i m_L_law 2351 = some (2351, .fload 7, 2, [], 0) := (lk_23 (Nat.le_of_ble_eq_true rfl)).trans rfl
theorem i_L_law_2353 : am_i m_L_law 2353 = some (2353, .f2d, 1, [], 0) := (lk_23 (Nat.le_of_ble_eq_true rfl)).trans rfl
theorem i_L_law_2354 : am_i m_L_law 2354 = some (2354, .dcmp .l, 1, [], 0) := (lk_23 (Nat.le_of_ble_eq_true rfl)).trans rfl
theorem i_L_law_2355 : am_i m_L_law 2355 = some (2355, .ifCond .eq 25, 3, [], 0) := (lk_23 (Nat.le_of_ble_eq_true rfl)).trans rfl
theorem i_L_law_2358 : am_i m_L_law 2358 = some (2358, .aload 4, 2, [], 0) := (lk_23 (Nat.le_of_ble_eq_true rfl)).trans rfl
theorem i_L_law_2360 : am_i m_L_law 2360 = some (2360, .iconst 0, 1, [], 0) := (lk_23 (Nat.le_of_ble_eq_true rfl)).trans rfl
theorem i_L_law_2361 : am_i m_L_law 2361 = some (2361, .daload, 1, [], 0) := (lk_23 (Nat.le_of_ble_eq_true rfl)).trans rfl
theorem i_L_law_2362 : am_i m_L_law 2362 = some (2362, .aload 4, 2, [], 0) := (lk_23 (Nat.le_of_ble_eq_true rfl)).trans rfl
theorem i_L_law_2364 : am_i m_L_law 2364 = some (2364, .iconst 0, 1, [], 0) := (lk_23 (Nat.le_of_ble_eq_true rfl)).trans rfl
theorem i_L_law_2365 : am_i m_L_law 2365 = some (2365, .daload, 1, [], 0) := (lk_23 (Nat.le_of_ble_eq_true rfl)).trans rfl
theorem i_L_law_2366 : am_i m_L_law 2366 = some (2366, .dcmp .l, 1, [], 0) := (lk_23 (Nat.le_of_ble_eq_true rfl)).trans rfl
theorem i_L_law_2367 : am_i m_L_law 2367 = some (2367, .ifCond .eq 11, 3, [], 0) := (lk_23 (Nat.le_of_ble_eq_true rfl)).trans rfl
theorem i_L_law_2370 : am_i m_L_law 2370 = some (2370, .fload 7, 2, [], 0) := (lk_23 (Nat.le_of_ble_eq_true rfl)).trans rfl
theorem i_L_law_2372 : am_i m_L_law 2372 = some (2372, .fload 7, 2, [], 0) := (lk_23 (Nat.le_of_ble_eq_true rfl)).trans rfl
theorem i_L_law_2374 : am_i m_L_law 2374 = some (2374, .fcmp .l, 1, [], 0) := (lk_23 (Nat.le_of_ble_eq_true rfl)).trans rfl
theorem i_L_law_2375 : am_i m_L_law 2375 = some (2375, .ifCond .ne 5, 3, [], 0) := (lk_23 (Nat.le_of_ble_eq_true rfl)).trans rfl
theorem i_L_law_2378 : am_i m_L_law 2378 = some (2378, .iconst 0, 1, [], 0) := (lk_23 (Nat.le_of_ble_eq_true rfl)).trans rfl
theorem i_L_law_2379 : am_i m_L_law 2379 = some (2379, .ireturn, 1, [], 0) := (lk_23 (Nat.le_of_ble_eq_true rfl)).trans rfl
theorem i_L_law_2380 : am_i m_L_law 2380 = some (2380, .goto 3, 3, [], 0) := (lk_23 (Nat.le_of_ble_eq_true rfl)).trans rfl
theorem b_L_law_2329 {a0 a1 a2 a3 a4 n_a4 : Nat} {x5 x6 x6' : Int} {v7 v8 : Value} {fs0 : UInt32} {h : am_H} (w6 : wr x6 = x6') (k1 : K10 h a2) (n2 : gn h a4 = n_a4) (s3 : sh h a4 = (3, 4)) (g4 : ((fZ h a2 0) = x6') → (¬ (¬ x6' = 0)) → ((0 : Int) ≤ 0 ∧ 0 < (n_a4 : Int))) (g5 : ((fZ h a2 0) = x6') → (¬ (¬ x6' = 0)) → (decide (FP.f2d fs0 &&& 0x7fffffffffffffff ≤ 0x7ff0000000000000) = true)) : rn m_L_law 2329 [.ref a0, .ref a1, .ref a2, .ref a3, .ref a4, .int (mI x5), .int (mI x6), v7, v8] [.float fs0] h = if (fZ h a2 0) = x6' then if ¬ x6' = 0 then rn m_L_law 2383 [.ref a0, .ref a1, .ref a2, .ref a3, .ref a4, .int (mI x5), .int (mI x6), .float fs0, v8] [] h else if (wr ((Op.cmpValue (FP.dcmp (gDD h a4 0) (FP.f2d fs0)) .l).toInt)) = 0 then rn m_L_law 2383 [.ref a0, .ref a1, .ref a2, .ref a3, .ref a4, .int (mI x5), .int (mI x6), .float fs0, v8] [] h else if (wr ((Op.cmpValue (FP.dcmp (gDD h a4 0) (gDD h a4 0)) .l).toInt)) = 0 then some (.inl (some (.int (mI 0))), h) else if ¬ (wr ((Op.cmpValue (FP.fcmp fs0 fs0) .l).toInt)) = 0 then rn m_L_law 2383 [.ref a0, .ref a1, .ref a2, .ref a3, .ref a4, .int (mI x5), .int (mI x6), .float fs0, v8] [] h else some (.inl (some (.int (mI 0))), h) else some (.inl (some (.int (mI 0))), h) := by
  refine (tq_fstore (L' := [.ref a0, .ref a1, .ref a2, .ref a3, .ref a4, .int (mI x5), .int (mI x6), .float fs0, v8]) i_L_law_2329 rfl rfl).trans ?_
  refine (tq_aload_n i_L_law_2331 rfl (isA_ref _) rfl).trans ?_
  refine (c_X12_thrown i_L_law_2332 (K10_s k1) (ltd d_L_law (by decide)) stOk_0 rfl).trans ?_
  refine (congrArg (cl _ _ _ _) (b_X12_thrown_0 k1)).trans ?_
  refine (cl_v _ _ _ _ _ _).trans ?_
  refine (tq_iload i_L_law_2335 rfl rfl).trans ?_
  refine (tq_icmp_eq (pt := 2342) i_L_law_2337 (wr_fZ _ _ _) w6 (by decide) rfl).trans ?_
  refine ite_congr rfl (fun c1 => ?_) (fun c1 => ?_)
  · refine (tq_iload i_L_law_2342 rfl rfl).trans ?_
    refine (tq_if_ne (pt := 2380) i_L_law_2344 w6 (by decide) rfl).trans ?_
    refine ite_congr rfl (fun c2 => ?_) (fun c2 => ?_)
    · refine (tq_goto (pc' := 2383) i_L_law_2380 (by decide)).trans ?_
      rfl
    · refine (tq_aload i_L_law_2347 rfl (isA_ref _) rfl).trans ?_
      refine (tq_iconst i_L_law_2349 rfl).trans ?_
      refine (tq_daload i_L_law_2350 s3 w_0 (g4 c1 c2).1 (lt_gn n2 (g4 c1 c2).2) rfl).trans ?_
      refine (tq_fload i_L_law_2351 rfl rfl).trans ?_
      refine (tq_f2d i_L_law_2353 (g5 c1 c2) rfl).trans ?_
      refine (tq_dcmp2 i_L_law_2354 rfl).trans ?_
      refine (tq_if_eq (pt := 2380) i_L_law_2355 rfl (by decide) rfl).trans ?_
      refine ite_congr rfl (fun c3 => ?_) (fun c3 => ?_)
      · refine (tq_goto (pc' := 2383) i_L_law_2380 (by decide)).trans ?_
        rfl
      · refine (tq_aload i_L_law_2358 rfl (isA_ref _) rfl).trans ?_
        refine (tq_iconst i_L_law_2360 rfl).trans ?_
        refine (tq_daload i_L_law_2361 s3 w_0 (g4 c1 c2).1 (lt_gn n2 (g4 c1 c2).2) rfl).trans ?_
        refine (tq_aload i_L_law_2362 rfl (isA_ref _) rfl).trans ?_
        refine (tq_iconst i_L_law_2364 rfl).trans ?_
        refine (tq_daload i_L_law_2365 s3 w_0 (g4 c1 c2).1 (lt_gn n2 (g4 c1 c2).2) rfl).trans ?_
        refine (tq_dcmp2 i_L_law_2366 rfl).trans ?_
        refine (tq_if_eq (pt := 2378) i_L_law_2367 rfl (by decide) rfl).trans ?_
        refine ite_congr rfl (fun c4 => ?_) (fun c4 => ?_)
        · refine (tq_iconst i_L_law_2378 rfl).trans ?_
          exact tq_ireturn i_L_law_2379 r_L_law (okB w_0 (by decide))
        · refine (tq_fload i_L_law_2370 rfl rfl).trans ?_
          refine (tq_fload i_L_law_2372 rfl rfl).trans ?_
          refine (tq_fcmp2 i_L_law_2374 rfl).trans ?_
          refine (tq_if_ne (pt := 2380) i_L_law_2375 rfl (by decide) rfl).trans ?_
          refine ite_congr rfl (fun c5 => ?_) (fun c5 => ?_)
          · refine (tq_goto (pc' := 2383) i_L_law_2380 (by decide)).trans ?_
            rfl
          · refine (tq_iconst i_L_law_2378 rfl).trans ?_
            exact tq_ireturn i_L_law_2379 r_L_law (okB w_0 (by decide))
  · refine (tq_iconst i_L_law_2340 rfl).trans ?_
    exact tq_ireturn i_L_law_2341 r_L_law (okB w_0 (by decide))
theorem i_L_law_2383 : am_i m_L_law 2383 = some (2383, .iinc 5 6, 3, [], 0) := (lk_23 (Nat.le_of_ble_eq_true rfl)).trans rfl
theorem i_L_law_2386 : am_i m_L_law 2386 = some (2386, .goto (-2358), 3, [], 0) := (lk_23 (Nat.le_of_ble_eq_true rfl)).trans rfl
theorem b_L_law_2383 {a0 a1 a2 a3 a4 : Nat} {x5 : Int} {v6 v7 v8 : Value} {h : am_H} : rn m_L_law 2383 [.ref a0, .ref a1, .ref a2, .ref a3, .ref a4, .int (mI x5), v6, v7, v8] [] h = rn m_L_law 28 [.ref a0, .ref a1, .ref a2, .ref a3, .ref a4, .int (mI (x5 + 6)), v6, v7, v8] [] h := by
  refine (tq_iinc (L' := [.ref a0, .ref a1, .ref a2, .ref a3, .ref a4, .int (mI (x5 + 6)), v6, v7, v8]) i_L_law_2383 rfl rfl rfl).trans ?_
  refine (tq_goto (pc' := 28) i_L_law_2386 (by decide)).trans ?_
  rfl
