/-! ===== the model's mode ===== -/
theorem i_X12_modeFor_0 : am_i m_X12_modeFor 0 = some (0, .aload_n 0, 1, [], 0) := rfl
theorem i_X12_modeFor_1 : am_i m_X12_modeFor 1 = some (1, .getfield 189, 3, [10, 33, 0], 0) := rfl
theorem i_X12_modeFor_4 : am_i m_X12_modeFor 4 = some (4, .bipush 105, 2, [], 105) := rfl
theorem i_X12_modeFor_6 : am_i m_X12_modeFor 6 = some (6, .if_icmp .ne 7, 3, [], 0) := rfl
theorem i_X12_modeFor_9 : am_i m_X12_modeFor 9 = some (9, .iconst 3, 1, [], 3) := rfl
theorem i_X12_modeFor_10 : am_i m_X12_modeFor 10 = some (10, .goto 18, 3, [], 0) := rfl
theorem i_X12_modeFor_13 : am_i m_X12_modeFor 13 = some (13, .aload_n 0, 1, [], 0) := rfl
theorem i_X12_modeFor_14 : am_i m_X12_modeFor 14 = some (14, .getfield 189, 3, [10, 33, 0], 0) := rfl
theorem i_X12_modeFor_17 : am_i m_X12_modeFor 17 = some (17, .bipush 112, 2, [], 112) := rfl
theorem i_X12_modeFor_19 : am_i m_X12_modeFor 19 = some (19, .if_icmp .ne 7, 3, [], 0) := rfl
theorem i_X12_modeFor_22 : am_i m_X12_modeFor 22 = some (22, .iconst 4, 1, [], 4) := rfl
theorem i_X12_modeFor_23 : am_i m_X12_modeFor 23 = some (23, .goto 5, 3, [], 0) := rfl
theorem i_X12_modeFor_26 : am_i m_X12_modeFor 26 = some (26, .bipush 6, 2, [], 6) := rfl
theorem i_X12_modeFor_28 : am_i m_X12_modeFor 28 = some (28, .istore 4, 2, [], 0) := rfl
theorem i_X12_modeFor_30 : am_i m_X12_modeFor 30 = some (30, .iload 4, 2, [], 0) := rfl
theorem i_X12_modeFor_32 : am_i m_X12_modeFor 32 = some (32, .iconst 3, 1, [], 3) := rfl
theorem i_X12_modeFor_33 : am_i m_X12_modeFor 33 = some (33, .if_icmp .le 11, 3, [], 0) := rfl
theorem i_X12_modeFor_36 : am_i m_X12_modeFor 36 = some (36, .aload_n 0, 1, [], 0) := rfl
theorem i_X12_modeFor_37 : am_i m_X12_modeFor 37 = some (37, .iload_n 1, 1, [], 0) := rfl
theorem i_X12_modeFor_38 : am_i m_X12_modeFor 38 = some (38, .iload_n 2, 1, [], 0) := rfl
theorem i_X12_modeFor_39 : am_i m_X12_modeFor 39 = some (39, .iload_n 3, 1, [], 0) := rfl
theorem i_X12_modeFor_40 : am_i m_X12_modeFor 40 = some (40, .iconst 0, 1, [], 0) := rfl
theorem i_X12_modeFor_41 : am_i m_X12_modeFor 41 = some (41, .invokevirtual 193, 3, [186, 10], 0) := rfl
theorem b_X12_modeFor_0 {a0 : Nat} {x1 x2 x3 : Int} {h : am_H} (k1 : K10 h a0) : rn m_X12_modeFor 0 [.ref a0, .int (mI x1), .int (mI x2), .int (mI x3), am_J, am_J, am_J, am_J, am_J] [] h = if (if ¬ (fZ h a0 33) = 105 then ((if ¬ (fZ h a0 33) = 112 then (6 : Int) else 4) : Int) else 3) ≤ 3 then rn m_X12_modeFor 44 [.ref a0, .int (mI x1), .int (mI x2), .int (mI x3), .int (mI (if ¬ (fZ h a0 33) = 105 then ((if ¬ (fZ h a0 33) = 112 then (6 : Int) else 4) : Int) else 3)), am_J, am_J, am_J, am_J] [] h else cl m_X12_modeFor 44 [.ref a0, .int (mI x1), .int (mI x2), .int (mI x3), .int (mI (if ¬ (fZ h a0 33) = 105 then ((if ¬ (fZ h a0 33) = 112 then (6 : Int) else 4) : Int) else 3)), am_J, am_J, am_J, am_J] [] (rn m_X12_findsVector 0 [.ref a0, .int (mI x1), .int (mI x2), .int (mI x3), .int (mI 0), am_J, am_J, am_J, am_J, am_J, am_J, am_J] [] h) := by
  refine (tq_aload_n i_X12_modeFor_0 rfl (isA_ref _) rfl).trans ?_
  refine (tq_getfield i_X12_modeFor_1 (K10_s k1) (g_10_33 (K10_s k1)) (isV_I _) rfl).trans ?_
  refine (tq_bipush i_X12_modeFor_4 rfl).trans ?_
  refine (tq_icmp_ne (pt := 13) i_X12_modeFor_6 (wr_fZ _ _ _) w_105 (by decide) rfl).trans ?_
  refine Eq.trans (b := if ¬ (fZ h a0 33) = 105 then rn m_X12_modeFor 28 [.ref a0, .int (mI x1), .int (mI x2), .int (mI x3), am_J, am_J, am_J, am_J, am_J] [.int (mI (if ¬ (fZ h a0 33) = 112 then (6 : Int) else 4))] h else rn m_X12_modeFor 28 [.ref a0, .int (mI x1), .int (mI x2), .int (mI x3), am_J, am_J, am_J, am_J, am_J] [.int (mI 3)] h) (ite_congr rfl (fun c1 => ?_) (fun c1 => ?_)) ?_
  · refine (tq_aload_n i_X12_modeFor_13 rfl (isA_ref _) rfl).trans ?_
    refine (tq_getfield i_X12_modeFor_14 (K10_s k1) (g_10_33 (K10_s k1)) (isV_I _) rfl).trans ?_
    refine (tq_bipush i_X12_modeFor_17 rfl).trans ?_
    refine (tq_icmp_ne (pt := 26) i_X12_modeFor_19 (wr_fZ _ _ _) w_112 (by decide) rfl).trans ?_
    refine Eq.trans (b := if ¬ (fZ h a0 33) = 112 then rn m_X12_modeFor 28 [.ref a0, .int (mI x1), .int (mI x2), .int (mI x3), am_J, am_J, am_J, am_J, am_J] [.int (mI 6)] h else rn m_X12_modeFor 28 [.ref a0, .int (mI x1), .int (mI x2), .int (mI x3), am_J, am_J, am_J, am_J, am_J] [.int (mI 4)] h) (ite_congr rfl (fun c2 => ?_) (fun c2 => ?_)) ?_
    · refine (tq_bipush i_X12_modeFor_26 rfl).trans ?_
      rfl
    · refine (tq_iconst i_X12_modeFor_22 rfl).trans ?_
      refine (tq_goto (pc' := 28) i_X12_modeFor_23 (by decide)).trans ?_
      rfl
    exact ite_I
  · refine (tq_iconst i_X12_modeFor_9 rfl).trans ?_
    refine (tq_goto (pc' := 28) i_X12_modeFor_10 (by decide)).trans ?_
    rfl
  refine Eq.trans ite_I ?_
  refine (tq_istore (L' := [.ref a0, .int (mI x1), .int (mI x2), .int (mI x3), .int (mI (if ¬ (fZ h a0 33) = 105 then ((if ¬ (fZ h a0 33) = 112 then (6 : Int) else 4) : Int) else 3)), am_J, am_J, am_J, am_J]) i_X12_modeFor_28 rfl rfl).trans ?_
  refine (tq_iload i_X12_modeFor_30 rfl rfl).trans ?_
  refine (tq_iconst i_X12_modeFor_32 rfl).trans ?_
  refine (tq_icmp_le (pt := 44) i_X12_modeFor_33 (wr_ite (wr_ite w_6 w_4) w_3) w_3 (by decide) rfl).trans ?_
  refine ite_congr rfl (fun c3 => ?_) (fun c3 => ?_)
  · rfl
  · refine (tq_aload_n i_X12_modeFor_36 rfl (isA_ref _) rfl).trans ?_
    refine (tq_iload_n i_X12_modeFor_37 rfl rfl).trans ?_
    refine (tq_iload_n i_X12_modeFor_38 rfl rfl).trans ?_
    refine (tq_iload_n i_X12_modeFor_39 rfl rfl).trans ?_
    refine (tq_iconst i_X12_modeFor_40 rfl).trans ?_
    exact c_X12_findsVector i_X12_modeFor_41 (K10_s k1) (ltd d_X12_modeFor (by decide)) stOk_0 rfl
theorem i_X12_modeFor_44 : am_i m_X12_modeFor 44 = some (44, .iload 4, 2, [], 0) := rfl
theorem i_X12_modeFor_46 : am_i m_X12_modeFor 46 = some (46, .iconst 4, 1, [], 4) := rfl
theorem i_X12_modeFor_47 : am_i m_X12_modeFor 47 = some (47, .if_icmp .le 11, 3, [], 0) := rfl
theorem i_X12_modeFor_50 : am_i m_X12_modeFor 50 = some (50, .aload_n 0, 1, [], 0) := rfl
theorem i_X12_modeFor_51 : am_i m_X12_modeFor 51 = some (51, .iload_n 1, 1, [], 0) := rfl
theorem i_X12_modeFor_52 : am_i m_X12_modeFor 52 = some (52, .iload_n 2, 1, [], 0) := rfl
theorem i_X12_modeFor_53 : am_i m_X12_modeFor 53 = some (53, .iload_n 3, 1, [], 0) := rfl
theorem i_X12_modeFor_54 : am_i m_X12_modeFor 54 = some (54, .iconst 2, 1, [], 2) := rfl
theorem i_X12_modeFor_55 : am_i m_X12_modeFor 55 = some (55, .invokevirtual 193, 3, [186, 10], 0) := rfl
theorem b_X12_modeFor_44 {a0 : Nat} {x1 x2 x3 x4 x4' : Int} {v5 v6 v7 v8 : Value} {h : am_H} (w4 : wr x4 = x4') (k1 : K10 h a0) : rn m_X12_modeFor 44 [.ref a0, .int (mI x1), .int (mI x2), .int (mI x3), .int (mI x4), v5, v6, v7, v8] [] h = if x4' ≤ 4 then rn m_X12_modeFor 58 [.ref a0, .int (mI x1), .int (mI x2), .int (mI x3), .int (mI x4), v5, v6, v7, v8] [] h else cl m_X12_modeFor 58 [.ref a0, .int (mI x1), .int (mI x2), .int (mI x3), .int (mI x4), v5, v6, v7, v8] [] (rn m_X12_findsVector 0 [.ref a0, .int (mI x1), .int (mI x2), .int (mI x3), .int (mI 2), am_J, am_J, am_J, am_J, am_J, am_J, am_J] [] h) := by
  refine (tq_iload i_X12_modeFor_44 rfl rfl).trans ?_
  refine (tq_iconst i_X12_modeFor_46 rfl).trans ?_
  refine (tq_icmp_le (pt := 58) i_X12_modeFor_47 w4 w_4 (by decide) rfl).trans ?_
  refine ite_congr rfl (fun c1 => ?_) (fun c1 => ?_)
  · rfl
  · refine (tq_aload_n i_X12_modeFor_50 rfl (isA_ref _) rfl).trans ?_
    refine (tq_iload_n i_X12_modeFor_51 rfl rfl).trans ?_
    refine (tq_iload_n i_X12_modeFor_52 rfl rfl).trans ?_
    refine (tq_iload_n i_X12_modeFor_53 rfl rfl).trans ?_
    refine (tq_iconst i_X12_modeFor_54 rfl).trans ?_
    exact c_X12_findsVector i_X12_modeFor_55 (K10_s k1) (ltd d_X12_modeFor (by decide)) stOk_0 rfl
theorem i_X12_modeFor_58 : am_i m_X12_modeFor 58 = some (58, .iconst 0, 1, [], 0) := rfl
theorem i_X12_modeFor_59 : am_i m_X12_modeFor 59 = some (59, .istore 5, 2, [], 0) := rfl
theorem i_X12_modeFor_61 : am_i m_X12_modeFor 61 = some (61, .aload_n 0, 1, [], 0) := rfl
theorem i_X12_modeFor_62 : am_i m_X12_modeFor 62 = some (62, .iload_n 1, 1, [], 0) := rfl
theorem i_X12_modeFor_63 : am_i m_X12_modeFor 63 = some (63, .iload_n 2, 1, [], 0) := rfl
theorem i_X12_modeFor_64 : am_i m_X12_modeFor 64 = some (64, .iload_n 3, 1, [], 0) := rfl
theorem i_X12_modeFor_65 : am_i m_X12_modeFor 65 = some (65, .iconst 0, 1, [], 0) := rfl
theorem i_X12_modeFor_66 : am_i m_X12_modeFor 66 = some (66, .invokevirtual 185, 3, [179, 10], 0) := rfl
theorem b_X12_modeFor_58 {a0 : Nat} {x1 x2 x3 x4 : Int} {v5 v6 v7 v8 : Value} {h : am_H} (k1 : K10 h a0) : rn m_X12_modeFor 58 [.ref a0, .int (mI x1), .int (mI x2), .int (mI x3), .int (mI x4), v5, v6, v7, v8] [] h = cl m_X12_modeFor 69 [.ref a0, .int (mI x1), .int (mI x2), .int (mI x3), .int (mI x4), .int (mI 0), v6, v7, v8] [] (rn m_X12_costOf 0 [.ref a0, .int (mI x1), .int (mI x2), .int (mI x3), .int (mI 0), am_J, am_J, am_J, am_J, am_J] [] h) := by
  refine (tq_iconst i_X12_modeFor_58 rfl).trans ?_
  refine (tq_istore (L' := [.ref a0, .int (mI x1), .int (mI x2), .int (mI x3), .int (mI x4), .int (mI 0), v6, v7, v8]) i_X12_modeFor_59 rfl rfl).trans ?_
  refine (tq_aload_n i_X12_modeFor_61 rfl (isA_ref _) rfl).trans ?_
  refine (tq_iload_n i_X12_modeFor_62 rfl rfl).trans ?_
  refine (tq_iload_n i_X12_modeFor_63 rfl rfl).trans ?_
  refine (tq_iload_n i_X12_modeFor_64 rfl rfl).trans ?_
  refine (tq_iconst i_X12_modeFor_65 rfl).trans ?_
  exact c_X12_costOf i_X12_modeFor_66 (K10_s k1) (ltd d_X12_modeFor (by decide)) stOk_0 rfl
theorem i_X12_modeFor_69 : am_i m_X12_modeFor 69 = some (69, .istore 6, 2, [], 0) := rfl
theorem i_X12_modeFor_71 : am_i m_X12_modeFor 71 = some (71, .iconst 1, 1, [], 1) := rfl
theorem i_X12_modeFor_72 : am_i m_X12_modeFor 72 = some (72, .istore 7, 2, [], 0) := rfl
theorem b_X12_modeFor_69 {a0 : Nat} {x1 x2 x3 x4 x5 xs0 : Int} {v6 v7 v8 : Value} {h : am_H} : rn m_X12_modeFor 69 [.ref a0, .int (mI x1), .int (mI x2), .int (mI x3), .int (mI x4), .int (mI x5), v6, v7, v8] [.int (mI xs0)] h = rn m_X12_modeFor 74 [.ref a0, .int (mI x1), .int (mI x2), .int (mI x3), .int (mI x4), .int (mI x5), .int (mI xs0), .int (mI 1), v8] [] h := by
  refine (tq_istore (L' := [.ref a0, .int (mI x1), .int (mI x2), .int (mI x3), .int (mI x4), .int (mI x5), .int (mI xs0), v7, v8]) i_X12_modeFor_69 rfl rfl).trans ?_
  refine (tq_iconst i_X12_modeFor_71 rfl).trans ?_
  refine (tq_istore (L' := [.ref a0, .int (mI x1), .int (mI x2), .int (mI x3), .int (mI x4), .int (mI x5), .int (mI xs0), .int (mI 1), v8]) i_X12_modeFor_72 rfl rfl).trans ?_
  rfl
theorem i_X12_modeFor_74 : am_i m_X12_modeFor 74 = some (74, .iload 7, 2, [], 0) := rfl
theorem i_X12_modeFor_76 : am_i m_X12_modeFor 76 = some (76, .iload 4, 2, [], 0) := rfl
theorem i_X12_modeFor_78 : am_i m_X12_modeFor 78 = some (78, .if_icmp .gt 45, 3, [], 0) := rfl
theorem i_X12_modeFor_81 : am_i m_X12_modeFor 81 = some (81, .aload_n 0, 1, [], 0) := rfl
theorem i_X12_modeFor_82 : am_i m_X12_modeFor 82 = some (82, .iload_n 1, 1, [], 0) := rfl
theorem i_X12_modeFor_83 : am_i m_X12_modeFor 83 = some (83, .iload_n 2, 1, [], 0) := rfl
theorem i_X12_modeFor_84 : am_i m_X12_modeFor 84 = some (84, .iload_n 3, 1, [], 0) := rfl
theorem i_X12_modeFor_85 : am_i m_X12_modeFor 85 = some (85, .iload 7, 2, [], 0) := rfl
theorem i_X12_modeFor_87 : am_i m_X12_modeFor 87 = some (87, .invokevirtual 185, 3, [179, 10], 0) := rfl
theorem i_X12_modeFor_123 : am_i m_X12_modeFor 123 = some (123, .iload 5, 2, [], 0) := rfl
theorem i_X12_modeFor_125 : am_i m_X12_modeFor 125 = some (125, .ireturn, 1, [], 0) := rfl
theorem b_X12_modeFor_74 {a0 : Nat} {x1 x2 x3 x4 x5 x6 x7 x4' x7' : Int} {v8 : Value} {h : am_H} (w4 : wr x4 = x4') (w7 : wr x7 = x7') (k1 : K10 h a0) : rn m_X12_modeFor 74 [.ref a0, .int (mI x1), .int (mI x2), .int (mI x3), .int (mI x4), .int (mI x5), .int (mI x6), .int (mI x7), v8] [] h = if x4' < x7' then some (.inl (some (.int (mI x5))), h) else cl m_X12_modeFor 90 [.ref a0, .int (mI x1), .int (mI x2), .int (mI x3), .int (mI x4), .int (mI x5), .int (mI x6), .int (mI x7), v8] [] (rn m_X12_costOf 0 [.ref a0, .int (mI x1), .int (mI x2), .int (mI x3), .int (mI x7), am_J, am_J, am_J, am_J, am_J] [] h) := by
  refine (tq_iload i_X12_modeFor_74 rfl rfl).trans ?_
  refine (tq_iload i_X12_modeFor_76 rfl rfl).trans ?_
  refine (tq_icmp_gt (pt := 123) i_X12_modeFor_78 w7 w4 (by decide) rfl).trans ?_
  refine ite_congr rfl (fun c1 => ?_) (fun c1 => ?_)
  · refine (tq_iload i_X12_modeFor_123 rfl rfl).trans ?_
    exact tq_ireturn i_X12_modeFor_125 r_X12_modeFor rfl
  · refine (tq_aload_n i_X12_modeFor_81 rfl (isA_ref _) rfl).trans ?_
    refine (tq_iload_n i_X12_modeFor_82 rfl rfl).trans ?_
    refine (tq_iload_n i_X12_modeFor_83 rfl rfl).trans ?_
    refine (tq_iload_n i_X12_modeFor_84 rfl rfl).trans ?_
    refine (tq_iload i_X12_modeFor_85 rfl rfl).trans ?_
    exact c_X12_costOf i_X12_modeFor_87 (K10_s k1) (ltd d_X12_modeFor (by decide)) stOk_0 rfl
theorem i_X12_modeFor_90 : am_i m_X12_modeFor 90 = some (90, .istore 8, 2, [], 0) := rfl
theorem i_X12_modeFor_92 : am_i m_X12_modeFor 92 = some (92, .iload 8, 2, [], 0) := rfl
theorem i_X12_modeFor_94 : am_i m_X12_modeFor 94 = some (94, .iload 6, 2, [], 0) := rfl
theorem i_X12_modeFor_96 : am_i m_X12_modeFor 96 = some (96, .if_icmp .ge 8, 3, [], 0) := rfl
theorem i_X12_modeFor_99 : am_i m_X12_modeFor 99 = some (99, .iload 7, 2, [], 0) := rfl
theorem i_X12_modeFor_101 : am_i m_X12_modeFor 101 = some (101, .goto 5, 3, [], 0) := rfl
theorem i_X12_modeFor_104 : am_i m_X12_modeFor 104 = some (104, .iload 5, 2, [], 0) := rfl
theorem i_X12_modeFor_106 : am_i m_X12_modeFor 106 = some (106, .istore 5, 2, [], 0) := rfl
theorem i_X12_modeFor_108 : am_i m_X12_modeFor 108 = some (108, .iload 6, 2, [], 0) := rfl
theorem i_X12_modeFor_110 : am_i m_X12_modeFor 110 = some (110, .iload 8, 2, [], 0) := rfl
theorem i_X12_modeFor_112 : am_i m_X12_modeFor 112 = some (112, .invokestatic 3, 3, [0, 2], 0) := rfl
theorem i_X12_modeFor_115 : am_i m_X12_modeFor 115 = some (115, .istore 6, 2, [], 0) := rfl
theorem i_X12_modeFor_117 : am_i m_X12_modeFor 117 = some (117, .iinc 7 1, 3, [], 0) := rfl
theorem i_X12_modeFor_120 : am_i m_X12_modeFor 120 = some (120, .goto (-46), 3, [], 0) := rfl
theorem b_X12_modeFor_90 {a0 : Nat} {x1 x2 x3 x4 x5 x6 x7 xs0 x6' xs0' : Int} {v8 : Value} {h : am_H} (w6 : wr x6 = x6') (ws0 : wr xs0 = xs0') : rn m_X12_modeFor 90 [.ref a0, .int (mI x1), .int (mI x2), .int (mI x3), .int (mI x4), .int (mI x5), .int (mI x6), .int (mI x7), v8] [.int (mI xs0)] h = rn m_X12_modeFor 74 [.ref a0, .int (mI x1), .int (mI x2), .int (mI x3), .int (mI x4), .int (mI (if x6' ≤ xs0' then (x5 : Int) else x7)), .int (mI (min x6' xs0')), .int (mI (x7 + 1)), .int (mI xs0)] [] h := by
  refine (tq_istore (L' := [.ref a0, .int (mI x1), .int (mI x2), .int (mI x3), .int (mI x4), .int (mI x5), .int (mI x6), .int (mI x7), .int (mI xs0)]) i_X12_modeFor_90 rfl rfl).trans ?_
  refine (tq_iload i_X12_modeFor_92 rfl rfl).trans ?_
  refine (tq_iload i_X12_modeFor_94 rfl rfl).trans ?_
  refine (tq_icmp_ge (pt := 104) i_X12_modeFor_96 ws0 w6 (by decide) rfl).trans ?_
  refine Eq.trans (b := if x6' ≤ xs0' then rn m_X12_modeFor 106 [.ref a0, .int (mI x1), .int (mI x2), .int (mI x3), .int (mI x4), .int (mI x5), .int (mI x6), .int (mI x7), .int (mI xs0)] [.int (mI x5)] h else rn m_X12_modeFor 106 [.ref a0, .int (mI x1), .int (mI x2), .int (mI x3), .int (mI x4), .int (mI x5), .int (mI x6), .int (mI x7), .int (mI xs0)] [.int (mI x7)] h) (ite_congr rfl (fun c1 => ?_) (fun c1 => ?_)) ?_
  · refine (tq_iload i_X12_modeFor_104 rfl rfl).trans ?_
    rfl
  · refine (tq_iload i_X12_modeFor_99 rfl rfl).trans ?_
    refine (tq_goto (pc' := 106) i_X12_modeFor_101 (by decide)).trans ?_
    rfl
  refine Eq.trans ite_I ?_
  refine (tq_istore (L' := [.ref a0, .int (mI x1), .int (mI x2), .int (mI x3), .int (mI x4), .int (mI (if x6' ≤ xs0' then (x5 : Int) else x7)), .int (mI x6), .int (mI x7), .int (mI xs0)]) i_X12_modeFor_106 rfl rfl).trans ?_
  refine (tq_iload i_X12_modeFor_108 rfl rfl).trans ?_
  refine (tq_iload i_X12_modeFor_110 rfl rfl).trans ?_
  refine (tq_min i_X12_modeFor_112 w6 ws0 (Nat.le_of_ble_eq_true rfl) rfl).trans ?_
  refine (tq_istore (L' := [.ref a0, .int (mI x1), .int (mI x2), .int (mI x3), .int (mI x4), .int (mI (if x6' ≤ xs0' then (x5 : Int) else x7)), .int (mI (min x6' xs0')), .int (mI x7), .int (mI xs0)]) i_X12_modeFor_115 rfl rfl).trans ?_
  refine (tq_iinc (L' := [.ref a0, .int (mI x1), .int (mI x2), .int (mI x3), .int (mI x4), .int (mI (if x6' ≤ xs0' then (x5 : Int) else x7)), .int (mI (min x6' xs0')), .int (mI (x7 + 1)), .int (mI xs0)]) i_X12_modeFor_117 rfl rfl rfl).trans ?_
  refine (tq_goto (pc' := 74) i_X12_modeFor_120 (by decide)).trans ?_
  rfl
theorem vec2_md {S : Nat → Nat → Prop} {h h' : am_H} {V : Nat} {X Y Z w v : Int} (m : Md S h h') (n : ¬ S V 0) (q : vec2 h V X Y Z w v) : vec2 h' V X Y Z w v := fun a b a0 a1 b0 b1 => by rw [md_gZ m n, md_gZ m n]; exact q a b a0 a1 b0 b1
theorem cost_b {c p f1 f2 : Int → Int} {X Y Z T m v1 v2 : Int} {kd : Int} (hk : isKind kd) (ip : isPart X Y Z T) (hc : pixels c) (hp : pixels p) (hm : 0 ≤ m ∧ m < nmo kd) (p1 : kd ≠ 105 → pixels f1) (p2 : kd = 98 → pixels f2) (o1 : kd ≠ 105 → okv v1) (o2 : kd = 98 → okv v2) : 0 ≤ cost c p f1 f2 X Y Z T m v1 v2 ∧ cost c p f1 f2 X Y Z T m v1 v2 ≤ 20000 := by
  have nb := nmo_b hk
  have zz : Z * Z = 16 ∨ Z * Z = 64 := by rcases ip.1 with e | e <;> rw [e] <;> omega
  have d1 := dsum_b (n := (Z * Z).toNat) (c := c) (g := gss p f1 f2 X Y Z T m v1 v2) ip.1 (by omega) ip.2.1 ip.2.2.1 hc (fun x y x0 x1 y0 y1 => gss_pb (x := x) (y := y) hp (fun e => p1 (nb.2.1 (by omega))) (fun e => p2 (nb.2.2 (by omega))) (by omega) ip ⟨x0, x1⟩ ⟨y0, y1⟩)
  have e1 := extc_b (m := m) (v1 := v1) (v2 := v2) (by omega) (fun q1 q2 => o1 (nb.2.1 (by omega))) (fun q1 q2 => o2 (nb.2.2 (by omega)))
  unfold cost
  omega
theorem modeFor_ok {h : am_H} {M N : Nat} {c f1 f2 p : Int → Int} {kd tl sl q X Y Z : Int} (y : My M N c kd tl sl q) (x : Mx h M N c f1 f2 kd tl sl q) (ep : gZ h N = p) (hp : pixels p) (li : lies X Y Z (tp sl Y)) : ∃ h', rn m_X12_modeFor 0 [.ref M, .int (mI X), .int (mI Y), .int (mI Z), am_J, am_J, am_J, am_J, am_J] [] h = some (.inl (some (.int (mI (cmo kd tl c p f1 f2 X Y Z (tp sl Y))))), h') ∧ Md (fun c _ => c = N + 2) h h' ∧ (kd ≠ 105 → vec2 h' (N + 2) X Y Z 0 (cv1 kd tl c f1 X Y Z)) ∧ (kd = 98 → vec2 h' (N + 2) X Y Z 2 (cv2 kd tl c f2 X Y Z)) ∧ (∀ i, ¬ inR X Y Z (i / 4) → gZ h' (N + 2) i = gZ h (N + 2) i) := by
  have y0 := y
  obtain ⟨y1, y4, y5, y6, y7, y8⟩ := y
  have nb := nmo_b y5
  obtain ⟨ip, mm⟩ := lies_part li (tp_b sl Y).2
  have ip0 := ip
  have hS : ∀ (c k : Nat), c < N → ¬ (fun (c _ : Nat) => c = N + 2) c k := fun c k hc e => by omega
  have p1 : kd ≠ 105 → pixels f1 := fun e => by obtain ⟨F, -, -, -, -, -, pf⟩ := x.2.2.2.2.2.1 e; exact pf
  have p2 : kd = 98 → pixels f2 := fun e => by obtain ⟨F, -, -, -, -, -, pf⟩ := x.2.2.2.2.2.2 e; exact pf
  have x7 := x.2.2.2.2.1.1
  -- the vectors
  have vecs : ∃ (h1 : am_H) (w1 w2 w3 w4 : Value), rn m_X12_modeFor 0 [.ref M, .int (mI X), .int (mI Y), .int (mI Z), am_J, am_J, am_J, am_J, am_J] [] h = rn m_X12_modeFor 58 [.ref M, .int (mI X), .int (mI Y), .int (mI Z), .int (mI ((nmo kd : Int) - 1)), w1, w2, w3, w4] [] h1 ∧ Md (fun c _ => c = N + 2) h h1 ∧ (kd ≠ 105 → vec2 h1 (N + 2) X Y Z 0 (cv1 kd tl c f1 X Y Z)) ∧ (kd = 98 → vec2 h1 (N + 2) X Y Z 2 (cv2 kd tl c f2 X Y Z)) ∧ (∀ i, ¬ inR X Y Z (i / 4) → gZ h1 (N + 2) i = gZ h (N + 2) i) := by
    have st := b_X12_modeFor_0 (a0 := M) (x1 := X) (x2 := Y) (x3 := Z) (h := h) x.1
    rw [x7] at st
    rcases y5 with rfl | rfl | rfl
    · rw [show (if ¬ (105 : Int) = 105 then ((if ¬ (105 : Int) = 112 then (6 : Int) else 4) : Int) else 3) = 3 by decide, if_pos (by decide), b_X12_modeFor_44 (wr_id (z := 3) (by omega) (by omega)) x.1, if_pos (by decide)] at st
      exact ⟨h, _, _, _, _, st, Md_rf _ _, fun q => absurd rfl q, fun q => by omega, fun _ _ => rfl⟩
    · obtain ⟨h1, e1, m1, v1, r1⟩ := findsVector_ok (w := 0) (m := 4) (f := f1) y0 x ep hp li (Or.inl ⟨rfl, rfl, rfl, by decide⟩) (p1 (by decide))
      rw [show (if ¬ (112 : Int) = 105 then ((if ¬ (112 : Int) = 112 then (6 : Int) else 4) : Int) else 3) = 4 by decide, if_neg (by decide), e1, cl_n, b_X12_modeFor_44 (wr_id (z := 4) (by omega) (by omega)) (Mx_md y0 m1 hS x).1, if_pos (by decide)] at st
      exact ⟨h1, _, _, _, _, st, m1, fun _ => v1, fun q => by omega, fun i hi => r1 i (Or.inr hi)⟩
    · obtain ⟨h1, e1, m1, v1, r1⟩ := findsVector_ok (w := 0) (m := 4) (f := f1) y0 x ep hp li (Or.inl ⟨rfl, rfl, rfl, by decide⟩) (p1 (by decide))
      have x1 := Mx_md y0 m1 hS x
      obtain ⟨h2, e2, m2, v2, r2⟩ := findsVector_ok (w := 2) (m := 5) (f := f2) y0 x1 ((md_Z m1 (by omega)).trans ep) hp li (Or.inr ⟨rfl, rfl, rfl, rfl⟩) (p2 rfl)
      rw [show (if ¬ (98 : Int) = 105 then ((if ¬ (98 : Int) = 112 then (6 : Int) else 4) : Int) else 3) = 6 by decide, if_neg (by decide), e1, cl_n, b_X12_modeFor_44 (wr_id (z := 6) (by omega) (by omega)) x1.1, if_neg (by decide), e2, cl_n] at st
      refine ⟨h2, _, _, _, _, st, Md_tr m1 m2, fun _ a b a0 a1 b0 b1 => ?_, fun _ => v2, fun i hi => (r2 i (Or.inr hi)).trans (r1 i (Or.inr hi))⟩
      have := v1 a b a0 a1 b0 b1
      rw [r2 _ (Or.inl (by omega)), r2 _ (Or.inl (by omega))]
      exact this
  obtain ⟨h1, w1, w2, w3, w4, st, m1, vv1, vv2, rr⟩ := vecs
  rw [st]
  have x1 := Mx_md y0 m1 hS x
  have ep1 : gZ h1 N = p := (md_Z m1 (by omega)).trans ep
  have o1 : kd ≠ 105 → okv (cv1 kd tl c f1 X Y Z) := fun e => by unfold cv1; rw [if_neg e]; exact bestv_okv (stp_ok tl)
  have o2 : kd = 98 → okv (cv2 kd tl c f2 X Y Z) := fun e => by unfold cv2; rw [if_pos e]; exact bestv_okv (stp_ok tl)
  have co : ∀ k : Int, 0 ≤ k → k < nmo kd → rn m_X12_costOf 0 [.ref M, .int (mI X), .int (mI Y), .int (mI Z), .int (mI k), am_J, am_J, am_J, am_J, am_J] [] h1 = some (.inl (some (.int (mI (cost c p f1 f2 X Y Z (tp sl Y) k (cv1 kd tl c f1 X Y Z) (cv2 kd tl c f2 X Y Z))))), h1) := fun k k0 k1 => mcost_ok y0 x1 ep1 hp li ⟨k0, k1⟩ (fun c4 a b a0 a1 b0 b1 => by
    refine ⟨fun e5 => ?_, fun e4 => ?_⟩
    · have kk := nb.2.1 (by omega)
      have := vv1 kk a b a0 a1 b0 b1
      rw [Int.add_zero] at this
      exact ⟨this.1, this.2, o1 kk⟩
    · have kk := nb.2.2 (by omega)
      have := vv2 kk a b a0 a1 b0 b1
      exact ⟨this.1, by rw [← this.2, show (3 : Int) = 2 + 1 by decide, Int.add_assoc], o2 kk⟩)
  have cb : ∀ k : Int, 0 ≤ k → k < nmo kd → _ := fun k k0 k1 => cost_b (m := k) (f1 := f1) (f2 := f2) (v1 := cv1 kd tl c f1 X Y Z) (v2 := cv2 kd tl c f2 X Y Z) y5 ip0 y4 hp ⟨k0, k1⟩ p1 p2 o1 o2
  have c0 := cb 0 (by omega) (by omega)
  rw [b_X12_modeFor_58 x1.1, co 0 (by omega) (by omega), cl_v, b_X12_modeFor_69]
  let mk : Int → Int × Int := fun k => mnv (fun k => cost c p f1 f2 X Y Z (tp sl Y) k (cv1 kd tl c f1 X Y Z) (cv2 kd tl c f2 X Y Z)) (fun k => k) 0 k.toNat
  have mk_s : ∀ k, 0 ≤ k → mk (k + 1) = if cost c p f1 f2 X Y Z (tp sl Y) k (cv1 kd tl c f1 X Y Z) (cv2 kd tl c f2 X Y Z) < (mk k).1 then (cost c p f1 f2 X Y Z (tp sl Y) k (cv1 kd tl c f1 X Y Z) (cv2 kd tl c f2 X Y Z), k) else mk k := fun k k0 => mnv_succ k0
  have ecm : cmo kd tl c p f1 f2 X Y Z (tp sl Y) = (mk (nmo kd)).2 := by
    unfold cmo bestm
    simp only [mk]
    rw [show ((nmo kd : Nat) : Int).toNat = nmo kd by omega]
  have := lp (m := m_X12_modeFor) (pc := 74) (L := fun i (z : (Int × Int) × Value) => [.ref M, .int (mI X), .int (mI Y), .int (mI Z), .int (mI ((nmo kd : Int) - 1)), .int (mI z.1.2), .int (mI z.1.1), .int (mI i), z.2]) (N := nmo kd) (P := fun r => ∃ h', r = some (.inl (some (.int (mI (cmo kd tl c p f1 f2 X Y Z (tp sl Y))))), h') ∧ Md (fun c _ => c = N + 2) h h' ∧ (kd ≠ 105 → vec2 h' (N + 2) X Y Z 0 (cv1 kd tl c f1 X Y Z)) ∧ (kd = 98 → vec2 h' (N + 2) X Y Z 2 (cv2 kd tl c f2 X Y Z)) ∧ (∀ i, ¬ inR X Y Z (i / 4) → gZ h' (N + 2) i = gZ h (N + 2) i)) (fun i z h' => 1 ≤ i ∧ h' = h1 ∧ z.1 = mk i ∧ 0 ≤ z.1.1 ∧ z.1.1 ≤ 20000) ?_ ?_ 1 ((_, 0), w4) h1 (by omega) ⟨by omega, rfl, ?_, c0.1, c0.2⟩
  · exact this
  · intro i z h' hi ⟨i1, e, ez, b0, b1⟩
    obtain ⟨⟨le, be⟩, v⟩ := z
    subst e
    simp only at ez b0 b1
    have ci := cb i (by omega) hi
    have s1 := b_X12_modeFor_74 (a0 := M) (x1 := X) (x2 := Y) (x3 := Z) (x5 := be) (x6 := le) (v8 := v) (h := h') (wr_id (z := (nmo kd : Int) - 1) (by omega) (by omega)) (wr_id (z := i) (by omega) (by omega)) x1.1
    rw [if_neg (by omega), co i (by omega) hi, cl_v] at s1
    have s2 := b_X12_modeFor_90 (a0 := M) (x1 := X) (x2 := Y) (x3 := Z) (x4 := (nmo kd : Int) - 1) (x5 := be) (x7 := i) (v8 := v) (h := h') (wr_id (z := le) (by omega) (by omega)) (wr_id (z := cost c p f1 f2 X Y Z (tp sl Y) i (cv1 kd tl c f1 X Y Z) (cv2 kd tl c f2 X Y Z)) (by omega) (by omega))
    refine ⟨((min le (cost c p f1 f2 X Y Z (tp sl Y) i (cv1 kd tl c f1 X Y Z) (cv2 kd tl c f2 X Y Z)), if le ≤ cost c p f1 f2 X Y Z (tp sl Y) i (cv1 kd tl c f1 X Y Z) (cv2 kd tl c f2 X Y Z) then be else i), _), h', s1.trans s2, by omega, rfl, ?_, by simp only; omega, by simp only; omega⟩
    rw [mk_s i (by omega), ← ez]
    by_cases qc : cost c p f1 f2 X Y Z (tp sl Y) i (cv1 kd tl c f1 X Y Z) (cv2 kd tl c f2 X Y Z) < le
    · rw [if_pos qc, if_neg (by omega), show min le (cost c p f1 f2 X Y Z (tp sl Y) i (cv1 kd tl c f1 X Y Z) (cv2 kd tl c f2 X Y Z)) = cost c p f1 f2 X Y Z (tp sl Y) i (cv1 kd tl c f1 X Y Z) (cv2 kd tl c f2 X Y Z) by omega]
    · rw [if_neg qc, if_pos (by omega), show min le (cost c p f1 f2 X Y Z (tp sl Y) i (cv1 kd tl c f1 X Y Z) (cv2 kd tl c f2 X Y Z)) = le by omega]
  · intro z h' ⟨i1, e, ez, b0, b1⟩
    obtain ⟨⟨le, be⟩, v⟩ := z
    subst e
    simp only at ez
    have s1 := b_X12_modeFor_74 (a0 := M) (x1 := X) (x2 := Y) (x3 := Z) (x5 := be) (x6 := le) (v8 := v) (h := h') (wr_id (z := (nmo kd : Int) - 1) (by omega) (by omega)) (wr_id (z := (nmo kd : Int)) (by omega) (by omega)) x1.1
    rw [if_pos (by omega)] at s1
    refine ⟨h', s1.trans ?_, m1, vv1, vv2, rr⟩
    rw [ecm, ← ez]
  · simp only
    rw [show (1 : Int) = 0 + 1 by decide, mk_s 0 (by omega)]
    rw [if_pos (by simp only [mk]; show _ < (1000000 : Int); omega)]
    rfl
