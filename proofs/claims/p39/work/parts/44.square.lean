/-! ===== squares: transform, levels, building back ===== -/
theorem i_X1_transformLine_0 : am_i m_X1_transformLine 0 = some (0, .aload_n 0, 1, [], 0) := rfl
theorem i_X1_transformLine_1 : am_i m_X1_transformLine 1 = some (1, .getfield 38, 3, [1, 7, 0], 0) := rfl
theorem i_X1_transformLine_4 : am_i m_X1_transformLine 4 = some (4, .iload_n 1, 1, [], 0) := rfl
theorem i_X1_transformLine_5 : am_i m_X1_transformLine 5 = some (5, .invokestatic 69, 3, [32], 0) := rfl
theorem i_X1_transformLine_8 : am_i m_X1_transformLine 8 = some (8, .istore_n 3, 1, [], 0) := rfl
theorem i_X1_transformLine_9 : am_i m_X1_transformLine 9 = some (9, .aload_n 0, 1, [], 0) := rfl
theorem i_X1_transformLine_10 : am_i m_X1_transformLine 10 = some (10, .getfield 38, 3, [1, 7, 0], 0) := rfl
theorem i_X1_transformLine_13 : am_i m_X1_transformLine 13 = some (13, .iload_n 1, 1, [], 0) := rfl
theorem i_X1_transformLine_14 : am_i m_X1_transformLine 14 = some (14, .iload_n 2, 1, [], 0) := rfl
theorem i_X1_transformLine_15 : am_i m_X1_transformLine 15 = some (15, .iadd, 1, [], 0) := rfl
theorem i_X1_transformLine_16 : am_i m_X1_transformLine 16 = some (16, .invokestatic 69, 3, [32], 0) := rfl
theorem i_X1_transformLine_19 : am_i m_X1_transformLine 19 = some (19, .istore 4, 2, [], 0) := rfl
theorem i_X1_transformLine_21 : am_i m_X1_transformLine 21 = some (21, .aload_n 0, 1, [], 0) := rfl
theorem i_X1_transformLine_22 : am_i m_X1_transformLine 22 = some (22, .getfield 38, 3, [1, 7, 0], 0) := rfl
theorem i_X1_transformLine_25 : am_i m_X1_transformLine 25 = some (25, .iload_n 1, 1, [], 0) := rfl
theorem i_X1_transformLine_26 : am_i m_X1_transformLine 26 = some (26, .iconst 2, 1, [], 2) := rfl
theorem i_X1_transformLine_27 : am_i m_X1_transformLine 27 = some (27, .iload_n 2, 1, [], 0) := rfl
theorem i_X1_transformLine_28 : am_i m_X1_transformLine 28 = some (28, .imul, 1, [], 0) := rfl
theorem i_X1_transformLine_29 : am_i m_X1_transformLine 29 = some (29, .iadd, 1, [], 0) := rfl
theorem i_X1_transformLine_30 : am_i m_X1_transformLine 30 = some (30, .invokestatic 69, 3, [32], 0) := rfl
theorem i_X1_transformLine_33 : am_i m_X1_transformLine 33 = some (33, .istore 5, 2, [], 0) := rfl
theorem i_X1_transformLine_35 : am_i m_X1_transformLine 35 = some (35, .aload_n 0, 1, [], 0) := rfl
theorem i_X1_transformLine_36 : am_i m_X1_transformLine 36 = some (36, .getfield 38, 3, [1, 7, 0], 0) := rfl
theorem i_X1_transformLine_39 : am_i m_X1_transformLine 39 = some (39, .iload_n 1, 1, [], 0) := rfl
theorem i_X1_transformLine_40 : am_i m_X1_transformLine 40 = some (40, .iconst 3, 1, [], 3) := rfl
theorem i_X1_transformLine_41 : am_i m_X1_transformLine 41 = some (41, .iload_n 2, 1, [], 0) := rfl
theorem i_X1_transformLine_42 : am_i m_X1_transformLine 42 = some (42, .imul, 1, [], 0) := rfl
theorem i_X1_transformLine_43 : am_i m_X1_transformLine 43 = some (43, .iadd, 1, [], 0) := rfl
theorem i_X1_transformLine_44 : am_i m_X1_transformLine 44 = some (44, .invokestatic 69, 3, [32], 0) := rfl
theorem i_X1_transformLine_47 : am_i m_X1_transformLine 47 = some (47, .istore 6, 2, [], 0) := rfl
theorem i_X1_transformLine_49 : am_i m_X1_transformLine 49 = some (49, .aload_n 0, 1, [], 0) := rfl
theorem i_X1_transformLine_50 : am_i m_X1_transformLine 50 = some (50, .getfield 38, 3, [1, 7, 0], 0) := rfl
theorem i_X1_transformLine_53 : am_i m_X1_transformLine 53 = some (53, .iload_n 1, 1, [], 0) := rfl
theorem i_X1_transformLine_54 : am_i m_X1_transformLine 54 = some (54, .iload_n 3, 1, [], 0) := rfl
theorem i_X1_transformLine_55 : am_i m_X1_transformLine 55 = some (55, .iload 4, 2, [], 0) := rfl
theorem i_X1_transformLine_57 : am_i m_X1_transformLine 57 = some (57, .iadd, 1, [], 0) := rfl
theorem i_X1_transformLine_58 : am_i m_X1_transformLine 58 = some (58, .iload 5, 2, [], 0) := rfl
theorem i_X1_transformLine_60 : am_i m_X1_transformLine 60 = some (60, .iadd, 1, [], 0) := rfl
theorem i_X1_transformLine_61 : am_i m_X1_transformLine 61 = some (61, .iload 6, 2, [], 0) := rfl
theorem i_X1_transformLine_63 : am_i m_X1_transformLine 63 = some (63, .iadd, 1, [], 0) := rfl
theorem i_X1_transformLine_64 : am_i m_X1_transformLine 64 = some (64, .invokestatic 59, 3, [33], 0) := rfl
theorem i_X1_transformLine_67 : am_i m_X1_transformLine 67 = some (67, .aload_n 0, 1, [], 0) := rfl
theorem i_X1_transformLine_68 : am_i m_X1_transformLine 68 = some (68, .getfield 38, 3, [1, 7, 0], 0) := rfl
theorem i_X1_transformLine_71 : am_i m_X1_transformLine 71 = some (71, .iload_n 1, 1, [], 0) := rfl
theorem i_X1_transformLine_72 : am_i m_X1_transformLine 72 = some (72, .iload_n 2, 1, [], 0) := rfl
theorem i_X1_transformLine_73 : am_i m_X1_transformLine 73 = some (73, .iadd, 1, [], 0) := rfl
theorem i_X1_transformLine_74 : am_i m_X1_transformLine 74 = some (74, .iload_n 3, 1, [], 0) := rfl
theorem i_X1_transformLine_75 : am_i m_X1_transformLine 75 = some (75, .iload 4, 2, [], 0) := rfl
theorem i_X1_transformLine_77 : am_i m_X1_transformLine 77 = some (77, .iadd, 1, [], 0) := rfl
theorem i_X1_transformLine_78 : am_i m_X1_transformLine 78 = some (78, .iload 5, 2, [], 0) := rfl
theorem i_X1_transformLine_80 : am_i m_X1_transformLine 80 = some (80, .isub, 1, [], 0) := rfl
theorem i_X1_transformLine_81 : am_i m_X1_transformLine 81 = some (81, .iload 6, 2, [], 0) := rfl
theorem i_X1_transformLine_83 : am_i m_X1_transformLine 83 = some (83, .isub, 1, [], 0) := rfl
theorem i_X1_transformLine_84 : am_i m_X1_transformLine 84 = some (84, .invokestatic 59, 3, [33], 0) := rfl
theorem i_X1_transformLine_87 : am_i m_X1_transformLine 87 = some (87, .aload_n 0, 1, [], 0) := rfl
theorem i_X1_transformLine_88 : am_i m_X1_transformLine 88 = some (88, .getfield 38, 3, [1, 7, 0], 0) := rfl
theorem i_X1_transformLine_91 : am_i m_X1_transformLine 91 = some (91, .iload_n 1, 1, [], 0) := rfl
theorem i_X1_transformLine_92 : am_i m_X1_transformLine 92 = some (92, .iconst 2, 1, [], 2) := rfl
theorem i_X1_transformLine_93 : am_i m_X1_transformLine 93 = some (93, .iload_n 2, 1, [], 0) := rfl
theorem i_X1_transformLine_94 : am_i m_X1_transformLine 94 = some (94, .imul, 1, [], 0) := rfl
theorem i_X1_transformLine_95 : am_i m_X1_transformLine 95 = some (95, .iadd, 1, [], 0) := rfl
theorem i_X1_transformLine_96 : am_i m_X1_transformLine 96 = some (96, .iload_n 3, 1, [], 0) := rfl
theorem i_X1_transformLine_97 : am_i m_X1_transformLine 97 = some (97, .iload 4, 2, [], 0) := rfl
theorem i_X1_transformLine_99 : am_i m_X1_transformLine 99 = some (99, .isub, 1, [], 0) := rfl
theorem i_X1_transformLine_100 : am_i m_X1_transformLine 100 = some (100, .iload 5, 2, [], 0) := rfl
theorem i_X1_transformLine_102 : am_i m_X1_transformLine 102 = some (102, .isub, 1, [], 0) := rfl
theorem i_X1_transformLine_103 : am_i m_X1_transformLine 103 = some (103, .iload 6, 2, [], 0) := rfl
theorem i_X1_transformLine_105 : am_i m_X1_transformLine 105 = some (105, .iadd, 1, [], 0) := rfl
theorem i_X1_transformLine_106 : am_i m_X1_transformLine 106 = some (106, .invokestatic 59, 3, [33], 0) := rfl
theorem i_X1_transformLine_109 : am_i m_X1_transformLine 109 = some (109, .aload_n 0, 1, [], 0) := rfl
theorem i_X1_transformLine_110 : am_i m_X1_transformLine 110 = some (110, .getfield 38, 3, [1, 7, 0], 0) := rfl
theorem i_X1_transformLine_113 : am_i m_X1_transformLine 113 = some (113, .iload_n 1, 1, [], 0) := rfl
theorem i_X1_transformLine_114 : am_i m_X1_transformLine 114 = some (114, .iconst 3, 1, [], 3) := rfl
theorem i_X1_transformLine_115 : am_i m_X1_transformLine 115 = some (115, .iload_n 2, 1, [], 0) := rfl
theorem i_X1_transformLine_116 : am_i m_X1_transformLine 116 = some (116, .imul, 1, [], 0) := rfl
theorem i_X1_transformLine_117 : am_i m_X1_transformLine 117 = some (117, .iadd, 1, [], 0) := rfl
theorem i_X1_transformLine_118 : am_i m_X1_transformLine 118 = some (118, .iload_n 3, 1, [], 0) := rfl
theorem i_X1_transformLine_119 : am_i m_X1_transformLine 119 = some (119, .iload 4, 2, [], 0) := rfl
theorem i_X1_transformLine_121 : am_i m_X1_transformLine 121 = some (121, .isub, 1, [], 0) := rfl
theorem i_X1_transformLine_122 : am_i m_X1_transformLine 122 = some (122, .iload 5, 2, [], 0) := rfl
theorem i_X1_transformLine_124 : am_i m_X1_transformLine 124 = some (124, .iadd, 1, [], 0) := rfl
theorem i_X1_transformLine_125 : am_i m_X1_transformLine 125 = some (125, .iload 6, 2, [], 0) := rfl
theorem i_X1_transformLine_127 : am_i m_X1_transformLine 127 = some (127, .isub, 1, [], 0) := rfl
theorem i_X1_transformLine_128 : am_i m_X1_transformLine 128 = some (128, .invokestatic 59, 3, [33], 0) := rfl
theorem i_X1_transformLine_131 : am_i m_X1_transformLine 131 = some (131, .return_, 1, [], 0) := rfl
theorem b_X1_transformLine_0 {a0 : Nat} {x1 x2 x1' : Int} {h : am_H} (w1 : wr x1 = x1') (k1 : K1 h a0) (g2 : 0 ≤ x1' ∧ x1' < (16 : Int)) (g3 : 0 ≤ (wr (x1 + x2)) ∧ (wr (x1 + x2)) < (16 : Int)) (g4 : 0 ≤ (wr (x1 + (2 * x2))) ∧ (wr (x1 + (2 * x2))) < (16 : Int)) (g5 : 0 ≤ (wr (x1 + (3 * x2))) ∧ (wr (x1 + (3 * x2))) < (16 : Int)) : rn m_X1_transformLine 0 [.ref a0, .int (mI x1), .int (mI x2), am_J, am_J, am_J, am_J] [] h = some (.inl none, uZ (uZ (uZ (uZ h (a0 + 8) x1' ((((gZ h (a0 + 8) x1') + (gZ h (a0 + 8) (wr (x1 + x2)))) + (gZ h (a0 + 8) (wr (x1 + (2 * x2))))) + (gZ h (a0 + 8) (wr (x1 + (3 * x2)))))) (a0 + 8) (wr (x1 + x2)) ((((gZ h (a0 + 8) x1') + (gZ h (a0 + 8) (wr (x1 + x2)))) - (gZ h (a0 + 8) (wr (x1 + (2 * x2))))) - (gZ h (a0 + 8) (wr (x1 + (3 * x2)))))) (a0 + 8) (wr (x1 + (2 * x2))) ((((gZ h (a0 + 8) x1') - (gZ h (a0 + 8) (wr (x1 + x2)))) - (gZ h (a0 + 8) (wr (x1 + (2 * x2))))) + (gZ h (a0 + 8) (wr (x1 + (3 * x2)))))) (a0 + 8) (wr (x1 + (3 * x2))) ((((gZ h (a0 + 8) x1') - (gZ h (a0 + 8) (wr (x1 + x2)))) + (gZ h (a0 + 8) (wr (x1 + (2 * x2))))) - (gZ h (a0 + 8) (wr (x1 + (3 * x2)))))) := by
  refine (tq_aload_n i_X1_transformLine_0 rfl (isA_ref _) rfl).trans ?_
  refine (tq_getfield i_X1_transformLine_1 (K1_s k1) (gR (g_1_7 (K1_s k1)) (K1_e7 k1)) (isV_ref _) rfl).trans ?_
  refine (tq_iload_n i_X1_transformLine_4 rfl rfl).trans ?_
  refine (c_X7_get i_X1_transformLine_5 (ltd d_X1_transformLine (by decide)) (isA_ref _) stOk_0 rfl).trans ?_
  refine (congrArg (cl _ _ _ _) (get_ok w1 (K1_n7 k1) (K1_s7 k1) (by decide) g2)).trans ?_
  refine (cl_v _ _ _ _ _ _).trans ?_
  refine (tq_istore_n (L' := [.ref a0, .int (mI x1), .int (mI x2), .int (mI (gZ h (a0 + 8) x1')), am_J, am_J, am_J]) i_X1_transformLine_8 rfl rfl).trans ?_
  refine (tq_aload_n i_X1_transformLine_9 rfl (isA_ref _) rfl).trans ?_
  refine (tq_getfield i_X1_transformLine_10 (K1_s k1) (gR (g_1_7 (K1_s k1)) (K1_e7 k1)) (isV_ref _) rfl).trans ?_
  refine (tq_iload_n i_X1_transformLine_13 rfl rfl).trans ?_
  refine (tq_iload_n i_X1_transformLine_14 rfl rfl).trans ?_
  refine (tq_iadd i_X1_transformLine_15 rfl).trans ?_
  refine (c_X7_get i_X1_transformLine_16 (ltd d_X1_transformLine (by decide)) (isA_ref _) stOk_0 rfl).trans ?_
  refine (congrArg (cl _ _ _ _) (get_ok rfl (K1_n7 k1) (K1_s7 k1) (by decide) g3)).trans ?_
  refine (cl_v _ _ _ _ _ _).trans ?_
  refine (tq_istore (L' := [.ref a0, .int (mI x1), .int (mI x2), .int (mI (gZ h (a0 + 8) x1')), .int (mI (gZ h (a0 + 8) (wr (x1 + x2)))), am_J, am_J]) i_X1_transformLine_19 rfl rfl).trans ?_
  refine (tq_aload_n i_X1_transformLine_21 rfl (isA_ref _) rfl).trans ?_
  refine (tq_getfield i_X1_transformLine_22 (K1_s k1) (gR (g_1_7 (K1_s k1)) (K1_e7 k1)) (isV_ref _) rfl).trans ?_
  refine (tq_iload_n i_X1_transformLine_25 rfl rfl).trans ?_
  refine (tq_iconst i_X1_transformLine_26 rfl).trans ?_
  refine (tq_iload_n i_X1_transformLine_27 rfl rfl).trans ?_
  refine (tq_imul i_X1_transformLine_28 rfl).trans ?_
  refine (tq_iadd i_X1_transformLine_29 rfl).trans ?_
  refine (c_X7_get i_X1_transformLine_30 (ltd d_X1_transformLine (by decide)) (isA_ref _) stOk_0 rfl).trans ?_
  refine (congrArg (cl _ _ _ _) (get_ok rfl (K1_n7 k1) (K1_s7 k1) (by decide) g4)).trans ?_
  refine (cl_v _ _ _ _ _ _).trans ?_
  refine (tq_istore (L' := [.ref a0, .int (mI x1), .int (mI x2), .int (mI (gZ h (a0 + 8) x1')), .int (mI (gZ h (a0 + 8) (wr (x1 + x2)))), .int (mI (gZ h (a0 + 8) (wr (x1 + (2 * x2))))), am_J]) i_X1_transformLine_33 rfl rfl).trans ?_
  refine (tq_aload_n i_X1_transformLine_35 rfl (isA_ref _) rfl).trans ?_
  refine (tq_getfield i_X1_transformLine_36 (K1_s k1) (gR (g_1_7 (K1_s k1)) (K1_e7 k1)) (isV_ref _) rfl).trans ?_
  refine (tq_iload_n i_X1_transformLine_39 rfl rfl).trans ?_
  refine (tq_iconst i_X1_transformLine_40 rfl).trans ?_
  refine (tq_iload_n i_X1_transformLine_41 rfl rfl).trans ?_
  refine (tq_imul i_X1_transformLine_42 rfl).trans ?_
  refine (tq_iadd i_X1_transformLine_43 rfl).trans ?_
  refine (c_X7_get i_X1_transformLine_44 (ltd d_X1_transformLine (by decide)) (isA_ref _) stOk_0 rfl).trans ?_
  refine (congrArg (cl _ _ _ _) (get_ok rfl (K1_n7 k1) (K1_s7 k1) (by decide) g5)).trans ?_
  refine (cl_v _ _ _ _ _ _).trans ?_
  refine (tq_istore (L' := [.ref a0, .int (mI x1), .int (mI x2), .int (mI (gZ h (a0 + 8) x1')), .int (mI (gZ h (a0 + 8) (wr (x1 + x2)))), .int (mI (gZ h (a0 + 8) (wr (x1 + (2 * x2))))), .int (mI (gZ h (a0 + 8) (wr (x1 + (3 * x2)))))]) i_X1_transformLine_47 rfl rfl).trans ?_
  refine (tq_aload_n i_X1_transformLine_49 rfl (isA_ref _) rfl).trans ?_
  refine (tq_getfield i_X1_transformLine_50 (K1_s k1) (gR (g_1_7 (K1_s k1)) (K1_e7 k1)) (isV_ref _) rfl).trans ?_
  refine (tq_iload_n i_X1_transformLine_53 rfl rfl).trans ?_
  refine (tq_iload_n i_X1_transformLine_54 rfl rfl).trans ?_
  refine (tq_iload i_X1_transformLine_55 rfl rfl).trans ?_
  refine (tq_iadd i_X1_transformLine_57 rfl).trans ?_
  refine (tq_iload i_X1_transformLine_58 rfl rfl).trans ?_
  refine (tq_iadd i_X1_transformLine_60 rfl).trans ?_
  refine (tq_iload i_X1_transformLine_61 rfl rfl).trans ?_
  refine (tq_iadd i_X1_transformLine_63 rfl).trans ?_
  refine (c_X7_put i_X1_transformLine_64 (ltd d_X1_transformLine (by decide)) (isA_ref _) stOk_0 rfl).trans ?_
  refine (congrArg (cl _ _ _ _) (put_ok w1 (K1_n7 k1) (K1_s7 k1) g2)).trans ?_
  refine (cl_n _ _ _ _ _).trans ?_
  refine (tq_aload_n i_X1_transformLine_67 rfl (isA_ref _) rfl).trans ?_
  refine (tq_getfield i_X1_transformLine_68 ((sh_uZ _ _ _ _ _).trans (K1_s k1)) (gR ((g_1_7 ((sh_uZ _ _ _ _ _).trans (K1_s k1))).trans (congrArg am_rv (fA_uZ _ _ _ _ _ _))) (K1_e7 k1)) (isV_ref _) rfl).trans ?_
  refine (tq_iload_n i_X1_transformLine_71 rfl rfl).trans ?_
  refine (tq_iload_n i_X1_transformLine_72 rfl rfl).trans ?_
  refine (tq_iadd i_X1_transformLine_73 rfl).trans ?_
  refine (tq_iload_n i_X1_transformLine_74 rfl rfl).trans ?_
  refine (tq_iload i_X1_transformLine_75 rfl rfl).trans ?_
  refine (tq_iadd i_X1_transformLine_77 rfl).trans ?_
  refine (tq_iload i_X1_transformLine_78 rfl rfl).trans ?_
  refine (tq_isub i_X1_transformLine_80 rfl).trans ?_
  refine (tq_iload i_X1_transformLine_81 rfl rfl).trans ?_
  refine (tq_isub i_X1_transformLine_83 rfl).trans ?_
  refine (c_X7_put i_X1_transformLine_84 (ltd d_X1_transformLine (by decide)) (isA_ref _) stOk_0 rfl).trans ?_
  refine (congrArg (cl _ _ _ _) (put_ok rfl ((gn_uZ _ _ _ _ _).trans (K1_n7 k1)) ((sh_uZ _ _ _ _ _).trans (K1_s7 k1)) g3)).trans ?_
  refine (cl_n _ _ _ _ _).trans ?_
  refine (tq_aload_n i_X1_transformLine_87 rfl (isA_ref _) rfl).trans ?_
  refine (tq_getfield i_X1_transformLine_88 ((sh_uZ _ _ _ _ _).trans ((sh_uZ _ _ _ _ _).trans (K1_s k1))) (gR ((g_1_7 ((sh_uZ _ _ _ _ _).trans ((sh_uZ _ _ _ _ _).trans (K1_s k1)))).trans (congrArg am_rv ((fA_uZ _ _ _ _ _ _).trans (fA_uZ _ _ _ _ _ _)))) (K1_e7 k1)) (isV_ref _) rfl).trans ?_
  refine (tq_iload_n i_X1_transformLine_91 rfl rfl).trans ?_
  refine (tq_iconst i_X1_transformLine_92 rfl).trans ?_
  refine (tq_iload_n i_X1_transformLine_93 rfl rfl).trans ?_
  refine (tq_imul i_X1_transformLine_94 rfl).trans ?_
  refine (tq_iadd i_X1_transformLine_95 rfl).trans ?_
  refine (tq_iload_n i_X1_transformLine_96 rfl rfl).trans ?_
  refine (tq_iload i_X1_transformLine_97 rfl rfl).trans ?_
  refine (tq_isub i_X1_transformLine_99 rfl).trans ?_
  refine (tq_iload i_X1_transformLine_100 rfl rfl).trans ?_
  refine (tq_isub i_X1_transformLine_102 rfl).trans ?_
  refine (tq_iload i_X1_transformLine_103 rfl rfl).trans ?_
  refine (tq_iadd i_X1_transformLine_105 rfl).trans ?_
  refine (c_X7_put i_X1_transformLine_106 (ltd d_X1_transformLine (by decide)) (isA_ref _) stOk_0 rfl).trans ?_
  refine (congrArg (cl _ _ _ _) (put_ok rfl ((gn_uZ _ _ _ _ _).trans ((gn_uZ _ _ _ _ _).trans (K1_n7 k1))) ((sh_uZ _ _ _ _ _).trans ((sh_uZ _ _ _ _ _).trans (K1_s7 k1))) g4)).trans ?_
  refine (cl_n _ _ _ _ _).trans ?_
  refine (tq_aload_n i_X1_transformLine_109 rfl (isA_ref _) rfl).trans ?_
  refine (tq_getfield i_X1_transformLine_110 ((sh_uZ _ _ _ _ _).trans ((sh_uZ _ _ _ _ _).trans ((sh_uZ _ _ _ _ _).trans (K1_s k1)))) (gR ((g_1_7 ((sh_uZ _ _ _ _ _).trans ((sh_uZ _ _ _ _ _).trans ((sh_uZ _ _ _ _ _).trans (K1_s k1))))).trans (congrArg am_rv ((fA_uZ _ _ _ _ _ _).trans ((fA_uZ _ _ _ _ _ _).trans (fA_uZ _ _ _ _ _ _))))) (K1_e7 k1)) (isV_ref _) rfl).trans ?_
  refine (tq_iload_n i_X1_transformLine_113 rfl rfl).trans ?_
  refine (tq_iconst i_X1_transformLine_114 rfl).trans ?_
  refine (tq_iload_n i_X1_transformLine_115 rfl rfl).trans ?_
  refine (tq_imul i_X1_transformLine_116 rfl).trans ?_
  refine (tq_iadd i_X1_transformLine_117 rfl).trans ?_
  refine (tq_iload_n i_X1_transformLine_118 rfl rfl).trans ?_
  refine (tq_iload i_X1_transformLine_119 rfl rfl).trans ?_
  refine (tq_isub i_X1_transformLine_121 rfl).trans ?_
  refine (tq_iload i_X1_transformLine_122 rfl rfl).trans ?_
  refine (tq_iadd i_X1_transformLine_124 rfl).trans ?_
  refine (tq_iload i_X1_transformLine_125 rfl rfl).trans ?_
  refine (tq_isub i_X1_transformLine_127 rfl).trans ?_
  refine (c_X7_put i_X1_transformLine_128 (ltd d_X1_transformLine (by decide)) (isA_ref _) stOk_0 rfl).trans ?_
  refine (congrArg (cl _ _ _ _) (put_ok rfl ((gn_uZ _ _ _ _ _).trans ((gn_uZ _ _ _ _ _).trans ((gn_uZ _ _ _ _ _).trans (K1_n7 k1)))) ((sh_uZ _ _ _ _ _).trans ((sh_uZ _ _ _ _ _).trans ((sh_uZ _ _ _ _ _).trans (K1_s7 k1)))) g5)).trans ?_
  refine (cl_n _ _ _ _ _).trans ?_
  exact tq_return i_X1_transformLine_131 r_X1_transformLine
def big (z : Int) : Prop := -4000000 ≤ z ∧ z ≤ 4000000
theorem transformLine_ok {h : am_H} {B : Nat} {p d a b c e : Int} (kB : K1 h B) (hp : 0 ≤ p) (hd : d = 1 ∨ d = 4) (h3 : p + 3 * d < 16) (ha : gZ h (B + 8) p = a) (hb : gZ h (B + 8) (p + d) = b) (hc : gZ h (B + 8) (p + 2 * d) = c) (he : gZ h (B + 8) (p + 3 * d) = e) (ba : big a) (bb : big b) (bc : big c) (be : big e) : ∃ h', rn m_X1_transformLine 0 [.ref B, .int (mI p), .int (mI d), am_J, am_J, am_J, am_J] [] h = some (.inl none, h') ∧ Md (fun c _ => c = B + 8) h h' ∧ gZ h' (B + 8) p = a + b + c + e ∧ gZ h' (B + 8) (p + d) = a + b - c - e ∧ gZ h' (B + 8) (p + 2 * d) = a - b - c + e ∧ gZ h' (B + 8) (p + 3 * d) = a - b + c - e ∧ ∀ j, j ≠ p → j ≠ p + d → j ≠ p + 2 * d → j ≠ p + 3 * d → gZ h' (B + 8) j = gZ h (B + 8) j := by
  unfold big at *
  have w1 : wr (p + d) = p + d := wr_id (by omega) (by omega)
  have w2 : wr (p + 2 * d) = p + 2 * d := wr_id (by omega) (by omega)
  have w3 : wr (p + 3 * d) = p + 3 * d := wr_id (by omega) (by omega)
  have s := sh1 (K1_s7 kB)
  have st := b_X1_transformLine_0 (a0 := B) (x1 := p) (x2 := d) (x1' := p) (h := h) (wr_id (by omega) (by omega)) kB ⟨hp, by omega⟩ (by rw [w1]; omega) (by rw [w2]; omega) (by rw [w3]; omega)
  rw [w1, w2, w3, ha, hb, hc, he] at st
  refine ⟨_, st, Md_tr (Md_uZ _ _ _ _) (Md_tr (Md_uZ _ _ _ _) (Md_tr (Md_uZ _ _ _ _) (Md_uZ _ _ _ _))), ?_⟩
  have s1 : ∀ {h' : am_H} (i v : Int), (sh h' (B + 8)).1 = 1 → (sh (uZ h' (B + 8) i v) (B + 8)).1 = 1 := fun i v q => by rw [sh_uZ]; exact q
  have key : ∀ j v1 v2 v3 v4, gZ (uZ (uZ (uZ (uZ h (B + 8) p v1) (B + 8) (p + d) v2) (B + 8) (p + 2 * d) v3) (B + 8) (p + 3 * d) v4) (B + 8) j = if j = p + 3 * d then wr v4 else if j = p + 2 * d then wr v3 else if j = p + d then wr v2 else if j = p then wr v1 else gZ h (B + 8) j := by
    intro j v1 v2 v3 v4
    rw [gZ_uZ' (s1 _ _ (s1 _ _ (s1 _ _ s))), gZ_uZ' (s1 _ _ (s1 _ _ s)), gZ_uZ' (s1 _ _ s), gZ_uZ' s]
  refine ⟨?_, ?_, ?_, ?_, ?_⟩
  · rw [key, if_neg (by omega), if_neg (by omega), if_neg (by omega), if_pos rfl, wr_id (by omega) (by omega)]
  · rw [key, if_neg (by omega), if_neg (by omega), if_pos rfl, wr_id (by omega) (by omega)]
  · rw [key, if_neg (by omega), if_pos rfl, wr_id (by omega) (by omega)]
  · rw [key, if_pos rfl, wr_id (by omega) (by omega)]
  · intro j j1 j2 j3 j4
    rw [key, if_neg j4, if_neg j3, if_neg j2, if_neg j1]
def rowf (s : Int → Int) (j : Int) : Int := h4 (j % 4) (s (4 * (j / 4))) (s (4 * (j / 4) + 1)) (s (4 * (j / 4) + 2)) (s (4 * (j / 4) + 3))
theorem rowf_at (s : Int → Int) {n u : Int} (hu : 0 ≤ u ∧ u < 4) : rowf s (4 * n + u) = h4 u (s (4 * n)) (s (4 * n + 1)) (s (4 * n + 2)) (s (4 * n + 3)) := by
  unfold rowf
  rw [show (4 * n + u) % 4 = u by omega, show (4 * n + u) / 4 = n by omega]
theorem hd_row (s : Int → Int) {j : Int} : hd s j = h4 (j / 4) (rowf s (j % 4)) (rowf s (j % 4 + 4)) (rowf s (j % 4 + 8)) (rowf s (j % 4 + 12)) := by
  have h0 := rowf_at s (n := 0) (u := j % 4) (by omega)
  have h1 := rowf_at s (n := 1) (u := j % 4) (by omega)
  have h2 := rowf_at s (n := 2) (u := j % 4) (by omega)
  have h3 := rowf_at s (n := 3) (u := j % 4) (by omega)
  rw [show j % 4 = 4 * 0 + j % 4 by omega, show 4 * 0 + j % 4 + 4 = 4 * 1 + j % 4 by omega, show 4 * 0 + j % 4 + 8 = 4 * 2 + j % 4 by omega, show 4 * 0 + j % 4 + 12 = 4 * 3 + j % 4 by omega, h0, h1, h2, h3]
  unfold hd
  rfl
theorem i_X1_transform_0 : am_i m_X1_transform 0 = some (0, .iconst 0, 1, [], 0) := rfl
theorem i_X1_transform_1 : am_i m_X1_transform 1 = some (1, .istore_n 1, 1, [], 0) := rfl
theorem b_X1_transform_0 {a0 : Nat} {h : am_H} : rn m_X1_transform 0 [.ref a0, am_J] [] h = rn m_X1_transform 2 [.ref a0, .int (mI 0)] [] h := by
  refine (tq_iconst i_X1_transform_0 rfl).trans ?_
  refine (tq_istore_n (L' := [.ref a0, .int (mI 0)]) i_X1_transform_1 rfl rfl).trans ?_
  rfl
theorem i_X1_transform_2 : am_i m_X1_transform 2 = some (2, .iload_n 1, 1, [], 0) := rfl
theorem i_X1_transform_3 : am_i m_X1_transform 3 = some (3, .iconst 4, 1, [], 4) := rfl
theorem i_X1_transform_4 : am_i m_X1_transform 4 = some (4, .if_icmp .ge 17, 3, [], 0) := rfl
theorem i_X1_transform_7 : am_i m_X1_transform 7 = some (7, .aload_n 0, 1, [], 0) := rfl
theorem i_X1_transform_8 : am_i m_X1_transform 8 = some (8, .iconst 4, 1, [], 4) := rfl
theorem i_X1_transform_9 : am_i m_X1_transform 9 = some (9, .iload_n 1, 1, [], 0) := rfl
theorem i_X1_transform_10 : am_i m_X1_transform 10 = some (10, .imul, 1, [], 0) := rfl
theorem i_X1_transform_11 : am_i m_X1_transform 11 = some (11, .iconst 1, 1, [], 1) := rfl
theorem i_X1_transform_12 : am_i m_X1_transform 12 = some (12, .invokevirtual 129, 3, [54, 1], 0) := rfl
theorem i_X1_transform_21 : am_i m_X1_transform 21 = some (21, .iconst 0, 1, [], 0) := rfl
theorem i_X1_transform_22 : am_i m_X1_transform 22 = some (22, .istore_n 1, 1, [], 0) := rfl
theorem b_X1_transform_2 {a0 : Nat} {x1 x1' : Int} {h : am_H} (w1 : wr x1 = x1') (k1 : K1 h a0) : rn m_X1_transform 2 [.ref a0, .int (mI x1)] [] h = if 4 ≤ x1' then rn m_X1_transform 23 [.ref a0, .int (mI 0)] [] h else cl m_X1_transform 15 [.ref a0, .int (mI x1)] [] (rn m_X1_transformLine 0 [.ref a0, .int (mI (4 * x1)), .int (mI 1), am_J, am_J, am_J, am_J] [] h) := by
  refine (tq_iload_n i_X1_transform_2 rfl rfl).trans ?_
  refine (tq_iconst i_X1_transform_3 rfl).trans ?_
  refine (tq_icmp_ge (pt := 21) i_X1_transform_4 w1 w_4 (by decide) rfl).trans ?_
  refine ite_congr rfl (fun c1 => ?_) (fun c1 => ?_)
  · refine (tq_iconst i_X1_transform_21 rfl).trans ?_
    refine (tq_istore_n (L' := [.ref a0, .int (mI 0)]) i_X1_transform_22 rfl rfl).trans ?_
    rfl
  · refine (tq_aload_n i_X1_transform_7 rfl (isA_ref _) rfl).trans ?_
    refine (tq_iconst i_X1_transform_8 rfl).trans ?_
    refine (tq_iload_n i_X1_transform_9 rfl rfl).trans ?_
    refine (tq_imul i_X1_transform_10 rfl).trans ?_
    refine (tq_iconst i_X1_transform_11 rfl).trans ?_
    exact c_X1_transformLine i_X1_transform_12 (K1_s k1) (ltd d_X1_transform (by decide)) stOk_0 rfl
theorem i_X1_transform_15 : am_i m_X1_transform 15 = some (15, .iinc 1 1, 3, [], 0) := rfl
theorem i_X1_transform_18 : am_i m_X1_transform 18 = some (18, .goto (-16), 3, [], 0) := rfl
theorem b_X1_transform_15 {a0 : Nat} {x1 : Int} {h : am_H} : rn m_X1_transform 15 [.ref a0, .int (mI x1)] [] h = rn m_X1_transform 2 [.ref a0, .int (mI (x1 + 1))] [] h := by
  refine (tq_iinc (L' := [.ref a0, .int (mI (x1 + 1))]) i_X1_transform_15 rfl rfl rfl).trans ?_
  refine (tq_goto (pc' := 2) i_X1_transform_18 (by decide)).trans ?_
  rfl
theorem i_X1_transform_23 : am_i m_X1_transform 23 = some (23, .iload_n 1, 1, [], 0) := rfl
theorem i_X1_transform_24 : am_i m_X1_transform 24 = some (24, .iconst 4, 1, [], 4) := rfl
theorem i_X1_transform_25 : am_i m_X1_transform 25 = some (25, .if_icmp .ge 15, 3, [], 0) := rfl
theorem i_X1_transform_28 : am_i m_X1_transform 28 = some (28, .aload_n 0, 1, [], 0) := rfl
theorem i_X1_transform_29 : am_i m_X1_transform 29 = some (29, .iload_n 1, 1, [], 0) := rfl
theorem i_X1_transform_30 : am_i m_X1_transform 30 = some (30, .iconst 4, 1, [], 4) := rfl
theorem i_X1_transform_31 : am_i m_X1_transform 31 = some (31, .invokevirtual 129, 3, [54, 1], 0) := rfl
theorem i_X1_transform_40 : am_i m_X1_transform 40 = some (40, .return_, 1, [], 0) := rfl
theorem b_X1_transform_23 {a0 : Nat} {x1 x1' : Int} {h : am_H} (w1 : wr x1 = x1') (k1 : K1 h a0) : rn m_X1_transform 23 [.ref a0, .int (mI x1)] [] h = if 4 ≤ x1' then some (.inl none, h) else cl m_X1_transform 34 [.ref a0, .int (mI x1)] [] (rn m_X1_transformLine 0 [.ref a0, .int (mI x1), .int (mI 4), am_J, am_J, am_J, am_J] [] h) := by
  refine (tq_iload_n i_X1_transform_23 rfl rfl).trans ?_
  refine (tq_iconst i_X1_transform_24 rfl).trans ?_
  refine (tq_icmp_ge (pt := 40) i_X1_transform_25 w1 w_4 (by decide) rfl).trans ?_
  refine ite_congr rfl (fun c1 => ?_) (fun c1 => ?_)
  · exact tq_return i_X1_transform_40 r_X1_transform
  · refine (tq_aload_n i_X1_transform_28 rfl (isA_ref _) rfl).trans ?_
    refine (tq_iload_n i_X1_transform_29 rfl rfl).trans ?_
    refine (tq_iconst i_X1_transform_30 rfl).trans ?_
    exact c_X1_transformLine i_X1_transform_31 (K1_s k1) (ltd d_X1_transform (by decide)) stOk_0 rfl
theorem i_X1_transform_34 : am_i m_X1_transform 34 = some (34, .iinc 1 1, 3, [], 0) := rfl
theorem i_X1_transform_37 : am_i m_X1_transform 37 = some (37, .goto (-14), 3, [], 0) := rfl
theorem b_X1_transform_34 {a0 : Nat} {x1 : Int} {h : am_H} : rn m_X1_transform 34 [.ref a0, .int (mI x1)] [] h = rn m_X1_transform 23 [.ref a0, .int (mI (x1 + 1))] [] h := by
  refine (tq_iinc (L' := [.ref a0, .int (mI (x1 + 1))]) i_X1_transform_34 rfl rfl rfl).trans ?_
  refine (tq_goto (pc' := 23) i_X1_transform_37 (by decide)).trans ?_
  rfl
theorem transform_ok {h : am_H} {B : Nat} {s : Int → Int} (kB : K1 h B) (hs : ∀ j, 0 ≤ j → j < 16 → gZ h (B + 8) j = s j) (hb : ∀ j, 0 ≤ j → j < 16 → -100000 ≤ s j ∧ s j ≤ 100000) : ∃ h', rn m_X1_transform 0 [.ref B, am_J] [] h = some (.inl none, h') ∧ Md (fun c _ => c = B + 8) h h' ∧ ∀ j, 0 ≤ j → j < 16 → gZ h' (B + 8) j = hd s j := by
  have rb : ∀ j, 0 ≤ j → j < 16 → -400000 ≤ rowf s j ∧ rowf s j ≤ 400000 := by
    intro j j0 j1
    have := h4_b (i := j % 4) (m := 100000) (hb (4 * (j / 4)) (by omega) (by omega)) (hb (4 * (j / 4) + 1) (by omega) (by omega)) (hb (4 * (j / 4) + 2) (by omega) (by omega)) (hb (4 * (j / 4) + 3) (by omega) (by omega))
    unfold rowf
    omega
  rw [b_X1_transform_0]
  refine lp (m := m_X1_transform) (pc := 2) (L := fun i (_ : Unit) => [.ref B, .int (mI i)]) (N := 4) (P := fun r => ∃ h', r = some (.inl none, h') ∧ Md (fun c _ => c = B + 8) h h' ∧ ∀ j, 0 ≤ j → j < 16 → gZ h' (B + 8) j = hd s j) (fun i _ h' => 0 ≤ i ∧ Md (fun c _ => c = B + 8) h h' ∧ ∀ j, 0 ≤ j → j < 16 → gZ h' (B + 8) j = if j < 4 * i then rowf s j else s j) ?_ ?_ 0 () h (by omega) ⟨by omega, Md_rf _ _, fun j j0 j1 => by rw [if_neg (by omega)]; exact hs j j0 j1⟩
  · intro i _ h' hi ⟨i0, md, hh⟩
    have g := fun u (u0 : 0 ≤ u ∧ u < 4) => (hh (4 * i + u) (by omega) (by omega)).trans (if_neg (by omega))
    have bg := fun u (u0 : 0 ≤ u ∧ u < 4) => hb (4 * i + u) (by omega) (by omega)
    have kB' := K1_sm md.1 kB
    have g0 : gZ h' (B + 8) (4 * i) = s (4 * i) := by have := g 0 (by omega); rw [Int.add_zero] at this; exact this
    have g1 : gZ h' (B + 8) (4 * i + 1) = s (4 * i + 1) := g 1 (by omega)
    have g2 : gZ h' (B + 8) (4 * i + 2 * 1) = s (4 * i + 2) := g 2 (by omega)
    have g3 : gZ h' (B + 8) (4 * i + 3 * 1) = s (4 * i + 3) := g 3 (by omega)
    obtain ⟨h2, e, m2, r0, r1, r2, r3, ro⟩ := transformLine_ok (p := 4 * i) (d := 1) kB' (by omega) (Or.inl rfl) (by omega) g0 g1 g2 g3 (by have := bg 0 (by omega); rw [Int.add_zero] at this; unfold big; omega) (by have := bg 1 (by omega); unfold big; omega) (by have := bg 2 (by omega); unfold big; omega) (by have := bg 3 (by omega); unfold big; omega)
    refine ⟨(), h2, ?_, by omega, Md_tr md m2, fun j j0 j1 => ?_⟩
    · rw [b_X1_transform_2 (wr_id (by omega) (by omega)) kB', if_neg (by omega), e, cl_n, b_X1_transform_15]
    · by_cases q : 4 * i ≤ j ∧ j < 4 * i + 4
      · rw [if_pos (by omega)]
        have : j = 4 * i ∨ j = 4 * i + 1 ∨ j = 4 * i + 2 ∨ j = 4 * i + 3 := by omega
        rcases this with rfl | rfl | rfl | rfl
        · rw [r0, show rowf s (4 * i) = rowf s (4 * i + 0) by rw [Int.add_zero], rowf_at s (by omega)]
          rfl
        · rw [r1, rowf_at s (by omega)]
          rfl
        · rw [show (2 : Int) * 1 = 2 by omega] at r2
          rw [r2, rowf_at s (by omega)]
          rfl
        · rw [show (3 : Int) * 1 = 3 by omega] at r3
          rw [r3, rowf_at s (by omega)]
          rfl
      · rw [ro j (by omega) (by omega) (by omega) (by omega), hh j j0 j1]
        by_cases q2 : j < 4 * i
        · rw [if_pos q2, if_pos (by omega)]
        · rw [if_neg q2, if_neg (by omega)]
  · intro _ h' ⟨i0, md, hh⟩
    rw [b_X1_transform_2 (wr_id (by omega) (by omega)) (K1_sm md.1 kB), if_pos (by omega)]
    refine lp (m := m_X1_transform) (pc := 23) (L := fun i (_ : Unit) => [.ref B, .int (mI i)]) (N := 4) (P := fun r => ∃ h', r = some (.inl none, h') ∧ Md (fun c _ => c = B + 8) h h' ∧ ∀ j, 0 ≤ j → j < 16 → gZ h' (B + 8) j = hd s j) (fun i _ h' => 0 ≤ i ∧ Md (fun c _ => c = B + 8) h h' ∧ ∀ j, 0 ≤ j → j < 16 → gZ h' (B + 8) j = if j % 4 < i then hd s j else rowf s j) ?_ ?_ 0 () h' (by omega) ⟨by omega, md, fun j j0 j1 => by rw [if_neg (by omega), hh j j0 j1, if_pos (by omega)]⟩
    · intro i _ h' hi ⟨i0, md, hh⟩
      have g := fun u (u0 : 0 ≤ u ∧ u < 4) => (hh (i + u * 4) (by omega) (by omega)).trans (if_neg (by omega))
      have bg := fun u (u0 : 0 ≤ u ∧ u < 4) => rb (i + u * 4) (by omega) (by omega)
      have kB' := K1_sm md.1 kB
      have g0 : gZ h' (B + 8) i = rowf s i := by have := g 0 (by omega); rw [show i + 0 * 4 = i by omega] at this; exact this
      have g1 : gZ h' (B + 8) (i + 4) = rowf s (i + 4) := by have := g 1 (by omega); rw [show i + 1 * 4 = i + 4 by omega] at this; exact this
      have g2 : gZ h' (B + 8) (i + 2 * 4) = rowf s (i + 8) := g 2 (by omega)
      have g3 : gZ h' (B + 8) (i + 3 * 4) = rowf s (i + 12) := g 3 (by omega)
      obtain ⟨h2, e, m2, r0, r1, r2, r3, ro⟩ := transformLine_ok (p := i) (d := 4) kB' (by omega) (Or.inr rfl) (by omega) g0 g1 g2 g3 (by have := bg 0 (by omega); rw [show i + 0 * 4 = i by omega] at this; unfold big; omega) (by have := bg 1 (by omega); rw [show i + 1 * 4 = i + 4 by omega] at this; unfold big; omega) (by have := bg 2 (by omega); rw [show i + 2 * 4 = i + 8 by omega] at this; unfold big; omega) (by have := bg 3 (by omega); rw [show i + 3 * 4 = i + 12 by omega] at this; unfold big; omega)
      refine ⟨(), h2, ?_, by omega, Md_tr md m2, fun j j0 j1 => ?_⟩
      · rw [b_X1_transform_23 (wr_id (by omega) (by omega)) kB', if_neg (by omega), e, cl_n, b_X1_transform_34]
      · by_cases q : j % 4 = i
        · rw [if_pos (by omega), hd_row, q]
          have : j = i ∨ j = i + 4 ∨ j = i + 2 * 4 ∨ j = i + 3 * 4 := by omega
          rcases this with e | e | e | e
          · rw [e, r0, show i / 4 = 0 by omega]
            rfl
          · rw [e, r1, show (i + 4) / 4 = 1 by omega]
            rfl
          · rw [e, r2, show (i + 2 * 4) / 4 = 2 by omega]
            rfl
          · rw [e, r3, show (i + 3 * 4) / 4 = 3 by omega]
            rfl
        · rw [ro j (by omega) (by omega) (by omega) (by omega), hh j j0 j1]
          by_cases q2 : j % 4 < i
          · rw [if_pos q2, if_pos (by omega)]
          · rw [if_neg q2, if_neg (by omega)]
    · intro _ h' ⟨i0, md, hh⟩
      rw [b_X1_transform_23 (wr_id (by omega) (by omega)) (K1_sm md.1 kB), if_pos (by omega)]
      exact ⟨h', rfl, md, fun j j0 j1 => by rw [hh j j0 j1, if_pos (by omega)]⟩
theorem i_X1_levelOf_0 : am_i m_X1_levelOf 0 = some (0, .iload_n 1, 1, [], 0) := rfl
theorem i_X1_levelOf_1 : am_i m_X1_levelOf 1 = some (1, .iconst 1, 1, [], 1) := rfl
theorem i_X1_levelOf_2 : am_i m_X1_levelOf 2 = some (2, .if_icmp .ge 5, 3, [], 0) := rfl
theorem i_X1_levelOf_5 : am_i m_X1_levelOf 5 = some (5, .iconst 0, 1, [], 0) := rfl
theorem i_X1_levelOf_6 : am_i m_X1_levelOf 6 = some (6, .ireturn, 1, [], 0) := rfl
theorem i_X1_levelOf_7 : am_i m_X1_levelOf 7 = some (7, .iload_n 0, 1, [], 0) := rfl
theorem i_X1_levelOf_8 : am_i m_X1_levelOf 8 = some (8, .invokestatic 107, 3, [0, 0], 0) := rfl
theorem i_X1_levelOf_11 : am_i m_X1_levelOf 11 = some (11, .iload_n 1, 1, [], 0) := rfl
theorem i_X1_levelOf_12 : am_i m_X1_levelOf 12 = some (12, .iadd, 1, [], 0) := rfl
theorem i_X1_levelOf_13 : am_i m_X1_levelOf 13 = some (13, .iconst 4, 1, [], 4) := rfl
theorem i_X1_levelOf_14 : am_i m_X1_levelOf 14 = some (14, .iload_n 1, 1, [], 0) := rfl
theorem i_X1_levelOf_15 : am_i m_X1_levelOf 15 = some (15, .imul, 1, [], 0) := rfl
theorem i_X1_levelOf_16 : am_i m_X1_levelOf 16 = some (16, .idiv, 1, [], 0) := rfl
theorem i_X1_levelOf_17 : am_i m_X1_levelOf 17 = some (17, .istore_n 2, 1, [], 0) := rfl
theorem i_X1_levelOf_18 : am_i m_X1_levelOf 18 = some (18, .iload_n 0, 1, [], 0) := rfl
theorem i_X1_levelOf_19 : am_i m_X1_levelOf 19 = some (19, .ifCond .ge 8, 3, [], 0) := rfl
theorem i_X1_levelOf_22 : am_i m_X1_levelOf 22 = some (22, .iload_n 2, 1, [], 0) := rfl
theorem i_X1_levelOf_23 : am_i m_X1_levelOf 23 = some (23, .ineg, 1, [], 0) := rfl
theorem i_X1_levelOf_24 : am_i m_X1_levelOf 24 = some (24, .goto 4, 3, [], 0) := rfl
theorem i_X1_levelOf_27 : am_i m_X1_levelOf 27 = some (27, .iload_n 2, 1, [], 0) := rfl
theorem i_X1_levelOf_28 : am_i m_X1_levelOf 28 = some (28, .ireturn, 1, [], 0) := rfl
theorem b_X1_levelOf_0 {x0 x1 x0' x1' : Int} {h : am_H} (w0 : wr x0 = x0') (w1 : wr x1 = x1') (g1 : (1 ≤ x1') → (wr (4 * x1) ≠ 0)) : rn m_X1_levelOf 0 [.int (mI x0), .int (mI x1), am_J] [] h = if 1 ≤ x1' then some (.inl (some (.int (mI (if 0 ≤ x0' then Int.tdiv (wr ((max x0' (-x0')) + x1)) (wr (4 * x1)) else -(Int.tdiv (wr ((max x0' (-x0')) + x1)) (wr (4 * x1))))))), h) else some (.inl (some (.int (mI 0))), h) := by
  refine (tq_iload_n i_X1_levelOf_0 rfl rfl).trans ?_
  refine (tq_iconst i_X1_levelOf_1 rfl).trans ?_
  refine (tq_icmp_ge (pt := 7) i_X1_levelOf_2 w1 w_1 (by decide) rfl).trans ?_
  refine ite_congr rfl (fun c1 => ?_) (fun c1 => ?_)
  · refine (tq_iload_n i_X1_levelOf_7 rfl rfl).trans ?_
    refine (tq_abs i_X1_levelOf_8 w0 (Nat.le_of_ble_eq_true rfl) rfl).trans ?_
    refine (tq_iload_n i_X1_levelOf_11 rfl rfl).trans ?_
    refine (tq_iadd i_X1_levelOf_12 rfl).trans ?_
    refine (tq_iconst i_X1_levelOf_13 rfl).trans ?_
    refine (tq_iload_n i_X1_levelOf_14 rfl rfl).trans ?_
    refine (tq_imul i_X1_levelOf_15 rfl).trans ?_
    refine (tq_idiv i_X1_levelOf_16 rfl rfl (g1 c1) rfl).trans ?_
    refine (tq_istore_n (L' := [.int (mI x0), .int (mI x1), .int (mI (Int.tdiv (wr ((max x0' (-x0')) + x1)) (wr (4 * x1))))]) i_X1_levelOf_17 rfl rfl).trans ?_
    refine (tq_iload_n i_X1_levelOf_18 rfl rfl).trans ?_
    refine (tq_if_ge (pt := 27) i_X1_levelOf_19 w0 (by decide) rfl).trans ?_
    refine Eq.trans (b := if 0 ≤ x0' then rn m_X1_levelOf 28 [.int (mI x0), .int (mI x1), .int (mI (Int.tdiv (wr ((max x0' (-x0')) + x1)) (wr (4 * x1))))] [.int (mI (Int.tdiv (wr ((max x0' (-x0')) + x1)) (wr (4 * x1))))] h else rn m_X1_levelOf 28 [.int (mI x0), .int (mI x1), .int (mI (Int.tdiv (wr ((max x0' (-x0')) + x1)) (wr (4 * x1))))] [.int (mI (-(Int.tdiv (wr ((max x0' (-x0')) + x1)) (wr (4 * x1)))))] h) (ite_congr rfl (fun c2 => ?_) (fun c2 => ?_)) ?_
    · refine (tq_iload_n i_X1_levelOf_27 rfl rfl).trans ?_
      rfl
    · refine (tq_iload_n i_X1_levelOf_22 rfl rfl).trans ?_
      refine (tq_ineg i_X1_levelOf_23 rfl).trans ?_
      refine (tq_goto (pc' := 28) i_X1_levelOf_24 (by decide)).trans ?_
      rfl
    refine Eq.trans ite_I ?_
    exact tq_ireturn i_X1_levelOf_28 r_X1_levelOf rfl
  · refine (tq_iconst i_X1_levelOf_5 rfl).trans ?_
    exact tq_ireturn i_X1_levelOf_6 r_X1_levelOf rfl
theorem lev_b {q co : Int} (hq : 1 ≤ q ∧ q ≤ 40) (hc : -5000 ≤ co ∧ co ≤ 5000) : -2000 ≤ lev q co ∧ lev q co ≤ 2000 := by
  unfold lev iabs
  have h1 : 0 ≤ (max co (-co) + q) / (4 * q) := Int.ediv_nonneg (by omega) (by omega)
  have h2 : (max co (-co) + q) / (4 * q) ≤ 2000 := by
    refine Int.ediv_le_of_le_mul (by omega) ?_
    omega
  split <;> omega
theorem levelOf_ok {h : am_H} {co q : Int} (hq : 1 ≤ q ∧ q ≤ 40) (hc : -5000 ≤ co ∧ co ≤ 5000) : rn m_X1_levelOf 0 [.int (mI co), .int (mI q), am_J] [] h = some (.inl (some (.int (mI (lev q co)))), h) := by
  have w1 : wr (4 * q) = 4 * q := wr_id (by omega) (by omega)
  have w2 : wr (max co (-co) + q) = max co (-co) + q := wr_id (by omega) (by omega)
  rw [b_X1_levelOf_0 (wr_id (by omega) (by omega)) (wr_id (by omega) (by omega)) (fun _ => by rw [w1]; omega), if_pos hq.1, w1, w2, tdv (by omega)]
  unfold lev iabs
  by_cases c : 0 ≤ co
  · rw [if_pos c, if_neg (by omega)]
  · rw [if_neg c, if_pos (by omega)]
theorem i_X1_levelSquare_0 : am_i m_X1_levelSquare 0 = some (0, .iconst 0, 1, [], 0) := rfl
theorem i_X1_levelSquare_1 : am_i m_X1_levelSquare 1 = some (1, .istore 4, 2, [], 0) := rfl
theorem b_X1_levelSquare_0 {a0 a1 a2 : Nat} {x3 : Int} {h : am_H} : rn m_X1_levelSquare 0 [.ref a0, .ref a1, .ref a2, .int (mI x3), am_J, am_J] [] h = rn m_X1_levelSquare 3 [.ref a0, .ref a1, .ref a2, .int (mI x3), .int (mI 0), am_J] [] h := by
  refine (tq_iconst i_X1_levelSquare_0 rfl).trans ?_
  refine (tq_istore (L' := [.ref a0, .ref a1, .ref a2, .int (mI x3), .int (mI 0), am_J]) i_X1_levelSquare_1 rfl rfl).trans ?_
  rfl
theorem i_X1_levelSquare_3 : am_i m_X1_levelSquare 3 = some (3, .iload 4, 2, [], 0) := rfl
theorem i_X1_levelSquare_5 : am_i m_X1_levelSquare 5 = some (5, .aload_n 0, 1, [], 0) := rfl
theorem i_X1_levelSquare_6 : am_i m_X1_levelSquare 6 = some (6, .getfield 38, 3, [1, 7, 0], 0) := rfl
theorem i_X1_levelSquare_9 : am_i m_X1_levelSquare 9 = some (9, .arraylength, 1, [], 0) := rfl
theorem i_X1_levelSquare_10 : am_i m_X1_levelSquare 10 = some (10, .if_icmp .ge 41, 3, [], 0) := rfl
theorem i_X1_levelSquare_13 : am_i m_X1_levelSquare 13 = some (13, .iload_n 3, 1, [], 0) := rfl
theorem i_X1_levelSquare_14 : am_i m_X1_levelSquare 14 = some (14, .iload 4, 2, [], 0) := rfl
theorem i_X1_levelSquare_16 : am_i m_X1_levelSquare 16 = some (16, .invokestatic 112, 3, [7], 0) := rfl
theorem i_X1_levelSquare_19 : am_i m_X1_levelSquare 19 = some (19, .iadd, 1, [], 0) := rfl
theorem i_X1_levelSquare_20 : am_i m_X1_levelSquare 20 = some (20, .istore 5, 2, [], 0) := rfl
theorem i_X1_levelSquare_22 : am_i m_X1_levelSquare 22 = some (22, .aload_n 0, 1, [], 0) := rfl
theorem i_X1_levelSquare_23 : am_i m_X1_levelSquare 23 = some (23, .getfield 38, 3, [1, 7, 0], 0) := rfl
theorem i_X1_levelSquare_26 : am_i m_X1_levelSquare 26 = some (26, .iload 4, 2, [], 0) := rfl
theorem i_X1_levelSquare_28 : am_i m_X1_levelSquare 28 = some (28, .aload_n 2, 1, [], 0) := rfl
theorem i_X1_levelSquare_29 : am_i m_X1_levelSquare 29 = some (29, .iload 5, 2, [], 0) := rfl
theorem i_X1_levelSquare_31 : am_i m_X1_levelSquare 31 = some (31, .invokestatic 69, 3, [32], 0) := rfl
theorem i_X1_levelSquare_34 : am_i m_X1_levelSquare 34 = some (34, .aload_n 0, 1, [], 0) := rfl
theorem i_X1_levelSquare_35 : am_i m_X1_levelSquare 35 = some (35, .getfield 35, 3, [1, 6, 0], 0) := rfl
theorem i_X1_levelSquare_38 : am_i m_X1_levelSquare 38 = some (38, .iload 5, 2, [], 0) := rfl
theorem i_X1_levelSquare_40 : am_i m_X1_levelSquare 40 = some (40, .invokestatic 69, 3, [32], 0) := rfl
theorem i_X1_levelSquare_43 : am_i m_X1_levelSquare 43 = some (43, .isub, 1, [], 0) := rfl
theorem i_X1_levelSquare_44 : am_i m_X1_levelSquare 44 = some (44, .iastore, 1, [], 0) := rfl
theorem i_X1_levelSquare_45 : am_i m_X1_levelSquare 45 = some (45, .iinc 4 1, 3, [], 0) := rfl
theorem i_X1_levelSquare_48 : am_i m_X1_levelSquare 48 = some (48, .goto (-45), 3, [], 0) := rfl
theorem i_X1_levelSquare_51 : am_i m_X1_levelSquare 51 = some (51, .aload_n 0, 1, [], 0) := rfl
theorem i_X1_levelSquare_52 : am_i m_X1_levelSquare 52 = some (52, .invokevirtual 115, 3, [79, 1], 0) := rfl
theorem b_X1_levelSquare_3 {a0 a1 a2 n_a2 : Nat} {x3 x4 x4' : Int} {v5 : Value} {h : am_H} (w4 : wr x4 = x4') (k1 : K1 h a0) (g2 : (¬ ((16 : Int) ≤ x4')) → (0 ≤ x4' ∧ x4' < 16)) (n3 : gn h a2 = n_a2) (s4 : sh h a2 = (1, 0)) (g5 : (¬ ((16 : Int) ≤ x4')) → (0 ≤ (wr (x3 + (ip x4'))) ∧ (wr (x3 + (ip x4'))) < (n_a2 : Int))) (g6 : (¬ ((16 : Int) ≤ x4')) → (0 ≤ (wr (x3 + (ip x4'))) ∧ (wr (x3 + (ip x4'))) < (256 : Int))) (g7 : (¬ ((16 : Int) ≤ x4')) → (0 ≤ x4' ∧ x4' < (16 : Int))) : rn m_X1_levelSquare 3 [.ref a0, .ref a1, .ref a2, .int (mI x3), .int (mI x4), v5] [] h = if (16 : Int) ≤ x4' then cl m_X1_levelSquare 55 [.ref a0, .ref a1, .ref a2, .int (mI x3), .int (mI x4), v5] [] (rn m_X1_transform 0 [.ref a0, am_J] [] h) else rn m_X1_levelSquare 3 [.ref a0, .ref a1, .ref a2, .int (mI x3), .int (mI (x4 + 1)), .int (mI (x3 + (ip x4')))] [] (uZ h (a0 + 8) x4' ((gZ h a2 (wr (x3 + (ip x4')))) - (gZ h (a0 + 7) (wr (x3 + (ip x4')))))) := by
  refine (tq_iload i_X1_levelSquare_3 rfl rfl).trans ?_
  refine (tq_aload_n i_X1_levelSquare_5 rfl (isA_ref _) rfl).trans ?_
  refine (tq_getfield i_X1_levelSquare_6 (K1_s k1) (gR (g_1_7 (K1_s k1)) (K1_e7 k1)) (isV_ref _) rfl).trans ?_
  refine (tq_alen i_X1_levelSquare_9 (K1_s7 k1) (by decide) (by decide) rfl).trans ?_
  rw [(K1_n7 k1)]
  refine (tq_icmp_ge (pt := 51) i_X1_levelSquare_10 w4 (wr_len (K1_s7 k1) (K1_n7 k1) (by decide) (by decide)) (by decide) rfl).trans ?_
  refine ite_congr rfl (fun c1 => ?_) (fun c1 => ?_)
  · refine (tq_aload_n i_X1_levelSquare_51 rfl (isA_ref _) rfl).trans ?_
    exact c_X1_transform i_X1_levelSquare_52 (K1_s k1) (ltd d_X1_levelSquare (by decide)) stOk_0 rfl
  · refine (tq_iload_n i_X1_levelSquare_13 rfl rfl).trans ?_
    refine (tq_iload i_X1_levelSquare_14 rfl rfl).trans ?_
    refine (c_X11_inPicture i_X1_levelSquare_16 (ltd d_X1_levelSquare (by decide)) (stOk_1 _) rfl).trans ?_
    refine (congrArg (cl _ _ _ _) (inPicture_ok w4 (g2 c1))).trans ?_
    refine (cl_v _ _ _ _ _ _).trans ?_
    refine (tq_iadd i_X1_levelSquare_19 rfl).trans ?_
    refine (tq_istore (L' := [.ref a0, .ref a1, .ref a2, .int (mI x3), .int (mI x4), .int (mI (x3 + (ip x4')))]) i_X1_levelSquare_20 rfl rfl).trans ?_
    refine (tq_aload_n i_X1_levelSquare_22 rfl (isA_ref _) rfl).trans ?_
    refine (tq_getfield i_X1_levelSquare_23 (K1_s k1) (gR (g_1_7 (K1_s k1)) (K1_e7 k1)) (isV_ref _) rfl).trans ?_
    refine (tq_iload i_X1_levelSquare_26 rfl rfl).trans ?_
    refine (tq_aload_n i_X1_levelSquare_28 rfl (isA_ref _) rfl).trans ?_
    refine (tq_iload i_X1_levelSquare_29 rfl rfl).trans ?_
    refine (c_X7_get i_X1_levelSquare_31 (ltd d_X1_levelSquare (by decide)) (isA_ref _) (stOk_2 _ _) rfl).trans ?_
    refine (congrArg (cl _ _ _ _) (get_ok rfl n3 s4 (by decide) (g5 c1))).trans ?_
    refine (cl_v _ _ _ _ _ _).trans ?_
    refine (tq_aload_n i_X1_levelSquare_34 rfl (isA_ref _) rfl).trans ?_
    refine (tq_getfield i_X1_levelSquare_35 (K1_s k1) (gR (g_1_6 (K1_s k1)) (K1_e6 k1)) (isV_ref _) rfl).trans ?_
    refine (tq_iload i_X1_levelSquare_38 rfl rfl).trans ?_
    refine (c_X7_get i_X1_levelSquare_40 (ltd d_X1_levelSquare (by decide)) (isA_ref _) (stOk_3 _ _ _) rfl).trans ?_
    refine (congrArg (cl _ _ _ _) (get_ok rfl (K1_n6 k1) (K1_s6 k1) (by decide) (g6 c1))).trans ?_
    refine (cl_v _ _ _ _ _ _).trans ?_
    refine (tq_isub i_X1_levelSquare_43 rfl).trans ?_
    refine (tq_iastore i_X1_levelSquare_44 (K1_s7 k1) w4 (g7 c1).1 (lt_gn (K1_n7 k1) (g7 c1).2) rfl).trans ?_
    refine (tq_iinc (L' := [.ref a0, .ref a1, .ref a2, .int (mI x3), .int (mI (x4 + 1)), .int (mI (x3 + (ip x4')))]) i_X1_levelSquare_45 rfl rfl rfl).trans ?_
    refine (tq_goto (pc' := 3) i_X1_levelSquare_48 (by decide)).trans ?_
    rfl
theorem i_X1_levelSquare_55 : am_i m_X1_levelSquare 55 = some (55, .iconst 0, 1, [], 0) := rfl
theorem i_X1_levelSquare_56 : am_i m_X1_levelSquare 56 = some (56, .istore 4, 2, [], 0) := rfl
theorem b_X1_levelSquare_55 {a0 a1 : Nat} {v2 v4 v5 : Value} {x3 : Int} {h : am_H} : rn m_X1_levelSquare 55 [.ref a0, .ref a1, v2, .int (mI x3), v4, v5] [] h = rn m_X1_levelSquare 58 [.ref a0, .ref a1, v2, .int (mI x3), .int (mI 0), v5] [] h := by
  refine (tq_iconst i_X1_levelSquare_55 rfl).trans ?_
  refine (tq_istore (L' := [.ref a0, .ref a1, v2, .int (mI x3), .int (mI 0), v5]) i_X1_levelSquare_56 rfl rfl).trans ?_
  rfl
theorem i_X1_levelSquare_58 : am_i m_X1_levelSquare 58 = some (58, .iload 4, 2, [], 0) := rfl
theorem i_X1_levelSquare_60 : am_i m_X1_levelSquare 60 = some (60, .aload_n 0, 1, [], 0) := rfl
theorem i_X1_levelSquare_61 : am_i m_X1_levelSquare 61 = some (61, .getfield 38, 3, [1, 7, 0], 0) := rfl
theorem i_X1_levelSquare_64 : am_i m_X1_levelSquare 64 = some (64, .arraylength, 1, [], 0) := rfl
theorem i_X1_levelSquare_65 : am_i m_X1_levelSquare 65 = some (65, .if_icmp .ge 37, 3, [], 0) := rfl
theorem i_X1_levelSquare_68 : am_i m_X1_levelSquare 68 = some (68, .aload_n 1, 1, [], 0) := rfl
theorem i_X1_levelSquare_69 : am_i m_X1_levelSquare 69 = some (69, .getfield 118, 3, [6, 14, 1], 0) := rfl
theorem i_X1_levelSquare_72 : am_i m_X1_levelSquare 72 = some (72, .iload_n 3, 1, [], 0) := rfl
theorem i_X1_levelSquare_73 : am_i m_X1_levelSquare 73 = some (73, .iload 4, 2, [], 0) := rfl
theorem i_X1_levelSquare_75 : am_i m_X1_levelSquare 75 = some (75, .invokestatic 112, 3, [7], 0) := rfl
theorem i_X1_levelSquare_78 : am_i m_X1_levelSquare 78 = some (78, .iadd, 1, [], 0) := rfl
theorem i_X1_levelSquare_79 : am_i m_X1_levelSquare 79 = some (79, .aload_n 0, 1, [], 0) := rfl
theorem i_X1_levelSquare_80 : am_i m_X1_levelSquare 80 = some (80, .getfield 38, 3, [1, 7, 0], 0) := rfl
theorem i_X1_levelSquare_83 : am_i m_X1_levelSquare 83 = some (83, .iload 4, 2, [], 0) := rfl
theorem i_X1_levelSquare_85 : am_i m_X1_levelSquare 85 = some (85, .iaload, 1, [], 0) := rfl
theorem i_X1_levelSquare_86 : am_i m_X1_levelSquare 86 = some (86, .aload_n 1, 1, [], 0) := rfl
theorem i_X1_levelSquare_87 : am_i m_X1_levelSquare 87 = some (87, .getfield 123, 3, [6, 3, 1], 0) := rfl
theorem i_X1_levelSquare_90 : am_i m_X1_levelSquare 90 = some (90, .invokestatic 126, 3, [52], 0) := rfl
theorem i_X1_levelSquare_102 : am_i m_X1_levelSquare 102 = some (102, .return_, 1, [], 0) := rfl
theorem b_X1_levelSquare_58 {a0 a1 : Nat} {v2 v5 : Value} {x3 x4 x4' : Int} {h : am_H} (w4 : wr x4 = x4') (k1 : K1 h a0) (k2 : K6 h a1) (g3 : (¬ ((16 : Int) ≤ x4')) → (0 ≤ x4' ∧ x4' < 16)) (g4 : (¬ ((16 : Int) ≤ x4')) → (0 ≤ x4' ∧ x4' < (16 : Int))) : rn m_X1_levelSquare 58 [.ref a0, .ref a1, v2, .int (mI x3), .int (mI x4), v5] [] h = if (16 : Int) ≤ x4' then some (.inl none, h) else cl m_X1_levelSquare 93 [.ref a0, .ref a1, v2, .int (mI x3), .int (mI x4), v5] [.int (mI (x3 + (ip x4'))), .ref (a1 + 7)] (rn m_X1_levelOf 0 [.int (mI (gZ h (a0 + 8) x4')), .int (mI (fZ h a1 3)), am_J] [] h) := by
  refine (tq_iload i_X1_levelSquare_58 rfl rfl).trans ?_
  refine (tq_aload_n i_X1_levelSquare_60 rfl (isA_ref _) rfl).trans ?_
  refine (tq_getfield i_X1_levelSquare_61 (K1_s k1) (gR (g_1_7 (K1_s k1)) (K1_e7 k1)) (isV_ref _) rfl).trans ?_
  refine (tq_alen i_X1_levelSquare_64 (K1_s7 k1) (by decide) (by decide) rfl).trans ?_
  rw [(K1_n7 k1)]
  refine (tq_icmp_ge (pt := 102) i_X1_levelSquare_65 w4 (wr_len (K1_s7 k1) (K1_n7 k1) (by decide) (by decide)) (by decide) rfl).trans ?_
  refine ite_congr rfl (fun c1 => ?_) (fun c1 => ?_)
  · exact tq_return i_X1_levelSquare_102 r_X1_levelSquare
  · refine (tq_aload_n i_X1_levelSquare_68 rfl (isA_ref _) rfl).trans ?_
    refine (tq_getfield i_X1_levelSquare_69 (K6_s k2) (gR (g_6_14 (K6_s k2)) (K6_e14 k2)) (isV_ref _) rfl).trans ?_
    refine (tq_iload_n i_X1_levelSquare_72 rfl rfl).trans ?_
    refine (tq_iload i_X1_levelSquare_73 rfl rfl).trans ?_
    refine (c_X11_inPicture i_X1_levelSquare_75 (ltd d_X1_levelSquare (by decide)) (stOk_2 _ _) rfl).trans ?_
    refine (congrArg (cl _ _ _ _) (inPicture_ok w4 (g3 c1))).trans ?_
    refine (cl_v _ _ _ _ _ _).trans ?_
    refine (tq_iadd i_X1_levelSquare_78 rfl).trans ?_
    refine (tq_aload_n i_X1_levelSquare_79 rfl (isA_ref _) rfl).trans ?_
    refine (tq_getfield i_X1_levelSquare_80 (K1_s k1) (gR (g_1_7 (K1_s k1)) (K1_e7 k1)) (isV_ref _) rfl).trans ?_
    refine (tq_iload i_X1_levelSquare_83 rfl rfl).trans ?_
    refine (tq_iaload i_X1_levelSquare_85 (K1_s7 k1) (by decide) w4 (g4 c1).1 (lt_gn (K1_n7 k1) (g4 c1).2) rfl).trans ?_
    refine (tq_aload_n i_X1_levelSquare_86 rfl (isA_ref _) rfl).trans ?_
    refine (tq_getfield i_X1_levelSquare_87 (K6_s k2) (g_6_3 (K6_s k2)) (isV_I _) rfl).trans ?_
    exact c_X1_levelOf i_X1_levelSquare_90 (ltd d_X1_levelSquare (by decide)) (stOk_2 _ _) rfl
theorem i_X1_levelSquare_93 : am_i m_X1_levelSquare 93 = some (93, .invokestatic 59, 3, [33], 0) := rfl
theorem i_X1_levelSquare_96 : am_i m_X1_levelSquare 96 = some (96, .iinc 4 1, 3, [], 0) := rfl
theorem i_X1_levelSquare_99 : am_i m_X1_levelSquare 99 = some (99, .goto (-41), 3, [], 0) := rfl
theorem b_X1_levelSquare_93 {a0 a1 as2 n_as2 : Nat} {v2 v5 : Value} {x3 x4 xs0 xs1 xs1' : Int} {h : am_H} (ws1 : wr xs1 = xs1') (n1 : gn h as2 = n_as2) (s2 : sh h as2 = (1, 0)) (g3 : 0 ≤ xs1' ∧ xs1' < (n_as2 : Int)) : rn m_X1_levelSquare 93 [.ref a0, .ref a1, v2, .int (mI x3), .int (mI x4), v5] [.int (mI xs0), .int (mI xs1), .ref as2] h = rn m_X1_levelSquare 58 [.ref a0, .ref a1, v2, .int (mI x3), .int (mI (x4 + 1)), v5] [] (uZ h as2 xs1' xs0) := by
  refine (c_X7_put i_X1_levelSquare_93 (ltd d_X1_levelSquare (by decide)) (isA_ref _) stOk_0 rfl).trans ?_
  refine (congrArg (cl _ _ _ _) (put_ok ws1 n1 s2 g3)).trans ?_
  refine (cl_n _ _ _ _ _).trans ?_
  refine (tq_iinc (L' := [.ref a0, .ref a1, v2, .int (mI x3), .int (mI (x4 + 1)), v5]) i_X1_levelSquare_96 rfl rfl rfl).trans ?_
  refine (tq_goto (pc' := 58) i_X1_levelSquare_99 (by decide)).trans ?_
  rfl
theorem ip_inj {f j k : Int} (hj : 0 ≤ j ∧ j < 16) (hk : 0 ≤ k ∧ k < 16) (e : f + ip j = f + ip k) : j = k := by unfold ip at e; omega
theorem levelSquare_ok {h : am_H} {B D a n : Nat} {f q : Int} (kB : K1 h B) (kD : K6 h D) (s : sh h a = (1, 0)) (n1 : gn h a = n) (hn : 256 ≤ (n : Int)) (hDB : D + 8 < B ∨ B + 8 < D) (aB : a < B ∨ B + 8 < a) (aD : a < D ∨ D + 8 < a) (hf : 0 ≤ f ∧ f + 51 < 256) (hc : pixels (gZ h a)) (hg : ∀ k, 0 ≤ k → k < 16 → 0 ≤ gZ h (B + 7) (f + ip k) ∧ gZ h (B + 7) (f + ip k) ≤ 255) (eq : fZ h D 3 = q) (hq : 1 ≤ q ∧ q ≤ 40) : ∃ h', rn m_X1_levelSquare 0 [.ref B, .ref D, .ref a, .int (mI f), am_J, am_J] [] h = some (.inl none, h') ∧ Md (fun c _ => c = B + 8 ∨ c = D + 7) h h' ∧ (∀ k, 0 ≤ k → k < 16 → gZ h' (D + 7) (f + ip k) = lev q (hd (fun j => gZ h a (f + ip j) - gZ h (B + 7) (f + ip j)) k)) ∧ ∀ i, (∀ k, 0 ≤ k → k < 16 → i ≠ f + ip k) → gZ h' (D + 7) i = gZ h (D + 7) i := by
  have db : ∀ k, 0 ≤ k → k < 16 → -255 ≤ gZ h a (f + ip k) - gZ h (B + 7) (f + ip k) ∧ gZ h a (f + ip k) - gZ h (B + 7) (f + ip k) ≤ 255 := fun k k0 k1 => by
    have h1 := hg k k0 k1
    have h3 := ip_b k
    have h2 := hc (f + ip k) (by omega) (by omega)
    omega
  rw [b_X1_levelSquare_0]
  refine lp (m := m_X1_levelSquare) (pc := 3) (L := fun i (v : Value) => [.ref B, .ref D, .ref a, .int (mI f), .int (mI i), v]) (N := 16) (P := fun r => ∃ h', r = some (.inl none, h') ∧ Md (fun c _ => c = B + 8 ∨ c = D + 7) h h' ∧ (∀ k, 0 ≤ k → k < 16 → gZ h' (D + 7) (f + ip k) = lev q (hd (fun j => gZ h a (f + ip j) - gZ h (B + 7) (f + ip j)) k)) ∧ ∀ i, (∀ k, 0 ≤ k → k < 16 → i ≠ f + ip k) → gZ h' (D + 7) i = gZ h (D + 7) i) (fun i _ h' => 0 ≤ i ∧ Md (fun c _ => c = B + 8) h h' ∧ ∀ j, 0 ≤ j → j < i → gZ h' (B + 8) j = gZ h a (f + ip j) - gZ h (B + 7) (f + ip j)) ?_ ?_ 0 am_J h (by omega) ⟨by omega, Md_rf _ _, fun j j0 j1 => by omega⟩
  · intro i v h' hi ⟨i0, md, hh⟩
    have kB' := K1_sm md.1 kB
    have hi2 := ip_b i
    have wi : wr (f + ip i) = f + ip i := wr_id (by omega) (by omega)
    have st := b_X1_levelSquare_3 (a0 := B) (a1 := D) (a2 := a) (x3 := f) (v5 := v) (h := h') (wr_id (z := i) (by omega) (by omega)) kB' (fun _ => ⟨i0, hi⟩) ((md_gn md _).trans n1) ((md_sh md _).trans s)
    rw [wi] at st
    have st := st (fun _ => by omega) (fun _ => by omega) (fun _ => ⟨i0, hi⟩)
    rw [if_neg (by omega), md_gZ md (by omega), md_gZ md (by omega)] at st
    refine ⟨_, _, st, by omega, Md_tr md (Md_uZ _ _ _ _), fun j j0 j1 => ?_⟩
    rw [gZ_uZ' (sh1 (K1_s7 kB'))]
    by_cases e : j = i
    · have := db i i0 (by omega)
      rw [if_pos e, wr_id (by omega) (by omega), e]
    · rw [if_neg e]
      exact hh j j0 (by omega)
  · intro v h' ⟨i0, md, hh⟩
    have kB' := K1_sm md.1 kB
    have st := b_X1_levelSquare_3 (a0 := B) (a1 := D) (a2 := a) (x3 := f) (v5 := v) (h := h') (wr_id (z := 16) (by omega) (by omega)) kB' (fun _ => by omega) ((md_gn md _).trans n1) ((md_sh md _).trans s) (fun _ => by omega) (fun _ => by omega) (fun _ => by omega)
    rw [if_pos (by omega)] at st
    obtain ⟨h2, e2, m2, r2⟩ := transform_ok (s := fun j => gZ h a (f + ip j) - gZ h (B + 7) (f + ip j)) kB' (fun j j0 j1 => hh j j0 j1) (fun j j0 j1 => by have := db j j0 j1; omega)
    rw [e2, cl_n, b_X1_levelSquare_55] at st
    rw [st]
    have md2 : Md (fun c _ => c = B + 8) h h2 := Md_tr md m2
    have hdb := hd_b (s := fun j => gZ h a (f + ip j) - gZ h (B + 7) (f + ip j)) (m := 255) db
    refine lp (m := m_X1_levelSquare) (pc := 58) (L := fun i (_ : Unit) => [.ref B, .ref D, .ref a, .int (mI f), .int (mI i), v]) (N := 16) (P := fun r => ∃ h', r = some (.inl none, h') ∧ Md (fun c _ => c = B + 8 ∨ c = D + 7) h h' ∧ (∀ k, 0 ≤ k → k < 16 → gZ h' (D + 7) (f + ip k) = lev q (hd (fun j => gZ h a (f + ip j) - gZ h (B + 7) (f + ip j)) k)) ∧ ∀ i, (∀ k, 0 ≤ k → k < 16 → i ≠ f + ip k) → gZ h' (D + 7) i = gZ h (D + 7) i) (fun i _ h' => 0 ≤ i ∧ Md (fun c _ => c = B + 8 ∨ c = D + 7) h h' ∧ (∀ j, 0 ≤ j → j < 16 → gZ h' (B + 8) j = hd (fun j => gZ h a (f + ip j) - gZ h (B + 7) (f + ip j)) j) ∧ (∀ k, 0 ≤ k → k < i → gZ h' (D + 7) (f + ip k) = lev q (hd (fun j => gZ h a (f + ip j) - gZ h (B + 7) (f + ip j)) k)) ∧ ∀ i, (∀ k, 0 ≤ k → k < 16 → i ≠ f + ip k) → gZ h' (D + 7) i = gZ h (D + 7) i) ?_ ?_ 0 () h2 (by omega) ⟨by omega, Md_mono md2 fun c k e => Or.inl e, r2, fun j j0 j1 => by omega, fun i _ => md_gZ md2 (by omega) i⟩
    · intro i _ h3 hi ⟨i0, m3, g1, g2, g3⟩
      have kB3 := K1_sm m3.1 kB
      have kD3 := K6_sm m3.1 kD
      have hi2 := ip_b i
      have wi : wr (f + ip i) = f + ip i := wr_id (by omega) (by omega)
      have b1 := hdb i
      have b2 := lev_b (co := hd (fun j => gZ h a (f + ip j) - gZ h (B + 7) (f + ip j)) i) hq ⟨by omega, by omega⟩
      refine ⟨(), uZ h3 (D + 7) (f + ip i) (lev q (hd (fun j => gZ h a (f + ip j) - gZ h (B + 7) (f + ip j)) i)), ?_, by omega, Md_tr m3 (Md_mono (Md_uZ _ _ _ _) fun c k e => Or.inr e), ?_, ?_, ?_⟩
      · rw [b_X1_levelSquare_58 (wr_id (by omega) (by omega)) kB3 kD3 (fun _ => ⟨i0, hi⟩) (fun _ => ⟨i0, hi⟩), if_neg (by omega), g1 i i0 hi, (md_fZ m3 (by omega)).trans eq, levelOf_ok hq ⟨by omega, by omega⟩, cl_v, b_X1_levelSquare_93 wi (K6_n14 kD3) (K6_s14 kD3) (by omega)]
      · intro j j0 j1
        rw [gZ_uZ_ne _ _ (by omega)]
        exact g1 j j0 j1
      · intro k k0 k1
        rw [gZ_uZ' (sh1 (K6_s14 kD3))]
        by_cases e : f + ip k = f + ip i
        · have := ip_inj ⟨k0, by omega⟩ ⟨i0, by omega⟩ e
          rw [if_pos e, this, wr_id (by omega) (by omega)]
        · rw [if_neg e]
          have : k ≠ i := fun q => e (by rw [q])
          exact g2 k k0 (by omega)
      · intro j hj
        rw [gZ_uZ_nj _ (sh1 (K6_s14 kD3)) (hj i i0 hi)]
        exact g3 j hj
    · intro _ h3 ⟨i0, m3, g1, g2, g3⟩
      rw [b_X1_levelSquare_58 (wr_id (by omega) (by omega)) (K1_sm m3.1 kB) (K6_sm m3.1 kD) (fun _ => by omega) (fun _ => by omega), if_pos (by omega)]
      exact ⟨h3, rfl, m3, g2, g3⟩
theorem i_X1_buildSquare_0 : am_i m_X1_buildSquare 0 = some (0, .iconst 0, 1, [], 0) := rfl
theorem i_X1_buildSquare_1 : am_i m_X1_buildSquare 1 = some (1, .istore 4, 2, [], 0) := rfl
theorem b_X1_buildSquare_0 {a0 a1 a2 : Nat} {x3 : Int} {h : am_H} : rn m_X1_buildSquare 0 [.ref a0, .ref a1, .ref a2, .int (mI x3), am_J, am_J, am_J] [] h = rn m_X1_buildSquare 3 [.ref a0, .ref a1, .ref a2, .int (mI x3), .int (mI 0), am_J, am_J] [] h := by
  refine (tq_iconst i_X1_buildSquare_0 rfl).trans ?_
  refine (tq_istore (L' := [.ref a0, .ref a1, .ref a2, .int (mI x3), .int (mI 0), am_J, am_J]) i_X1_buildSquare_1 rfl rfl).trans ?_
  rfl
theorem i_X1_buildSquare_3 : am_i m_X1_buildSquare 3 = some (3, .iload 4, 2, [], 0) := rfl
theorem i_X1_buildSquare_5 : am_i m_X1_buildSquare 5 = some (5, .aload_n 0, 1, [], 0) := rfl
theorem i_X1_buildSquare_6 : am_i m_X1_buildSquare 6 = some (6, .getfield 38, 3, [1, 7, 0], 0) := rfl
theorem i_X1_buildSquare_9 : am_i m_X1_buildSquare 9 = some (9, .arraylength, 1, [], 0) := rfl
theorem i_X1_buildSquare_10 : am_i m_X1_buildSquare 10 = some (10, .if_icmp .ge 37, 3, [], 0) := rfl
theorem i_X1_buildSquare_13 : am_i m_X1_buildSquare 13 = some (13, .aload_n 0, 1, [], 0) := rfl
theorem i_X1_buildSquare_14 : am_i m_X1_buildSquare 14 = some (14, .getfield 38, 3, [1, 7, 0], 0) := rfl
theorem i_X1_buildSquare_17 : am_i m_X1_buildSquare 17 = some (17, .iload 4, 2, [], 0) := rfl
theorem i_X1_buildSquare_19 : am_i m_X1_buildSquare 19 = some (19, .iconst 4, 1, [], 4) := rfl
theorem i_X1_buildSquare_20 : am_i m_X1_buildSquare 20 = some (20, .aload_n 1, 1, [], 0) := rfl
theorem i_X1_buildSquare_21 : am_i m_X1_buildSquare 21 = some (21, .getfield 123, 3, [6, 3, 1], 0) := rfl
theorem i_X1_buildSquare_24 : am_i m_X1_buildSquare 24 = some (24, .imul, 1, [], 0) := rfl
theorem i_X1_buildSquare_25 : am_i m_X1_buildSquare 25 = some (25, .aload_n 1, 1, [], 0) := rfl
theorem i_X1_buildSquare_26 : am_i m_X1_buildSquare 26 = some (26, .getfield 118, 3, [6, 14, 1], 0) := rfl
theorem i_X1_buildSquare_29 : am_i m_X1_buildSquare 29 = some (29, .iload_n 3, 1, [], 0) := rfl
theorem i_X1_buildSquare_30 : am_i m_X1_buildSquare 30 = some (30, .iload 4, 2, [], 0) := rfl
theorem i_X1_buildSquare_32 : am_i m_X1_buildSquare 32 = some (32, .invokestatic 112, 3, [7], 0) := rfl
theorem i_X1_buildSquare_35 : am_i m_X1_buildSquare 35 = some (35, .iadd, 1, [], 0) := rfl
theorem i_X1_buildSquare_36 : am_i m_X1_buildSquare 36 = some (36, .invokestatic 69, 3, [32], 0) := rfl
theorem i_X1_buildSquare_39 : am_i m_X1_buildSquare 39 = some (39, .imul, 1, [], 0) := rfl
theorem i_X1_buildSquare_40 : am_i m_X1_buildSquare 40 = some (40, .iastore, 1, [], 0) := rfl
theorem i_X1_buildSquare_41 : am_i m_X1_buildSquare 41 = some (41, .iinc 4 1, 3, [], 0) := rfl
theorem i_X1_buildSquare_44 : am_i m_X1_buildSquare 44 = some (44, .goto (-41), 3, [], 0) := rfl
theorem i_X1_buildSquare_47 : am_i m_X1_buildSquare 47 = some (47, .aload_n 0, 1, [], 0) := rfl
theorem i_X1_buildSquare_48 : am_i m_X1_buildSquare 48 = some (48, .invokevirtual 115, 3, [79, 1], 0) := rfl
theorem b_X1_buildSquare_3 {a0 a1 a2 : Nat} {x3 x4 x4' : Int} {v5 v6 : Value} {h : am_H} (w4 : wr x4 = x4') (k1 : K1 h a0) (k2 : K6 h a1) (g3 : (¬ ((16 : Int) ≤ x4')) → (0 ≤ x4' ∧ x4' < 16)) (g4 : (¬ ((16 : Int) ≤ x4')) → (0 ≤ (wr (x3 + (ip x4'))) ∧ (wr (x3 + (ip x4'))) < (256 : Int))) (g5 : (¬ ((16 : Int) ≤ x4')) → (0 ≤ x4' ∧ x4' < (16 : Int))) : rn m_X1_buildSquare 3 [.ref a0, .ref a1, .ref a2, .int (mI x3), .int (mI x4), v5, v6] [] h = if (16 : Int) ≤ x4' then cl m_X1_buildSquare 51 [.ref a0, .ref a1, .ref a2, .int (mI x3), .int (mI x4), v5, v6] [] (rn m_X1_transform 0 [.ref a0, am_J] [] h) else rn m_X1_buildSquare 3 [.ref a0, .ref a1, .ref a2, .int (mI x3), .int (mI (x4 + 1)), v5, v6] [] (uZ h (a0 + 8) x4' ((4 * (fZ h a1 3)) * (gZ h (a1 + 7) (wr (x3 + (ip x4')))))) := by
  refine (tq_iload i_X1_buildSquare_3 rfl rfl).trans ?_
  refine (tq_aload_n i_X1_buildSquare_5 rfl (isA_ref _) rfl).trans ?_
  refine (tq_getfield i_X1_buildSquare_6 (K1_s k1) (gR (g_1_7 (K1_s k1)) (K1_e7 k1)) (isV_ref _) rfl).trans ?_
  refine (tq_alen i_X1_buildSquare_9 (K1_s7 k1) (by decide) (by decide) rfl).trans ?_
  rw [(K1_n7 k1)]
  refine (tq_icmp_ge (pt := 47) i_X1_buildSquare_10 w4 (wr_len (K1_s7 k1) (K1_n7 k1) (by decide) (by decide)) (by decide) rfl).trans ?_
  refine ite_congr rfl (fun c1 => ?_) (fun c1 => ?_)
  · refine (tq_aload_n i_X1_buildSquare_47 rfl (isA_ref _) rfl).trans ?_
    exact c_X1_transform i_X1_buildSquare_48 (K1_s k1) (ltd d_X1_buildSquare (by decide)) stOk_0 rfl
  · refine (tq_aload_n i_X1_buildSquare_13 rfl (isA_ref _) rfl).trans ?_
    refine (tq_getfield i_X1_buildSquare_14 (K1_s k1) (gR (g_1_7 (K1_s k1)) (K1_e7 k1)) (isV_ref _) rfl).trans ?_
    refine (tq_iload i_X1_buildSquare_17 rfl rfl).trans ?_
    refine (tq_iconst i_X1_buildSquare_19 rfl).trans ?_
    refine (tq_aload_n i_X1_buildSquare_20 rfl (isA_ref _) rfl).trans ?_
    refine (tq_getfield i_X1_buildSquare_21 (K6_s k2) (g_6_3 (K6_s k2)) (isV_I _) rfl).trans ?_
    refine (tq_imul i_X1_buildSquare_24 rfl).trans ?_
    refine (tq_aload_n i_X1_buildSquare_25 rfl (isA_ref _) rfl).trans ?_
    refine (tq_getfield i_X1_buildSquare_26 (K6_s k2) (gR (g_6_14 (K6_s k2)) (K6_e14 k2)) (isV_ref _) rfl).trans ?_
    refine (tq_iload_n i_X1_buildSquare_29 rfl rfl).trans ?_
    refine (tq_iload i_X1_buildSquare_30 rfl rfl).trans ?_
    refine (c_X11_inPicture i_X1_buildSquare_32 (ltd d_X1_buildSquare (by decide)) (stOk_5 rfl rfl rfl rfl rfl) rfl).trans ?_
    refine (congrArg (cl _ _ _ _) (inPicture_ok w4 (g3 c1))).trans ?_
    refine (cl_v _ _ _ _ _ _).trans ?_
    refine (tq_iadd i_X1_buildSquare_35 rfl).trans ?_
    refine (c_X7_get i_X1_buildSquare_36 (ltd d_X1_buildSquare (by decide)) (isA_ref _) (stOk_3 _ _ _) rfl).trans ?_
    refine (congrArg (cl _ _ _ _) (get_ok rfl (K6_n14 k2) (K6_s14 k2) (by decide) (g4 c1))).trans ?_
    refine (cl_v _ _ _ _ _ _).trans ?_
    refine (tq_imul i_X1_buildSquare_39 rfl).trans ?_
    refine (tq_iastore i_X1_buildSquare_40 (K1_s7 k1) w4 (g5 c1).1 (lt_gn (K1_n7 k1) (g5 c1).2) rfl).trans ?_
    refine (tq_iinc (L' := [.ref a0, .ref a1, .ref a2, .int (mI x3), .int (mI (x4 + 1)), v5, v6]) i_X1_buildSquare_41 rfl rfl rfl).trans ?_
    refine (tq_goto (pc' := 3) i_X1_buildSquare_44 (by decide)).trans ?_
    rfl
theorem i_X1_buildSquare_51 : am_i m_X1_buildSquare 51 = some (51, .iconst 0, 1, [], 0) := rfl
theorem i_X1_buildSquare_52 : am_i m_X1_buildSquare 52 = some (52, .istore 4, 2, [], 0) := rfl
theorem b_X1_buildSquare_51 {a0 a2 : Nat} {v1 v4 v5 v6 : Value} {x3 : Int} {h : am_H} : rn m_X1_buildSquare 51 [.ref a0, v1, .ref a2, .int (mI x3), v4, v5, v6] [] h = rn m_X1_buildSquare 54 [.ref a0, v1, .ref a2, .int (mI x3), .int (mI 0), v5, v6] [] h := by
  refine (tq_iconst i_X1_buildSquare_51 rfl).trans ?_
  refine (tq_istore (L' := [.ref a0, v1, .ref a2, .int (mI x3), .int (mI 0), v5, v6]) i_X1_buildSquare_52 rfl rfl).trans ?_
  rfl
theorem i_X1_buildSquare_54 : am_i m_X1_buildSquare 54 = some (54, .iload 4, 2, [], 0) := rfl
theorem i_X1_buildSquare_56 : am_i m_X1_buildSquare 56 = some (56, .aload_n 0, 1, [], 0) := rfl
theorem i_X1_buildSquare_57 : am_i m_X1_buildSquare 57 = some (57, .getfield 38, 3, [1, 7, 0], 0) := rfl
theorem i_X1_buildSquare_60 : am_i m_X1_buildSquare 60 = some (60, .arraylength, 1, [], 0) := rfl
theorem i_X1_buildSquare_61 : am_i m_X1_buildSquare 61 = some (61, .if_icmp .ge 53, 3, [], 0) := rfl
theorem i_X1_buildSquare_64 : am_i m_X1_buildSquare 64 = some (64, .iload_n 3, 1, [], 0) := rfl
theorem i_X1_buildSquare_65 : am_i m_X1_buildSquare 65 = some (65, .iload 4, 2, [], 0) := rfl
theorem i_X1_buildSquare_67 : am_i m_X1_buildSquare 67 = some (67, .invokestatic 112, 3, [7], 0) := rfl
theorem i_X1_buildSquare_70 : am_i m_X1_buildSquare 70 = some (70, .iadd, 1, [], 0) := rfl
theorem i_X1_buildSquare_71 : am_i m_X1_buildSquare 71 = some (71, .istore 5, 2, [], 0) := rfl
theorem i_X1_buildSquare_73 : am_i m_X1_buildSquare 73 = some (73, .aload_n 0, 1, [], 0) := rfl
theorem i_X1_buildSquare_74 : am_i m_X1_buildSquare 74 = some (74, .getfield 38, 3, [1, 7, 0], 0) := rfl
theorem i_X1_buildSquare_77 : am_i m_X1_buildSquare 77 = some (77, .iload 4, 2, [], 0) := rfl
theorem i_X1_buildSquare_79 : am_i m_X1_buildSquare 79 = some (79, .iaload, 1, [], 0) := rfl
theorem i_X1_buildSquare_80 : am_i m_X1_buildSquare 80 = some (80, .bipush 8, 2, [], 8) := rfl
theorem i_X1_buildSquare_82 : am_i m_X1_buildSquare 82 = some (82, .iadd, 1, [], 0) := rfl
theorem i_X1_buildSquare_83 : am_i m_X1_buildSquare 83 = some (83, .iconst 4, 1, [], 4) := rfl
theorem i_X1_buildSquare_84 : am_i m_X1_buildSquare 84 = some (84, .ishr, 1, [], 0) := rfl
theorem i_X1_buildSquare_85 : am_i m_X1_buildSquare 85 = some (85, .istore 6, 2, [], 0) := rfl
theorem i_X1_buildSquare_87 : am_i m_X1_buildSquare 87 = some (87, .aload_n 2, 1, [], 0) := rfl
theorem i_X1_buildSquare_88 : am_i m_X1_buildSquare 88 = some (88, .iload 5, 2, [], 0) := rfl
theorem i_X1_buildSquare_90 : am_i m_X1_buildSquare 90 = some (90, .aload_n 0, 1, [], 0) := rfl
theorem i_X1_buildSquare_91 : am_i m_X1_buildSquare 91 = some (91, .getfield 35, 3, [1, 6, 0], 0) := rfl
theorem i_X1_buildSquare_94 : am_i m_X1_buildSquare 94 = some (94, .iload 5, 2, [], 0) := rfl
theorem i_X1_buildSquare_96 : am_i m_X1_buildSquare 96 = some (96, .invokestatic 69, 3, [32], 0) := rfl
theorem i_X1_buildSquare_99 : am_i m_X1_buildSquare 99 = some (99, .iload 6, 2, [], 0) := rfl
theorem i_X1_buildSquare_101 : am_i m_X1_buildSquare 101 = some (101, .iadd, 1, [], 0) := rfl
theorem i_X1_buildSquare_102 : am_i m_X1_buildSquare 102 = some (102, .invokestatic 88, 3, [17], 0) := rfl
theorem i_X1_buildSquare_105 : am_i m_X1_buildSquare 105 = some (105, .invokestatic 59, 3, [33], 0) := rfl
theorem i_X1_buildSquare_108 : am_i m_X1_buildSquare 108 = some (108, .iinc 4 1, 3, [], 0) := rfl
theorem i_X1_buildSquare_111 : am_i m_X1_buildSquare 111 = some (111, .goto (-57), 3, [], 0) := rfl
theorem i_X1_buildSquare_114 : am_i m_X1_buildSquare 114 = some (114, .return_, 1, [], 0) := rfl
theorem b_X1_buildSquare_54 {a0 a2 n_a2 : Nat} {v1 v5 v6 : Value} {x3 x4 x4' : Int} {h : am_H} (w4 : wr x4 = x4') (k1 : K1 h a0) (g2 : (¬ ((16 : Int) ≤ x4')) → (0 ≤ x4' ∧ x4' < 16)) (g3 : (¬ ((16 : Int) ≤ x4')) → (0 ≤ x4' ∧ x4' < (16 : Int))) (g4 : (¬ ((16 : Int) ≤ x4')) → (0 ≤ (wr (x3 + (ip x4'))) ∧ (wr (x3 + (ip x4'))) < (256 : Int))) (n5 : gn h a2 = n_a2) (s6 : sh h a2 = (1, 0)) (g7 : (¬ ((16 : Int) ≤ x4')) → (0 ≤ (wr (x3 + (ip x4'))) ∧ (wr (x3 + (ip x4'))) < (n_a2 : Int))) : rn m_X1_buildSquare 54 [.ref a0, v1, .ref a2, .int (mI x3), .int (mI x4), v5, v6] [] h = if (16 : Int) ≤ x4' then some (.inl none, h) else rn m_X1_buildSquare 54 [.ref a0, v1, .ref a2, .int (mI x3), .int (mI (x4 + 1)), .int (mI (x3 + (ip x4'))), .int (mI ((wr ((gZ h (a0 + 8) x4') + 8)) / 2 ^ 4))] [] (uZ h a2 (wr (x3 + (ip x4'))) (clampv (wr ((gZ h (a0 + 7) (wr (x3 + (ip x4')))) + ((wr ((gZ h (a0 + 8) x4') + 8)) / 2 ^ 4))))) := by
  refine (tq_iload i_X1_buildSquare_54 rfl rfl).trans ?_
  refine (tq_aload_n i_X1_buildSquare_56 rfl (isA_ref _) rfl).trans ?_
  refine (tq_getfield i_X1_buildSquare_57 (K1_s k1) (gR (g_1_7 (K1_s k1)) (K1_e7 k1)) (isV_ref _) rfl).trans ?_
  refine (tq_alen i_X1_buildSquare_60 (K1_s7 k1) (by decide) (by decide) rfl).trans ?_
  rw [(K1_n7 k1)]
  refine (tq_icmp_ge (pt := 114) i_X1_buildSquare_61 w4 (wr_len (K1_s7 k1) (K1_n7 k1) (by decide) (by decide)) (by decide) rfl).trans ?_
  refine ite_congr rfl (fun c1 => ?_) (fun c1 => ?_)
  · exact tq_return i_X1_buildSquare_114 r_X1_buildSquare
  · refine (tq_iload_n i_X1_buildSquare_64 rfl rfl).trans ?_
    refine (tq_iload i_X1_buildSquare_65 rfl rfl).trans ?_
    refine (c_X11_inPicture i_X1_buildSquare_67 (ltd d_X1_buildSquare (by decide)) (stOk_1 _) rfl).trans ?_
    refine (congrArg (cl _ _ _ _) (inPicture_ok w4 (g2 c1))).trans ?_
    refine (cl_v _ _ _ _ _ _).trans ?_
    refine (tq_iadd i_X1_buildSquare_70 rfl).trans ?_
    refine (tq_istore (L' := [.ref a0, v1, .ref a2, .int (mI x3), .int (mI x4), .int (mI (x3 + (ip x4'))), v6]) i_X1_buildSquare_71 rfl rfl).trans ?_
    refine (tq_aload_n i_X1_buildSquare_73 rfl (isA_ref _) rfl).trans ?_
    refine (tq_getfield i_X1_buildSquare_74 (K1_s k1) (gR (g_1_7 (K1_s k1)) (K1_e7 k1)) (isV_ref _) rfl).trans ?_
    refine (tq_iload i_X1_buildSquare_77 rfl rfl).trans ?_
    refine (tq_iaload i_X1_buildSquare_79 (K1_s7 k1) (by decide) w4 (g3 c1).1 (lt_gn (K1_n7 k1) (g3 c1).2) rfl).trans ?_
    refine (tq_bipush i_X1_buildSquare_80 rfl).trans ?_
    refine (tq_iadd i_X1_buildSquare_82 rfl).trans ?_
    refine (tq_iconst i_X1_buildSquare_83 rfl).trans ?_
    refine (tq_ishr (k := 4) i_X1_buildSquare_84 rfl w_4 (by decide) rfl).trans ?_
    refine (tq_istore (L' := [.ref a0, v1, .ref a2, .int (mI x3), .int (mI x4), .int (mI (x3 + (ip x4'))), .int (mI ((wr ((gZ h (a0 + 8) x4') + 8)) / 2 ^ 4))]) i_X1_buildSquare_85 rfl rfl).trans ?_
    refine (tq_aload_n i_X1_buildSquare_87 rfl (isA_ref _) rfl).trans ?_
    refine (tq_iload i_X1_buildSquare_88 rfl rfl).trans ?_
    refine (tq_aload_n i_X1_buildSquare_90 rfl (isA_ref _) rfl).trans ?_
    refine (tq_getfield i_X1_buildSquare_91 (K1_s k1) (gR (g_1_6 (K1_s k1)) (K1_e6 k1)) (isV_ref _) rfl).trans ?_
    refine (tq_iload i_X1_buildSquare_94 rfl rfl).trans ?_
    refine (c_X7_get i_X1_buildSquare_96 (ltd d_X1_buildSquare (by decide)) (isA_ref _) (stOk_2 _ _) rfl).trans ?_
    refine (congrArg (cl _ _ _ _) (get_ok rfl (K1_n6 k1) (K1_s6 k1) (by decide) (g4 c1))).trans ?_
    refine (cl_v _ _ _ _ _ _).trans ?_
    refine (tq_iload i_X1_buildSquare_99 rfl rfl).trans ?_
    refine (tq_iadd i_X1_buildSquare_101 rfl).trans ?_
    refine (c_X11_withinValues i_X1_buildSquare_102 (ltd d_X1_buildSquare (by decide)) (stOk_2 _ _) rfl).trans ?_
    refine (congrArg (cl _ _ _ _) (withinValues_ok rfl)).trans ?_
    refine (cl_v _ _ _ _ _ _).trans ?_
    refine (c_X7_put i_X1_buildSquare_105 (ltd d_X1_buildSquare (by decide)) (isA_ref _) stOk_0 rfl).trans ?_
    refine (congrArg (cl _ _ _ _) (put_ok rfl n5 s6 (g7 c1))).trans ?_
    refine (cl_n _ _ _ _ _).trans ?_
    refine (tq_iinc (L' := [.ref a0, v1, .ref a2, .int (mI x3), .int (mI (x4 + 1)), .int (mI (x3 + (ip x4'))), .int (mI ((wr ((gZ h (a0 + 8) x4') + 8)) / 2 ^ 4))]) i_X1_buildSquare_108 rfl rfl rfl).trans ?_
    refine (tq_goto (pc' := 54) i_X1_buildSquare_111 (by decide)).trans ?_
    rfl
theorem buildSquare_ok {h : am_H} {B D a n : Nat} {f q : Int} (kB : K1 h B) (kD : K6 h D) (s : sh h a = (1, 0)) (n1 : gn h a = n) (hn : 256 ≤ (n : Int)) (hDB : D + 8 < B ∨ B + 8 < D) (aB : a < B ∨ B + 8 < a) (aD : a ≠ D + 7 ∧ a ≠ D) (hf : 0 ≤ f ∧ f + 51 < 256) (hg : ∀ k, 0 ≤ k → k < 16 → 0 ≤ gZ h (B + 7) (f + ip k) ∧ gZ h (B + 7) (f + ip k) ≤ 255) (eq : fZ h D 3 = q) (hl : ∀ k, 0 ≤ k → k < 16 → -5000 ≤ 4 * q * gZ h (D + 7) (f + ip k) ∧ 4 * q * gZ h (D + 7) (f + ip k) ≤ 5000) : ∃ h', rn m_X1_buildSquare 0 [.ref B, .ref D, .ref a, .int (mI f), am_J, am_J, am_J] [] h = some (.inl none, h') ∧ Md (fun c _ => c = B + 8 ∨ c = a) h h' ∧ (∀ k, 0 ≤ k → k < 16 → gZ h' a (f + ip k) = clampv (gZ h (B + 7) (f + ip k) + dif q (fun j => gZ h (D + 7) (f + ip j)) k)) ∧ ∀ i, (∀ k, 0 ≤ k → k < 16 → i ≠ f + ip k) → gZ h' a i = gZ h a i := by
  rw [b_X1_buildSquare_0]
  refine lp (m := m_X1_buildSquare) (pc := 3) (L := fun i (v : Value × Value) => [.ref B, .ref D, .ref a, .int (mI f), .int (mI i), v.1, v.2]) (N := 16) (P := fun r => ∃ h', r = some (.inl none, h') ∧ Md (fun c _ => c = B + 8 ∨ c = a) h h' ∧ (∀ k, 0 ≤ k → k < 16 → gZ h' a (f + ip k) = clampv (gZ h (B + 7) (f + ip k) + dif q (fun j => gZ h (D + 7) (f + ip j)) k)) ∧ ∀ i, (∀ k, 0 ≤ k → k < 16 → i ≠ f + ip k) → gZ h' a i = gZ h a i) (fun i _ h' => 0 ≤ i ∧ Md (fun c _ => c = B + 8) h h' ∧ ∀ j, 0 ≤ j → j < i → gZ h' (B + 8) j = 4 * q * gZ h (D + 7) (f + ip j)) ?_ ?_ 0 (am_J, am_J) h (by omega) ⟨by omega, Md_rf _ _, fun j j0 j1 => by omega⟩
  · intro i v h' hi ⟨i0, md, hh⟩
    obtain ⟨v1, v2⟩ := v
    have kB' := K1_sm md.1 kB
    have hi2 := ip_b i
    have wi : wr (f + ip i) = f + ip i := wr_id (by omega) (by omega)
    have st := b_X1_buildSquare_3 (a0 := B) (a1 := D) (a2 := a) (x3 := f) (v5 := v1) (v6 := v2) (h := h') (wr_id (z := i) (by omega) (by omega)) kB' (K6_sm md.1 kD) (fun _ => ⟨i0, hi⟩)
    rw [wi] at st
    have st := st (fun _ => by omega) (fun _ => ⟨i0, hi⟩)
    rw [if_neg (by omega), md_gZ md (by omega), (md_fZ md (by omega)).trans eq] at st
    refine ⟨(_, _), _, st, by omega, Md_tr md (Md_uZ _ _ _ _), fun j j0 j1 => ?_⟩
    rw [gZ_uZ' (sh1 (K1_s7 kB'))]
    by_cases e : j = i
    · have := hl i i0 (by omega)
      rw [if_pos e, wr_id (by omega) (by omega), e]
    · rw [if_neg e]
      exact hh j j0 (by omega)
  · intro v h' ⟨i0, md, hh⟩
    obtain ⟨v1, v2⟩ := v
    have kB' := K1_sm md.1 kB
    have st := b_X1_buildSquare_3 (a0 := B) (a1 := D) (a2 := a) (x3 := f) (v5 := v1) (v6 := v2) (h := h') (wr_id (z := 16) (by omega) (by omega)) kB' (K6_sm md.1 kD) (fun _ => by omega) (fun _ => by omega) (fun _ => by omega)
    rw [if_pos (by omega)] at st
    obtain ⟨h2, e2, m2, r2⟩ := transform_ok (s := fun j => 4 * q * gZ h (D + 7) (f + ip j)) kB' (fun j j0 j1 => hh j j0 j1) (fun j j0 j1 => by have := hl j j0 j1; omega)
    rw [e2, cl_n, b_X1_buildSquare_51] at st
    simp only
    rw [st]
    have md2 : Md (fun c _ => c = B + 8) h h2 := Md_tr md m2
    have hdb := hd_b (s := fun j => 4 * q * gZ h (D + 7) (f + ip j)) (m := 5000) hl
    refine lp (m := m_X1_buildSquare) (pc := 54) (L := fun i (v : Value × Value) => [.ref B, .ref D, .ref a, .int (mI f), .int (mI i), v.1, v.2]) (N := 16) (P := fun r => ∃ h', r = some (.inl none, h') ∧ Md (fun c _ => c = B + 8 ∨ c = a) h h' ∧ (∀ k, 0 ≤ k → k < 16 → gZ h' a (f + ip k) = clampv (gZ h (B + 7) (f + ip k) + dif q (fun j => gZ h (D + 7) (f + ip j)) k)) ∧ ∀ i, (∀ k, 0 ≤ k → k < 16 → i ≠ f + ip k) → gZ h' a i = gZ h a i) (fun i _ h' => 0 ≤ i ∧ Md (fun c _ => c = B + 8 ∨ c = a) h h' ∧ (∀ j, 0 ≤ j → j < 16 → gZ h' (B + 8) j = hd (fun j => 4 * q * gZ h (D + 7) (f + ip j)) j) ∧ (∀ k, 0 ≤ k → k < i → gZ h' a (f + ip k) = clampv (gZ h (B + 7) (f + ip k) + dif q (fun j => gZ h (D + 7) (f + ip j)) k)) ∧ ∀ i, (∀ k, 0 ≤ k → k < 16 → i ≠ f + ip k) → gZ h' a i = gZ h a i) ?_ ?_ 0 (v1, v2) h2 (by omega) ⟨by omega, Md_mono md2 fun c k e => Or.inl e, r2, fun j j0 j1 => by omega, fun i _ => md_gZ md2 (by omega) i⟩
    · intro i u h3 hi ⟨i0, m3, g1, g2, g3⟩
      obtain ⟨u1, u2⟩ := u
      have kB3 := K1_sm m3.1 kB
      have hi2 := ip_b i
      have wi : wr (f + ip i) = f + ip i := wr_id (by omega) (by omega)
      have b1 := hdb i
      have b3 := hg i i0 (by omega)
      have s3 : sh h3 a = (1, 0) := (md_sh m3 _).trans s
      have st := b_X1_buildSquare_54 (a0 := B) (a2 := a) (n_a2 := n) (v1 := .ref D) (x3 := f) (v5 := u1) (v6 := u2) (h := h3) (wr_id (z := i) (by omega) (by omega)) kB3 (fun _ => ⟨i0, hi⟩) (fun _ => ⟨i0, hi⟩)
      rw [wi] at st
      have st := st (fun _ => by omega) ((md_gn m3 _).trans n1) s3 (fun _ => by omega)
      rw [if_neg (by omega), g1 i i0 hi, md_gZ m3 (by omega), show (2 : Int) ^ 4 = 16 from rfl, wr_id (z := hd (fun j => 4 * q * gZ h (D + 7) (f + ip j)) i + 8) (by omega) (by omega), wr_id (z := gZ h (B + 7) (f + ip i) + (hd (fun j => 4 * q * gZ h (D + 7) (f + ip j)) i + 8) / 16) (by omega) (by omega)] at st
      refine ⟨(_, _), _, st, by omega, Md_tr m3 (Md_mono (Md_uZ _ _ _ _) fun c k e => Or.inr e), ?_, ?_, ?_⟩
      · intro j j0 j1
        rw [gZ_uZ_ne _ _ (by omega)]
        exact g1 j j0 j1
      · intro k k0 k1
        rw [gZ_uZ' (sh1 s3)]
        by_cases e : f + ip k = f + ip i
        · have := ip_inj ⟨k0, by omega⟩ ⟨i0, by omega⟩ e
          rw [if_pos e, this, wr_clampv]
          rfl
        · rw [if_neg e]
          have : k ≠ i := fun q => e (by rw [q])
          exact g2 k k0 (by omega)
      · intro j hj
        rw [gZ_uZ_nj _ (sh1 s3) (hj i i0 hi)]
        exact g3 j hj
    · intro u h3 ⟨i0, m3, g1, g2, g3⟩
      obtain ⟨u1, u2⟩ := u
      rw [b_X1_buildSquare_54 (n_a2 := n) (wr_id (by omega) (by omega)) (K1_sm m3.1 kB) (fun _ => by omega) (fun _ => by omega) (fun _ => by omega) ((md_gn m3 _).trans n1) ((md_sh m3 _).trans s) (fun _ => by omega), if_pos (by omega)]
      exact ⟨h3, rfl, m3, g2, g3⟩
