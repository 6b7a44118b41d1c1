/-! ===== the model builds a part ===== -/
theorem i_X12_builds_0 : am_i m_X12_builds 0 = some (0, .aload_n 0, 1, [], 0) := rfl
theorem i_X12_builds_1 : am_i m_X12_builds 1 = some (1, .aload_n 1, 1, [], 0) := rfl
theorem i_X12_builds_2 : am_i m_X12_builds 2 = some (2, .aload_n 2, 1, [], 0) := rfl
theorem i_X12_builds_3 : am_i m_X12_builds 3 = some (3, .iload_n 3, 1, [], 0) := rfl
theorem i_X12_builds_4 : am_i m_X12_builds 4 = some (4, .iload 4, 2, [], 0) := rfl
theorem i_X12_builds_6 : am_i m_X12_builds 6 = some (6, .iload 5, 2, [], 0) := rfl
theorem i_X12_builds_8 : am_i m_X12_builds 8 = some (8, .iload 6, 2, [], 0) := rfl
theorem i_X12_builds_10 : am_i m_X12_builds 10 = some (10, .aload 7, 2, [], 0) := rfl
theorem i_X12_builds_12 : am_i m_X12_builds 12 = some (12, .iload 10, 2, [], 0) := rfl
theorem i_X12_builds_14 : am_i m_X12_builds 14 = some (14, .invokestatic 208, 3, [180], 0) := rfl
theorem b_X12_builds_0 {a0 a7 a8 : Nat} {r1 r2 : Option Nat} {x3 x4 x5 x6 x9 x10 : Int} {h : am_H} : rn m_X12_builds 0 [.ref a0, am_rv r1, am_rv r2, .int (mI x3), .int (mI x4), .int (mI x5), .int (mI x6), .ref a7, .ref a8, .int (mI x9), .int (mI x10), am_J, am_J, am_J, am_J, am_J, am_J, am_J] [] h = cl m_X12_builds 17 [.ref a0, am_rv r1, am_rv r2, .int (mI x3), .int (mI x4), .int (mI x5), .int (mI x6), .ref a7, .ref a8, .int (mI x9), .int (mI x10), am_J, am_J, am_J, am_J, am_J, am_J, am_J] [] (rn m_X12_guesses 0 [.ref a0, am_rv r1, am_rv r2, .int (mI x3), .int (mI x4), .int (mI x5), .int (mI x6), .ref a7, .int (mI x10), am_J, am_J, am_J, am_J] [] h) := by
  refine (tq_aload_n i_X12_builds_0 rfl (isA_ref _) rfl).trans ?_
  refine (tq_aload_n i_X12_builds_1 rfl (isA_rv _) rfl).trans ?_
  refine (tq_aload_n i_X12_builds_2 rfl (isA_rv _) rfl).trans ?_
  refine (tq_iload_n i_X12_builds_3 rfl rfl).trans ?_
  refine (tq_iload i_X12_builds_4 rfl rfl).trans ?_
  refine (tq_iload i_X12_builds_6 rfl rfl).trans ?_
  refine (tq_iload i_X12_builds_8 rfl rfl).trans ?_
  refine (tq_aload i_X12_builds_10 rfl (isA_ref _) rfl).trans ?_
  refine (tq_iload i_X12_builds_12 rfl rfl).trans ?_
  exact c_X12_guesses i_X12_builds_14 (ltd d_X12_builds (by decide)) (isA_ref _) (isA_rv _) (isA_rv _) (isA_ref _) stOk_0 rfl
theorem i_X12_builds_17 : am_i m_X12_builds 17 = some (17, .astore 11, 2, [], 0) := rfl
theorem i_X12_builds_19 : am_i m_X12_builds 19 = some (19, .iconst 0, 1, [], 0) := rfl
theorem i_X12_builds_20 : am_i m_X12_builds 20 = some (20, .istore 12, 2, [], 0) := rfl
theorem b_X12_builds_17 {a0 a8 as0 : Nat} {v1 v2 v6 v7 v10 v11 v12 v13 v14 v15 v16 v17 : Value} {x3 x4 x5 x9 : Int} {h : am_H} : rn m_X12_builds 17 [.ref a0, v1, v2, .int (mI x3), .int (mI x4), .int (mI x5), v6, v7, .ref a8, .int (mI x9), v10, v11, v12, v13, v14, v15, v16, v17] [.ref as0] h = rn m_X12_builds 22 [.ref a0, v1, v2, .int (mI x3), .int (mI x4), .int (mI x5), v6, v7, .ref a8, .int (mI x9), (am_k1 v10), .ref as0, .int (mI 0), v13, v14, v15, v16, v17] [] h := by
  refine (tq_astore (L' := [.ref a0, v1, v2, .int (mI x3), .int (mI x4), .int (mI x5), v6, v7, .ref a8, .int (mI x9), (am_k1 v10), .ref as0, v12, v13, v14, v15, v16, v17]) i_X12_builds_17 (isA_ref _) rfl rfl).trans ?_
  refine (tq_iconst i_X12_builds_19 rfl).trans ?_
  refine (tq_istore (L' := [.ref a0, v1, v2, .int (mI x3), .int (mI x4), .int (mI x5), v6, v7, .ref a8, .int (mI x9), (am_k1 v10), .ref as0, .int (mI 0), v13, v14, v15, v16, v17]) i_X12_builds_20 rfl rfl).trans ?_
  rfl
theorem i_X12_builds_22 : am_i m_X12_builds 22 = some (22, .iload 12, 2, [], 0) := rfl
theorem i_X12_builds_24 : am_i m_X12_builds 24 = some (24, .iload 5, 2, [], 0) := rfl
theorem i_X12_builds_26 : am_i m_X12_builds 26 = some (26, .iload 5, 2, [], 0) := rfl
theorem i_X12_builds_28 : am_i m_X12_builds 28 = some (28, .imul, 1, [], 0) := rfl
theorem i_X12_builds_29 : am_i m_X12_builds 29 = some (29, .bipush 16, 2, [], 16) := rfl
theorem i_X12_builds_31 : am_i m_X12_builds 31 = some (31, .idiv, 1, [], 0) := rfl
theorem i_X12_builds_32 : am_i m_X12_builds 32 = some (32, .if_icmp .ge 103, 3, [], 0) := rfl
theorem i_X12_builds_35 : am_i m_X12_builds 35 = some (35, .iload_n 3, 1, [], 0) := rfl
theorem i_X12_builds_36 : am_i m_X12_builds 36 = some (36, .iload 12, 2, [], 0) := rfl
theorem i_X12_builds_38 : am_i m_X12_builds 38 = some (38, .iload 5, 2, [], 0) := rfl
theorem i_X12_builds_40 : am_i m_X12_builds 40 = some (40, .iconst 4, 1, [], 4) := rfl
theorem i_X12_builds_41 : am_i m_X12_builds 41 = some (41, .idiv, 1, [], 0) := rfl
theorem i_X12_builds_42 : am_i m_X12_builds 42 = some (42, .irem, 1, [], 0) := rfl
theorem i_X12_builds_43 : am_i m_X12_builds 43 = some (43, .iconst 4, 1, [], 4) := rfl
theorem i_X12_builds_44 : am_i m_X12_builds 44 = some (44, .imul, 1, [], 0) := rfl
theorem i_X12_builds_45 : am_i m_X12_builds 45 = some (45, .iadd, 1, [], 0) := rfl
theorem i_X12_builds_46 : am_i m_X12_builds 46 = some (46, .istore 13, 2, [], 0) := rfl
theorem i_X12_builds_48 : am_i m_X12_builds 48 = some (48, .iload 4, 2, [], 0) := rfl
theorem i_X12_builds_50 : am_i m_X12_builds 50 = some (50, .iload 12, 2, [], 0) := rfl
theorem i_X12_builds_52 : am_i m_X12_builds 52 = some (52, .iload 5, 2, [], 0) := rfl
theorem i_X12_builds_54 : am_i m_X12_builds 54 = some (54, .iconst 4, 1, [], 4) := rfl
theorem i_X12_builds_55 : am_i m_X12_builds 55 = some (55, .idiv, 1, [], 0) := rfl
theorem i_X12_builds_56 : am_i m_X12_builds 56 = some (56, .idiv, 1, [], 0) := rfl
theorem i_X12_builds_57 : am_i m_X12_builds 57 = some (57, .iconst 4, 1, [], 4) := rfl
theorem i_X12_builds_58 : am_i m_X12_builds 58 = some (58, .imul, 1, [], 0) := rfl
theorem i_X12_builds_59 : am_i m_X12_builds 59 = some (59, .iadd, 1, [], 0) := rfl
theorem i_X12_builds_60 : am_i m_X12_builds 60 = some (60, .istore 14, 2, [], 0) := rfl
theorem i_X12_builds_62 : am_i m_X12_builds 62 = some (62, .aload 8, 2, [], 0) := rfl
theorem i_X12_builds_64 : am_i m_X12_builds 64 = some (64, .iload 13, 2, [], 0) := rfl
theorem i_X12_builds_66 : am_i m_X12_builds 66 = some (66, .iload 14, 2, [], 0) := rfl
theorem i_X12_builds_68 : am_i m_X12_builds 68 = some (68, .iload 9, 2, [], 0) := rfl
theorem i_X12_builds_70 : am_i m_X12_builds 70 = some (70, .invokestatic 212, 3, [126], 0) := rfl
theorem i_X12_builds_135 : am_i m_X12_builds 135 = some (135, .return_, 1, [], 0) := rfl
theorem b_X12_builds_22 {a0 a8 a11 : Nat} {v1 v2 v6 v7 v10 v13 v14 v15 v16 v17 : Value} {x3 x4 x5 x9 x12 x5' x12' : Int} {h : am_H} (w5 : wr x5 = x5') (w12 : wr x12 = x12') (g1 : (¬ ((wr (Int.tdiv (wr (x5 * x5)) 16)) ≤ x12')) → (wr (Int.tdiv x5' 4) ≠ 0)) : rn m_X12_builds 22 [.ref a0, v1, v2, .int (mI x3), .int (mI x4), .int (mI x5), v6, v7, .ref a8, .int (mI x9), v10, .ref a11, .int (mI x12), v13, v14, v15, v16, v17] [] h = if (wr (Int.tdiv (wr (x5 * x5)) 16)) ≤ x12' then some (.inl none, h) else cl m_X12_builds 73 [.ref a0, v1, v2, .int (mI x3), .int (mI x4), .int (mI x5), v6, v7, .ref a8, .int (mI x9), v10, .ref a11, .int (mI x12), .int (mI (x3 + ((Int.tmod x12' (wr (Int.tdiv x5' 4))) * 4))), .int (mI (x4 + ((Int.tdiv x12' (wr (Int.tdiv x5' 4))) * 4))), v15, v16, v17] [] (rn m_X12_back 0 [.ref a8, .int (mI (x3 + ((Int.tmod x12' (wr (Int.tdiv x5' 4))) * 4))), .int (mI (x4 + ((Int.tdiv x12' (wr (Int.tdiv x5' 4))) * 4))), .int (mI x9), am_J, am_J, am_J] [] h) := by
  refine (tq_iload i_X12_builds_22 rfl rfl).trans ?_
  refine (tq_iload i_X12_builds_24 rfl rfl).trans ?_
  refine (tq_iload i_X12_builds_26 rfl rfl).trans ?_
  refine (tq_imul i_X12_builds_28 rfl).trans ?_
  refine (tq_bipush i_X12_builds_29 rfl).trans ?_
  refine (tq_idiv i_X12_builds_31 rfl w_16 (by decide) rfl).trans ?_
  refine (tq_icmp_ge (pt := 135) i_X12_builds_32 w12 rfl (by decide) rfl).trans ?_
  refine ite_congr rfl (fun c1 => ?_) (fun c1 => ?_)
  · exact tq_return i_X12_builds_135 r_X12_builds
  · refine (tq_iload_n i_X12_builds_35 rfl rfl).trans ?_
    refine (tq_iload i_X12_builds_36 rfl rfl).trans ?_
    refine (tq_iload i_X12_builds_38 rfl rfl).trans ?_
    refine (tq_iconst i_X12_builds_40 rfl).trans ?_
    refine (tq_idiv i_X12_builds_41 w5 w_4 (by decide) rfl).trans ?_
    refine (tq_irem i_X12_builds_42 w12 rfl (g1 c1) rfl).trans ?_
    refine (tq_iconst i_X12_builds_43 rfl).trans ?_
    refine (tq_imul i_X12_builds_44 rfl).trans ?_
    refine (tq_iadd i_X12_builds_45 rfl).trans ?_
    refine (tq_istore (L' := [.ref a0, v1, v2, .int (mI x3), .int (mI x4), .int (mI x5), v6, v7, .ref a8, .int (mI x9), v10, .ref a11, .int (mI x12), .int (mI (x3 + ((Int.tmod x12' (wr (Int.tdiv x5' 4))) * 4))), v14, v15, v16, v17]) i_X12_builds_46 rfl rfl).trans ?_
    refine (tq_iload i_X12_builds_48 rfl rfl).trans ?_
    refine (tq_iload i_X12_builds_50 rfl rfl).trans ?_
    refine (tq_iload i_X12_builds_52 rfl rfl).trans ?_
    refine (tq_iconst i_X12_builds_54 rfl).trans ?_
    refine (tq_idiv i_X12_builds_55 w5 w_4 (by decide) rfl).trans ?_
    refine (tq_idiv i_X12_builds_56 w12 rfl (g1 c1) rfl).trans ?_
    refine (tq_iconst i_X12_builds_57 rfl).trans ?_
    refine (tq_imul i_X12_builds_58 rfl).trans ?_
    refine (tq_iadd i_X12_builds_59 rfl).trans ?_
    refine (tq_istore (L' := [.ref a0, v1, v2, .int (mI x3), .int (mI x4), .int (mI x5), v6, v7, .ref a8, .int (mI x9), v10, .ref a11, .int (mI x12), .int (mI (x3 + ((Int.tmod x12' (wr (Int.tdiv x5' 4))) * 4))), .int (mI (x4 + ((Int.tdiv x12' (wr (Int.tdiv x5' 4))) * 4))), v15, v16, v17]) i_X12_builds_60 rfl rfl).trans ?_
    refine (tq_aload i_X12_builds_62 rfl (isA_ref _) rfl).trans ?_
    refine (tq_iload i_X12_builds_64 rfl rfl).trans ?_
    refine (tq_iload i_X12_builds_66 rfl rfl).trans ?_
    refine (tq_iload i_X12_builds_68 rfl rfl).trans ?_
    exact c_X12_back i_X12_builds_70 (ltd d_X12_builds (by decide)) (isA_ref _) stOk_0 rfl
theorem i_X12_builds_73 : am_i m_X12_builds 73 = some (73, .astore 15, 2, [], 0) := rfl
theorem i_X12_builds_75 : am_i m_X12_builds 75 = some (75, .iconst 0, 1, [], 0) := rfl
theorem i_X12_builds_76 : am_i m_X12_builds 76 = some (76, .istore 16, 2, [], 0) := rfl
theorem b_X12_builds_73 {a0 a8 a11 as0 : Nat} {v1 v2 v6 v7 v10 v15 v16 v17 : Value} {x3 x4 x5 x9 x12 x13 x14 : Int} {h : am_H} : rn m_X12_builds 73 [.ref a0, v1, v2, .int (mI x3), .int (mI x4), .int (mI x5), v6, v7, .ref a8, .int (mI x9), v10, .ref a11, .int (mI x12), .int (mI x13), .int (mI x14), v15, v16, v17] [.ref as0] h = rn m_X12_builds 78 [.ref a0, v1, v2, .int (mI x3), .int (mI x4), .int (mI x5), v6, v7, .ref a8, .int (mI x9), v10, .ref a11, .int (mI x12), .int (mI x13), .int (mI x14), .ref as0, .int (mI 0), v17] [] h := by
  refine (tq_astore (L' := [.ref a0, v1, v2, .int (mI x3), .int (mI x4), .int (mI x5), v6, v7, .ref a8, .int (mI x9), v10, .ref a11, .int (mI x12), .int (mI x13), .int (mI x14), .ref as0, v16, v17]) i_X12_builds_73 (isA_ref _) rfl rfl).trans ?_
  refine (tq_iconst i_X12_builds_75 rfl).trans ?_
  refine (tq_istore (L' := [.ref a0, v1, v2, .int (mI x3), .int (mI x4), .int (mI x5), v6, v7, .ref a8, .int (mI x9), v10, .ref a11, .int (mI x12), .int (mI x13), .int (mI x14), .ref as0, .int (mI 0), v17]) i_X12_builds_76 rfl rfl).trans ?_
  rfl
theorem i_X12_builds_78 : am_i m_X12_builds 78 = some (78, .iload 16, 2, [], 0) := rfl
theorem i_X12_builds_80 : am_i m_X12_builds 80 = some (80, .bipush 16, 2, [], 16) := rfl
theorem i_X12_builds_82 : am_i m_X12_builds 82 = some (82, .if_icmp .ge 47, 3, [], 0) := rfl
theorem i_X12_builds_85 : am_i m_X12_builds 85 = some (85, .bipush 16, 2, [], 16) := rfl
theorem i_X12_builds_87 : am_i m_X12_builds 87 = some (87, .iload 14, 2, [], 0) := rfl
theorem i_X12_builds_89 : am_i m_X12_builds 89 = some (89, .iload 16, 2, [], 0) := rfl
theorem i_X12_builds_91 : am_i m_X12_builds 91 = some (91, .iconst 4, 1, [], 4) := rfl
theorem i_X12_builds_92 : am_i m_X12_builds 92 = some (92, .idiv, 1, [], 0) := rfl
theorem i_X12_builds_93 : am_i m_X12_builds 93 = some (93, .iadd, 1, [], 0) := rfl
theorem i_X12_builds_94 : am_i m_X12_builds 94 = some (94, .imul, 1, [], 0) := rfl
theorem i_X12_builds_95 : am_i m_X12_builds 95 = some (95, .iload 13, 2, [], 0) := rfl
theorem i_X12_builds_97 : am_i m_X12_builds 97 = some (97, .iadd, 1, [], 0) := rfl
theorem i_X12_builds_98 : am_i m_X12_builds 98 = some (98, .iload 16, 2, [], 0) := rfl
theorem i_X12_builds_100 : am_i m_X12_builds 100 = some (100, .iconst 4, 1, [], 4) := rfl
theorem i_X12_builds_101 : am_i m_X12_builds 101 = some (101, .irem, 1, [], 0) := rfl
theorem i_X12_builds_102 : am_i m_X12_builds 102 = some (102, .iadd, 1, [], 0) := rfl
theorem i_X12_builds_103 : am_i m_X12_builds 103 = some (103, .istore 17, 2, [], 0) := rfl
theorem i_X12_builds_105 : am_i m_X12_builds 105 = some (105, .aload_n 0, 1, [], 0) := rfl
theorem i_X12_builds_106 : am_i m_X12_builds 106 = some (106, .iload 17, 2, [], 0) := rfl
theorem i_X12_builds_108 : am_i m_X12_builds 108 = some (108, .aload 11, 2, [], 0) := rfl
theorem i_X12_builds_110 : am_i m_X12_builds 110 = some (110, .iload 17, 2, [], 0) := rfl
theorem i_X12_builds_112 : am_i m_X12_builds 112 = some (112, .iaload, 1, [], 0) := rfl
theorem i_X12_builds_113 : am_i m_X12_builds 113 = some (113, .aload 15, 2, [], 0) := rfl
theorem i_X12_builds_115 : am_i m_X12_builds 115 = some (115, .iload 16, 2, [], 0) := rfl
theorem i_X12_builds_117 : am_i m_X12_builds 117 = some (117, .iaload, 1, [], 0) := rfl
theorem i_X12_builds_118 : am_i m_X12_builds 118 = some (118, .iadd, 1, [], 0) := rfl
theorem i_X12_builds_119 : am_i m_X12_builds 119 = some (119, .invokestatic 118, 3, [76], 0) := rfl
theorem i_X12_builds_122 : am_i m_X12_builds 122 = some (122, .iastore, 1, [], 0) := rfl
theorem i_X12_builds_123 : am_i m_X12_builds 123 = some (123, .iinc 16 1, 3, [], 0) := rfl
theorem i_X12_builds_126 : am_i m_X12_builds 126 = some (126, .goto (-48), 3, [], 0) := rfl
theorem i_X12_builds_129 : am_i m_X12_builds 129 = some (129, .iinc 12 1, 3, [], 0) := rfl
theorem i_X12_builds_132 : am_i m_X12_builds 132 = some (132, .goto (-110), 3, [], 0) := rfl
theorem b_X12_builds_78 {a0 a8 a11 a15 n_a11 n_a15 n_a0 : Nat} {v1 v2 v6 v7 v10 v17 : Value} {x3 x4 x5 x9 x12 x13 x14 x16 x16' : Int} {h : am_H} (w16 : wr x16 = x16') (n1 : gn h a11 = n_a11) (s2 : sh h a11 = (1, 0)) (g3 : (¬ (16 ≤ x16')) → (0 ≤ wr (((16 * (x14 + (Int.tdiv x16' 4))) + x13) + (Int.tmod x16' 4)) ∧ wr (((16 * (x14 + (Int.tdiv x16' 4))) + x13) + (Int.tmod x16' 4)) < (n_a11 : Int))) (n4 : gn h a15 = n_a15) (s5 : sh h a15 = (1, 0)) (g6 : (¬ (16 ≤ x16')) → (0 ≤ x16' ∧ x16' < (n_a15 : Int))) (n7 : gn h a0 = n_a0) (s8 : sh h a0 = (1, 0)) (g9 : (¬ (16 ≤ x16')) → (0 ≤ wr (((16 * (x14 + (Int.tdiv x16' 4))) + x13) + (Int.tmod x16' 4)) ∧ wr (((16 * (x14 + (Int.tdiv x16' 4))) + x13) + (Int.tmod x16' 4)) < (n_a0 : Int))) : rn m_X12_builds 78 [.ref a0, v1, v2, .int (mI x3), .int (mI x4), .int (mI x5), v6, v7, .ref a8, .int (mI x9), v10, .ref a11, .int (mI x12), .int (mI x13), .int (mI x14), .ref a15, .int (mI x16), v17] [] h = if 16 ≤ x16' then rn m_X12_builds 22 [.ref a0, v1, v2, .int (mI x3), .int (mI x4), .int (mI x5), v6, v7, .ref a8, .int (mI x9), v10, .ref a11, .int (mI (x12 + 1)), .int (mI x13), .int (mI x14), .ref a15, .int (mI x16), v17] [] h else rn m_X12_builds 78 [.ref a0, v1, v2, .int (mI x3), .int (mI x4), .int (mI x5), v6, v7, .ref a8, .int (mI x9), v10, .ref a11, .int (mI x12), .int (mI x13), .int (mI x14), .ref a15, .int (mI (x16 + 1)), .int (mI (((16 * (x14 + (Int.tdiv x16' 4))) + x13) + (Int.tmod x16' 4)))] [] (uZ h a0 (wr (((16 * (x14 + (Int.tdiv x16' 4))) + x13) + (Int.tmod x16' 4))) (clampv (wr ((gZ h a11 (wr (((16 * (x14 + (Int.tdiv x16' 4))) + x13) + (Int.tmod x16' 4)))) + (gZ h a15 x16'))))) := by
  refine (tq_iload i_X12_builds_78 rfl rfl).trans ?_
  refine (tq_bipush i_X12_builds_80 rfl).trans ?_
  refine (tq_icmp_ge (pt := 129) i_X12_builds_82 w16 w_16 (by decide) rfl).trans ?_
  refine ite_congr rfl (fun c1 => ?_) (fun c1 => ?_)
  · refine (tq_iinc (L' := [.ref a0, v1, v2, .int (mI x3), .int (mI x4), .int (mI x5), v6, v7, .ref a8, .int (mI x9), v10, .ref a11, .int (mI (x12 + 1)), .int (mI x13), .int (mI x14), .ref a15, .int (mI x16), v17]) i_X12_builds_129 rfl rfl rfl).trans ?_
    refine (tq_goto (pc' := 22) i_X12_builds_132 (by decide)).trans ?_
    rfl
  · refine (tq_bipush i_X12_builds_85 rfl).trans ?_
    refine (tq_iload i_X12_builds_87 rfl rfl).trans ?_
    refine (tq_iload i_X12_builds_89 rfl rfl).trans ?_
    refine (tq_iconst i_X12_builds_91 rfl).trans ?_
    refine (tq_idiv i_X12_builds_92 w16 w_4 (by decide) rfl).trans ?_
    refine (tq_iadd i_X12_builds_93 rfl).trans ?_
    refine (tq_imul i_X12_builds_94 rfl).trans ?_
    refine (tq_iload i_X12_builds_95 rfl rfl).trans ?_
    refine (tq_iadd i_X12_builds_97 rfl).trans ?_
    refine (tq_iload i_X12_builds_98 rfl rfl).trans ?_
    refine (tq_iconst i_X12_builds_100 rfl).trans ?_
    refine (tq_irem i_X12_builds_101 w16 w_4 (by decide) rfl).trans ?_
    refine (tq_iadd i_X12_builds_102 rfl).trans ?_
    refine (tq_istore (L' := [.ref a0, v1, v2, .int (mI x3), .int (mI x4), .int (mI x5), v6, v7, .ref a8, .int (mI x9), v10, .ref a11, .int (mI x12), .int (mI x13), .int (mI x14), .ref a15, .int (mI x16), .int (mI (((16 * (x14 + (Int.tdiv x16' 4))) + x13) + (Int.tmod x16' 4)))]) i_X12_builds_103 rfl rfl).trans ?_
    refine (tq_aload_n i_X12_builds_105 rfl (isA_ref _) rfl).trans ?_
    refine (tq_iload i_X12_builds_106 rfl rfl).trans ?_
    refine (tq_aload i_X12_builds_108 rfl (isA_ref _) rfl).trans ?_
    refine (tq_iload i_X12_builds_110 rfl rfl).trans ?_
    refine (tq_iaload i_X12_builds_112 s2 (by decide) rfl (g3 c1).1 (lt_gn n1 (g3 c1).2) rfl).trans ?_
    refine (tq_aload i_X12_builds_113 rfl (isA_ref _) rfl).trans ?_
    refine (tq_iload i_X12_builds_115 rfl rfl).trans ?_
    refine (tq_iaload i_X12_builds_117 s5 (by decide) w16 (g6 c1).1 (lt_gn n4 (g6 c1).2) rfl).trans ?_
    refine (tq_iadd i_X12_builds_118 rfl).trans ?_
    refine (c_X12_held i_X12_builds_119 (ltd d_X12_builds (by decide)) (stOk_2 _ _) rfl).trans ?_
    refine (congrArg (cl _ _ _ _) (held_ok rfl)).trans ?_
    refine (cl_v _ _ _ _ _ _).trans ?_
    refine (tq_iastore i_X12_builds_122 s8 rfl (g9 c1).1 (lt_gn n7 (g9 c1).2) rfl).trans ?_
    refine (tq_iinc (L' := [.ref a0, v1, v2, .int (mI x3), .int (mI x4), .int (mI x5), v6, v7, .ref a8, .int (mI x9), v10, .ref a11, .int (mI x12), .int (mI x13), .int (mI x14), .ref a15, .int (mI (x16 + 1)), .int (mI (((16 * (x14 + (Int.tdiv x16' 4))) + x13) + (Int.tmod x16' 4)))]) i_X12_builds_123 rfl rfl rfl).trans ?_
    refine (tq_goto (pc' := 78) i_X12_builds_126 (by decide)).trans ?_
    rfl
/-- how many squares a part has along a side -/
def side (Z : Int) : Int := Z / 4
theorem side_b {X Y Z T : Int} (li : lies X Y Z T) : (Z = 4 ∧ side Z = 1 ∨ Z = 8 ∧ side Z = 2) := by
  unfold side
  rcases li.1 with ⟨rfl, _, _⟩ | ⟨rfl, _, _⟩
  · left; omega
  · right; omega
/-- the number of a square within its part -/
def num (X Y Z s : Int) : Int := side Z * ((cy s - Y) / 4) + (cx s - X) / 4
theorem num_ok {X Y Z T t : Int} (li : lies X Y Z T) (ht : 0 ≤ t ∧ t < side Z * side Z) : (0 ≤ X + t % side Z * 4 ∧ X + t % side Z * 4 ≤ 12 ∧ (X + t % side Z * 4) % 4 = 0) ∧ (0 ≤ Y + t / side Z * 4 ∧ Y + t / side Z * 4 ≤ 12 ∧ (Y + t / side Z * 4) % 4 = 0) := by
  have sb := side_b li
  have l1 := li.1
  rcases sb with ⟨rfl, e⟩ | ⟨rfl, e⟩ <;> rw [e] at ht ⊢ <;> omega
theorem num_sq {X Y Z T t s : Int} (li : lies X Y Z T) (ht : 0 ≤ t ∧ t < side Z * side Z) (hs : 0 ≤ s ∧ s < 16) : s = sq (X + t % side Z * 4) (Y + t / side Z * 4) ↔ (inPart X Y Z s ∧ num X Y Z s = t) := by
  obtain ⟨⟨x0, x1, x2⟩, y0, y1, y2⟩ := num_ok li ht
  have q := sq_xy (x := X + t % side Z * 4) (y := Y + t / side Z * 4) (by omega) (by omega) x2 y2
  have sb := side_b li
  have l1 := li.1
  have cxb := cx_b s
  have cyb := cy_b s
  have key : (cx s = X + t % side Z * 4 ∧ cy s = Y + t / side Z * 4) ↔ (inPart X Y Z s ∧ num X Y Z s = t) := by
    unfold inPart num
    rcases sb with ⟨rfl, e⟩ | ⟨rfl, e⟩ <;> rw [e] at ht ⊢ <;> omega
  rw [← key]
  constructor
  · intro e
    rw [e]
    exact ⟨q.1, q.2.1⟩
  · intro ⟨e1, e2⟩
    exact c_inj hs ⟨q.2.2.1, q.2.2.2⟩ (by rw [e1, q.1]) (by rw [e2, q.2.1])
theorem num_b {X Y Z T s : Int} (li : lies X Y Z T) (h : inPart X Y Z s) : 0 ≤ num X Y Z s ∧ num X Y Z s < side Z * side Z := by
  have sb := side_b li
  have l1 := li.1
  have cxb := cx_b s
  have cyb := cy_b s
  unfold inPart at h
  unfold num
  rcases sb with ⟨rfl, e⟩ | ⟨rfl, e⟩ <;> rw [e] <;> omega
theorem builds_ok {h : am_H} {M N P V L : Nat} {r1 r2 : Option Nat} {p f1 f2 l : Int → Int} {X Y Z sl m v1 v2 q : Int} (g : gOk h M N P V r1 r2 p f1 f2 X Y Z (tp sl Y) m v1 v2) (nN : N ≤ hnx h) (nP : P < hnx h) (nV : V < hnx h) (NP : N ≤ P) (PV : P ≠ V) (PL : P ≠ L) (sL : sh h L = (1, 0)) (nL : gn h L = 256) (lL : L < hnx h) (el : gZ h L = l) (hl : ∀ i, 0 ≤ i → i < 256 → -5000 ≤ 4 * q * l i ∧ 4 * q * l i ≤ 5000) (li : lies X Y Z (tp sl Y)) (hsl : sl = 1 ∨ sl = 2) (hq : 1 ≤ q ∧ q ≤ 40) : ∃ h', rn m_X12_builds 0 [.ref P, am_rv r1, am_rv r2, .int (mI X), .int (mI Y), .int (mI Z), .int (mI m), .ref V, .ref L, .int (mI q), .int (mI sl), am_J, am_J, am_J, am_J, am_J, am_J, am_J] [] h = some (.inl none, h') ∧ Fr (fun c _ => c = P) (1 + 2 * (side Z * side Z).toNat) (256 + 32 * (side Z * side Z).toNat) h h' ∧ (∀ s k, 0 ≤ s → s < 16 → 0 ≤ k → k < 16 → (inPart X Y Z s → gZ h' P (pl s k) = clampv (gss p f1 f2 X Y Z (tp sl Y) m v1 v2 (cx s + k % 4) (cy s + k / 4) + dif q (fun j => l (pl s j)) k)) ∧ (¬ inPart X Y Z s → gZ h' P (pl s k) = p (pl s k))) := by
  have tb := tp_b sl Y
  obtain ⟨ip, mm⟩ := lies_part li tb.2
  have gb := fun a b (ha : X ≤ a ∧ a < X + Z) (hb : Y ≤ b ∧ b < Y + Z) => gOk_b g ip ha hb
  obtain ⟨hz, hX, hY, hT⟩ := ip
  have sb := side_b li
  have eS : wr (Int.tdiv (wr (Z * Z)) 16) = side Z * side Z ∧ wr (Int.tdiv Z 4) = side Z ∧ 0 < side Z ∧ 0 ≤ side Z * side Z ∧ side Z * side Z ≤ 4 := by
    rcases sb with ⟨rfl, e⟩ | ⟨rfl, e⟩ <;> rw [e] <;> decide
  obtain ⟨eS1, eS2, eS3, eS5, eS4⟩ := eS
  obtain ⟨⟨gP1, gP2, gP3, gP4⟩, -⟩ := id g
  obtain ⟨h1, e1, fr1, nx1, sG, nG, gg⟩ := guesses_ok g nN nP nV li hsl
  rw [b_X12_builds_0, e1, cl_v, b_X12_builds_17]
  have lP1 : sh h1 P = (1, 0) := (fr1.1.sh1 nP).trans gP1
  have nP1 : gn h1 P = 256 := (fr1.1.gn1 nP).trans gP2
  have gP1' : gZ h1 P = p := (frZ fr1 nP (fun q => q)).trans gP3
  have sL1 : sh h1 L = (1, 0) := (fr1.1.sh1 lL).trans sL
  have nL1 : gn h1 L = 256 := (fr1.1.gn1 lL).trans nL
  have gL1 : gZ h1 L = l := (frZ fr1 lL (fun q => q)).trans el
  refine lp (m := m_X12_builds) (pc := 22) (L := fun t (z : (Value × Value) × (Value × (Value × Value))) => [.ref P, am_rv r1, am_rv r2, .int (mI X), .int (mI Y), .int (mI Z), .int (mI m), .ref V, .ref L, .int (mI q), am_k1 (.int (mI sl)), .ref (hnx h), .int (mI t), z.1.1, z.1.2, z.2.1, z.2.2.1, z.2.2.2]) (N := side Z * side Z) (P := fun r => ∃ h', r = some (.inl none, h') ∧ Fr (fun c _ => c = P) (1 + 2 * (side Z * side Z).toNat) (256 + 32 * (side Z * side Z).toNat) h h' ∧ (∀ s k, 0 ≤ s → s < 16 → 0 ≤ k → k < 16 → (inPart X Y Z s → gZ h' P (pl s k) = clampv (gss p f1 f2 X Y Z (tp sl Y) m v1 v2 (cx s + k % 4) (cy s + k / 4) + dif q (fun j => l (pl s j)) k)) ∧ (¬ inPart X Y Z s → gZ h' P (pl s k) = p (pl s k)))) (fun t z h' => 0 ≤ t ∧ Fr (fun c _ => c = P) (2 * t.toNat) (32 * t.toNat) h1 h' ∧ (∀ s k, 0 ≤ s → s < 16 → 0 ≤ k → k < 16 → (inPart X Y Z s ∧ num X Y Z s < t → gZ h' P (pl s k) = clampv (gss p f1 f2 X Y Z (tp sl Y) m v1 v2 (cx s + k % 4) (cy s + k / 4) + dif q (fun j => l (pl s j)) k)) ∧ (¬ (inPart X Y Z s ∧ num X Y Z s < t) → gZ h' P (pl s k) = p (pl s k)))) ?_ ?_ 0 ((am_J, am_J), (am_J, (am_J, am_J))) h1 (by omega) ⟨by omega, Fr_rf _ _, fun s k s0 s1 k0 k1 => ⟨fun qq => by have := num_b li qq.1; omega, fun _ => by rw [gP1']⟩⟩
  · intro t z h' ht ⟨t0, fr, hh⟩
    obtain ⟨⟨z1, z2⟩, z3, z4, z5⟩ := z
    obtain ⟨⟨x0, x1, x2⟩, y0, y1, y2⟩ := num_ok li ⟨t0, ht⟩
    have ns := fun s (hs : 0 ≤ s ∧ s < 16) => num_sq (s := s) li ⟨t0, ht⟩ hs
    obtain ⟨c1, c2, c3, c4⟩ := sq_xy (x := X + t % side Z * 4) (y := Y + t / side Z * 4) (by omega) (by omega) x2 y2
    have inp := (ns _ ⟨c3, c4⟩).mp rfl
    generalize hst : sq (X + t % side Z * 4) (Y + t / side Z * 4) = st at *
    have ele : gZ h' L = l := (frZ fr (by omega) (fun q => PL q.symm)).trans gL1
    have ep : ∀ k, pl st k = 16 * (Y + t / side Z * 4) + (X + t % side Z * 4) + ip k := fun k => by unfold pl; rw [c1, c2]
    have blk := b_X12_builds_22 (a0 := P) (a8 := L) (a11 := hnx h) (v1 := am_rv r1) (v2 := am_rv r2) (v6 := .int (mI m)) (v7 := .ref V) (v10 := am_k1 (.int (mI sl))) (v13 := z1) (v14 := z2) (v15 := z3) (v16 := z4) (v17 := z5) (x3 := X) (x4 := Y) (x9 := q) (h := h') (wr_id (z := Z) (by omega) (by omega)) (wr_id (z := t) (by omega) (by omega))
    rw [eS1, eS2, tmd t0, tdv t0] at blk
    have blk := blk (fun _ => by omega)
    rw [if_neg (by omega)] at blk
    obtain ⟨h2, e2, fr2, nx2, sB, nB, gB⟩ := back_ok (q := q) ((fr.1.sh1 (by omega)).trans sL1) ((fr.1.gn1 (by omega)).trans nL1) (by have := fr.1.nx; omega) (X := X + t % side Z * 4) (Y := Y + t / side Z * 4) ⟨x0, x1⟩ ⟨y0, y1⟩ hq (fun k k0 k1 => by rw [ele, ← ep]; have := pl_b st k; exact hl _ this.1 this.2)
    rw [e2, cl_v, b_X12_builds_73] at blk
    have nx' := fr.1.nx
    have frA : Fr (fun c _ => c = P) (2 * t.toNat + 2) (32 * t.toNat + 32) h1 h2 := Fr_tr (U := fun c _ => c = P) fr fr2 (fun _ _ _ q => q) (fun _ _ _ q => q.elim)
    have gB' : ∀ k, 0 ≤ k → k < 16 → gZ h2 (hnx h' + 1) k = dif q (fun j => l (pl st j)) k := fun k k0 k1 => by
      rw [gB k k0 k1, ele]
      exact dif_congr (fun j j0 j1 => by rw [ep]) k
    have gG2 : ∀ k, 0 ≤ k → k < 16 → gZ h2 (hnx h) (pl st k) = gss p f1 f2 X Y Z (tp sl Y) m v1 v2 (cx st + k % 4) (cy st + k / 4) := fun k k0 k1 => by
      rw [frA.1.gZ1 _ (by omega) (by omega), (pl_xy2 ⟨c3, c4⟩ ⟨k0, k1⟩).1]
      have i1 := inp.1
      unfold inPart at i1
      exact gg _ _ (by omega) (by omega) (by omega) (by omega)
    have hh2 : ∀ s k, 0 ≤ s → s < 16 → 0 ≤ k → k < 16 → gZ h2 P (pl s k) = gZ h' P (pl s k) := fun s k s0 s1 k0 k1 => fr2.1.gZ1 _ (by omega) (fun q => q)
    have db : ∀ k, -10000 ≤ dif q (fun j => l (pl st j)) k ∧ dif q (fun j => l (pl st j)) k ≤ 10000 := fun k => by
      have := hd_b (s := fun j => 4 * q * l (pl st j)) (m := 5000) (fun j j0 j1 => by have := pl_b st j; exact hl _ this.1 this.2) k
      have e : dif q (fun j => l (pl st j)) k = (hd (fun j => 4 * q * l (pl st j)) k + 8) / 16 := rfl
      rw [e]
      omega
    refine Exists.elim (lp (m := m_X12_builds) (pc := 78) (L := fun k (z : Value) => [.ref P, am_rv r1, am_rv r2, .int (mI X), .int (mI Y), .int (mI Z), .int (mI m), .ref V, .ref L, .int (mI q), am_k1 (.int (mI sl)), .ref (hnx h), .int (mI t), .int (mI (X + t % side Z * 4)), .int (mI (Y + t / side Z * 4)), .ref (hnx h' + 1), .int (mI k), z]) (N := 16) (P := fun r => ∃ (s' : (Value × Value) × (Value × (Value × Value))), ∃ h'' : am_H, r = rn m_X12_builds 22 [.ref P, am_rv r1, am_rv r2, .int (mI X), .int (mI Y), .int (mI Z), .int (mI m), .ref V, .ref L, .int (mI q), am_k1 (.int (mI sl)), .ref (hnx h), .int (mI (t + 1)), s'.1.1, s'.1.2, s'.2.1, s'.2.2.1, s'.2.2.2] [] h'' ∧ (0 ≤ t + 1 ∧ Fr (fun c _ => c = P) (2 * (t + 1).toNat) (32 * (t + 1).toNat) h1 h'' ∧ (∀ s k, 0 ≤ s → s < 16 → 0 ≤ k → k < 16 → (inPart X Y Z s ∧ num X Y Z s < t + 1 → gZ h'' P (pl s k) = clampv (gss p f1 f2 X Y Z (tp sl Y) m v1 v2 (cx s + k % 4) (cy s + k / 4) + dif q (fun j => l (pl s j)) k)) ∧ (¬ (inPart X Y Z s ∧ num X Y Z s < t + 1) → gZ h'' P (pl s k) = p (pl s k))))) (fun k z h3 => 0 ≤ k ∧ Md (fun c _ => c = P) h2 h3 ∧ (∀ j, 0 ≤ j → j < k → gZ h3 P (pl st j) = clampv (gss p f1 f2 X Y Z (tp sl Y) m v1 v2 (cx st + j % 4) (cy st + j / 4) + dif q (fun j => l (pl st j)) j)) ∧ ∀ i, (∀ k, 0 ≤ k → k < 16 → i ≠ pl st k) → gZ h3 P i = gZ h2 P i) ?_ ?_ 0 z5 h2 (by omega) ⟨by omega, Md_rf _ _, fun j j0 j1 => by omega, fun _ _ => rfl⟩) (fun s' hs' => Exists.elim hs' fun h'' hh'' => ⟨s', h'', blk.trans hh''.1, hh''.2⟩)
    · intro k z h3 hk ⟨k0, md, d1, d2⟩
      have ik := ip16 ⟨k0, hk⟩
      have epk := ep k
      have plb := pl_b st k
      have st2 := b_X12_builds_78 (a0 := P) (a8 := L) (a11 := hnx h) (a15 := hnx h' + 1) (n_a11 := 256) (n_a15 := 16) (n_a0 := 256) (v1 := am_rv r1) (v2 := am_rv r2) (v6 := .int (mI m)) (v7 := .ref V) (v10 := am_k1 (.int (mI sl))) (v17 := z) (x3 := X) (x4 := Y) (x5 := Z) (x9 := q) (x12 := t) (x13 := X + t % side Z * 4) (x14 := Y + t / side Z * 4) (h := h3) (wr_id (z := k) (by omega) (by omega)) ((md_gn md _).trans ((frA.1.gn1 (by omega)).trans nG)) ((md_sh md _).trans ((frA.1.sh1 (by omega)).trans sG))
      have eidx : 16 * (Y + t / side Z * 4 + k / 4) + (X + t % side Z * 4) + k % 4 = pl st k := by omega
      rw [tdv k0, tmd k0, eidx, wr_id (z := pl st k) (by omega) (by omega)] at st2
      have st2 := st2 (fun _ => by omega) ((md_gn md _).trans nB) ((md_sh md _).trans sB) (fun _ => by omega) ((md_gn md _).trans ((frA.1.gn1 (by omega)).trans nP1)) ((md_sh md _).trans ((frA.1.sh1 (by omega)).trans lP1)) (fun _ => by omega)
      have c0 := gb (cx st + k % 4) (cy st + k / 4) (by have i1 := inp.1; unfold inPart at i1; omega) (by have i1 := inp.1; unfold inPart at i1; omega)
      have d0 := db k
      rw [if_neg (by omega), md_gZ md (by omega), md_gZ md (by omega), gG2 k k0 hk, gB' k k0 hk, wr_id (z := gss p f1 f2 X Y Z (tp sl Y) m v1 v2 (cx st + k % 4) (cy st + k / 4) + dif q (fun j => l (pl st j)) k) (by omega) (by omega)] at st2
      have sP3 : sh h3 P = (1, 0) := (md_sh md _).trans ((frA.1.sh1 (by omega)).trans lP1)
      refine ⟨_, _, st2, by omega, Md_tr md (Md_uZ _ _ _ _), fun j j0 j1 => ?_, fun i hi => ?_⟩
      · rw [gZ_uZ' (sh1 sP3)]
        by_cases e : pl st j = pl st k
        · have := (pl_inj ⟨c3, c4⟩ ⟨c3, c4⟩ ⟨j0, by omega⟩ ⟨k0, hk⟩ e).2
          rw [if_pos e, this, wr_clampv]
        · rw [if_neg e]
          have : j ≠ k := fun q => e (by rw [q])
          exact d1 j j0 (by omega)
      · rw [gZ_uZ_nj _ (sh1 sP3) (hi k k0 hk)]
        exact d2 i hi
    · intro z h3 ⟨k0, md, d1, d2⟩
      have st2 := b_X12_builds_78 (a0 := P) (a8 := L) (a11 := hnx h) (a15 := hnx h' + 1) (n_a11 := 256) (n_a15 := 16) (n_a0 := 256) (v1 := am_rv r1) (v2 := am_rv r2) (v6 := .int (mI m)) (v7 := .ref V) (v10 := am_k1 (.int (mI sl))) (v17 := z) (x3 := X) (x4 := Y) (x5 := Z) (x9 := q) (x12 := t) (x13 := X + t % side Z * 4) (x14 := Y + t / side Z * 4) (h := h3) (wr_id (z := 16) (by omega) (by omega)) ((md_gn md _).trans ((frA.1.gn1 (by omega)).trans nG)) ((md_sh md _).trans ((frA.1.sh1 (by omega)).trans sG)) (fun _ => by omega) ((md_gn md _).trans nB) ((md_sh md _).trans sB) (fun _ => by omega) ((md_gn md _).trans ((frA.1.gn1 (by omega)).trans nP1)) ((md_sh md _).trans ((frA.1.sh1 (by omega)).trans lP1)) (fun _ => by omega)
      rw [if_pos (by omega)] at st2
      refine ⟨((_, _), (_, (_, _))), h3, st2, by omega, Fr_mono (Fr_tr (U := fun c _ => c = P) frA (md_fr md) (fun _ _ _ q => q) (fun _ _ _ q => q)) (fun _ _ _ q => q) (by omega) (by omega), fun s k s0 s1 k0 k1 => ?_⟩
      by_cases e : s = st
      · subst e
        exact ⟨fun _ => d1 k k0 k1, fun q => absurd ⟨inp.1, by omega⟩ q⟩
      · have ne : ¬ (inPart X Y Z s ∧ num X Y Z s = t) := fun q => e ((ns s ⟨s0, s1⟩).mpr q)
        have ou : gZ h3 P (pl s k) = gZ h' P (pl s k) := (d2 _ fun j j0 j1 q => e (pl_inj ⟨s0, s1⟩ ⟨c3, c4⟩ ⟨k0, k1⟩ ⟨j0, j1⟩ q).1).trans (hh2 s k s0 s1 k0 k1)
        refine ⟨fun q => ou.trans ((hh s k s0 s1 k0 k1).1 ⟨q.1, ?_⟩), fun q => ou.trans ((hh s k s0 s1 k0 k1).2 fun q' => q ⟨q'.1, by omega⟩)⟩
        have nt : num X Y Z s ≠ t := fun w => ne ⟨q.1, w⟩
        have q2 := q.2
        omega
  · intro z h' ⟨t0, fr, hh⟩
    obtain ⟨⟨z1, z2⟩, z3, z4, z5⟩ := z
    have blk := b_X12_builds_22 (a0 := P) (a8 := L) (a11 := hnx h) (v1 := am_rv r1) (v2 := am_rv r2) (v6 := .int (mI m)) (v7 := .ref V) (v10 := am_k1 (.int (mI sl))) (v13 := z1) (v14 := z2) (v15 := z3) (v16 := z4) (v17 := z5) (x3 := X) (x4 := Y) (x9 := q) (h := h') (wr_id (z := Z) (by omega) (by omega)) (wr_id (z := side Z * side Z) (by omega) (by omega))
    rw [eS1, eS2] at blk
    have blk := blk (fun _ => by omega)
    rw [if_pos (by omega)] at blk
    refine ⟨h', blk, Fr_mono (Fr_tr (U := fun c _ => c = P) fr1 fr (fun _ _ _ q => q.elim) (fun _ _ _ q => q)) (fun _ _ _ q => q) (by omega) (by omega), fun s k s0 s1 k0 k1 => ⟨fun q => (hh s k s0 s1 k0 k1).1 ⟨q, (num_b li q).2⟩, fun q => (hh s k s0 s1 k0 k1).2 fun q' => q q'.1⟩⟩
