/-! ===== the model's slice, whole ===== -/
theorem i_X12_slice_0 : am_i m_X12_slice 0 = some (0, .aload_n 0, 1, [], 0) := rfl
theorem i_X12_slice_1 : am_i m_X12_slice 1 = some (1, .invokevirtual 274, 3, [19, 10], 0) := rfl
theorem b_X12_slice_0 {a0 a2 : Nat} {x1 : Int} {h : am_H} (k1 : K10 h a0) : rn m_X12_slice 0 [.ref a0, .int (mI x1), .ref a2, am_J, am_J, am_J, am_J, am_J] [] h = cl m_X12_slice 4 [.ref a0, .int (mI x1), .ref a2, am_J, am_J, am_J, am_J, am_J] [] (rn m_X12_begins 0 [.ref a0, am_J] [] h) := by
  refine (tq_aload_n i_X12_slice_0 rfl (isA_ref _) rfl).trans ?_
  exact c_X12_begins i_X12_slice_1 (K10_s k1) (ltd d_X12_slice (by decide)) stOk_0 rfl
theorem i_X12_slice_4 : am_i m_X12_slice 4 = some (4, .iconst 0, 1, [], 0) := rfl
theorem i_X12_slice_5 : am_i m_X12_slice 5 = some (5, .istore_n 3, 1, [], 0) := rfl
theorem b_X12_slice_4 {a0 a2 : Nat} {x1 : Int} {v3 v4 v5 v6 v7 : Value} {h : am_H} : rn m_X12_slice 4 [.ref a0, .int (mI x1), .ref a2, v3, v4, v5, v6, v7] [] h = rn m_X12_slice 6 [.ref a0, .int (mI x1), .ref a2, .int (mI 0), v4, v5, v6, v7] [] h := by
  refine (tq_iconst i_X12_slice_4 rfl).trans ?_
  refine (tq_istore_n (L' := [.ref a0, .int (mI x1), .ref a2, .int (mI 0), v4, v5, v6, v7]) i_X12_slice_5 rfl rfl).trans ?_
  rfl
theorem i_X12_slice_6 : am_i m_X12_slice 6 = some (6, .iload_n 3, 1, [], 0) := rfl
theorem i_X12_slice_7 : am_i m_X12_slice 7 = some (7, .iconst 4, 1, [], 4) := rfl
theorem i_X12_slice_8 : am_i m_X12_slice 8 = some (8, .if_icmp .ge 16, 3, [], 0) := rfl
theorem i_X12_slice_11 : am_i m_X12_slice 11 = some (11, .aload_n 0, 1, [], 0) := rfl
theorem i_X12_slice_12 : am_i m_X12_slice 12 = some (12, .getfield 98, 3, [10, 38, 0], 0) := rfl
theorem i_X12_slice_15 : am_i m_X12_slice 15 = some (15, .iload_n 3, 1, [], 0) := rfl
theorem i_X12_slice_16 : am_i m_X12_slice 16 = some (16, .iconst 0, 1, [], 0) := rfl
theorem i_X12_slice_17 : am_i m_X12_slice 17 = some (17, .iastore, 1, [], 0) := rfl
theorem i_X12_slice_18 : am_i m_X12_slice 18 = some (18, .iinc 3 1, 3, [], 0) := rfl
theorem i_X12_slice_21 : am_i m_X12_slice 21 = some (21, .goto (-15), 3, [], 0) := rfl
theorem i_X12_slice_24 : am_i m_X12_slice 24 = some (24, .iconst 0, 1, [], 0) := rfl
theorem i_X12_slice_25 : am_i m_X12_slice 25 = some (25, .istore_n 3, 1, [], 0) := rfl
theorem b_X12_slice_6 {a0 a2 : Nat} {x1 x3 x3' : Int} {v4 v5 v6 v7 : Value} {h : am_H} (w3 : wr x3 = x3') (k1 : K10 h a0) (g2 : (¬ (4 ≤ x3')) → (0 ≤ x3' ∧ x3' < (4 : Int))) : rn m_X12_slice 6 [.ref a0, .int (mI x1), .ref a2, .int (mI x3), v4, v5, v6, v7] [] h = if 4 ≤ x3' then rn m_X12_slice 26 [.ref a0, .int (mI x1), .ref a2, .int (mI 0), v4, v5, v6, v7] [] h else rn m_X12_slice 6 [.ref a0, .int (mI x1), .ref a2, .int (mI (x3 + 1)), v4, v5, v6, v7] [] (uZ h (a0 + 20) x3' 0) := by
  refine (tq_iload_n i_X12_slice_6 rfl rfl).trans ?_
  refine (tq_iconst i_X12_slice_7 rfl).trans ?_
  refine (tq_icmp_ge (pt := 24) i_X12_slice_8 w3 w_4 (by decide) rfl).trans ?_
  refine ite_congr rfl (fun c1 => ?_) (fun c1 => ?_)
  · refine (tq_iconst i_X12_slice_24 rfl).trans ?_
    refine (tq_istore_n (L' := [.ref a0, .int (mI x1), .ref a2, .int (mI 0), v4, v5, v6, v7]) i_X12_slice_25 rfl rfl).trans ?_
    rfl
  · refine (tq_aload_n i_X12_slice_11 rfl (isA_ref _) rfl).trans ?_
    refine (tq_getfield i_X12_slice_12 (K10_s k1) (gR (g_10_38 (K10_s k1)) (K10_e38 k1)) (isV_ref _) rfl).trans ?_
    refine (tq_iload_n i_X12_slice_15 rfl rfl).trans ?_
    refine (tq_iconst i_X12_slice_16 rfl).trans ?_
    refine (tq_iastore i_X12_slice_17 (K10_s38 k1) w3 (g2 c1).1 (lt_gn (K10_n38 k1) (g2 c1).2) rfl).trans ?_
    refine (tq_iinc (L' := [.ref a0, .int (mI x1), .ref a2, .int (mI (x3 + 1)), v4, v5, v6, v7]) i_X12_slice_18 rfl rfl rfl).trans ?_
    refine (tq_goto (pc' := 6) i_X12_slice_21 (by decide)).trans ?_
    rfl
theorem i_X12_slice_26 : am_i m_X12_slice 26 = some (26, .iload_n 3, 1, [], 0) := rfl
theorem i_X12_slice_27 : am_i m_X12_slice 27 = some (27, .iconst 4, 1, [], 4) := rfl
theorem i_X12_slice_28 : am_i m_X12_slice 28 = some (28, .if_icmp .ge 134, 3, [], 0) := rfl
theorem i_X12_slice_31 : am_i m_X12_slice 31 = some (31, .iload_n 3, 1, [], 0) := rfl
theorem i_X12_slice_32 : am_i m_X12_slice 32 = some (32, .iconst 2, 1, [], 2) := rfl
theorem i_X12_slice_33 : am_i m_X12_slice 33 = some (33, .irem, 1, [], 0) := rfl
theorem i_X12_slice_34 : am_i m_X12_slice 34 = some (34, .bipush 8, 2, [], 8) := rfl
theorem i_X12_slice_36 : am_i m_X12_slice 36 = some (36, .imul, 1, [], 0) := rfl
theorem i_X12_slice_37 : am_i m_X12_slice 37 = some (37, .istore 4, 2, [], 0) := rfl
theorem i_X12_slice_39 : am_i m_X12_slice 39 = some (39, .iload_n 3, 1, [], 0) := rfl
theorem i_X12_slice_40 : am_i m_X12_slice 40 = some (40, .iconst 2, 1, [], 2) := rfl
theorem i_X12_slice_41 : am_i m_X12_slice 41 = some (41, .idiv, 1, [], 0) := rfl
theorem i_X12_slice_42 : am_i m_X12_slice 42 = some (42, .bipush 8, 2, [], 8) := rfl
theorem i_X12_slice_44 : am_i m_X12_slice 44 = some (44, .imul, 1, [], 0) := rfl
theorem i_X12_slice_45 : am_i m_X12_slice 45 = some (45, .istore 5, 2, [], 0) := rfl
theorem i_X12_slice_47 : am_i m_X12_slice 47 = some (47, .aload_n 2, 1, [], 0) := rfl
theorem i_X12_slice_48 : am_i m_X12_slice 48 = some (48, .iconst 4, 1, [], 4) := rfl
theorem i_X12_slice_49 : am_i m_X12_slice 49 = some (49, .iload 5, 2, [], 0) := rfl
theorem i_X12_slice_51 : am_i m_X12_slice 51 = some (51, .iconst 4, 1, [], 4) := rfl
theorem i_X12_slice_52 : am_i m_X12_slice 52 = some (52, .idiv, 1, [], 0) := rfl
theorem i_X12_slice_53 : am_i m_X12_slice 53 = some (53, .imul, 1, [], 0) := rfl
theorem i_X12_slice_54 : am_i m_X12_slice 54 = some (54, .iload 4, 2, [], 0) := rfl
theorem i_X12_slice_56 : am_i m_X12_slice 56 = some (56, .iconst 4, 1, [], 4) := rfl
theorem i_X12_slice_57 : am_i m_X12_slice 57 = some (57, .idiv, 1, [], 0) := rfl
theorem i_X12_slice_58 : am_i m_X12_slice 58 = some (58, .iadd, 1, [], 0) := rfl
theorem i_X12_slice_59 : am_i m_X12_slice 59 = some (59, .iaload, 1, [], 0) := rfl
theorem i_X12_slice_60 : am_i m_X12_slice 60 = some (60, .istore 6, 2, [], 0) := rfl
theorem i_X12_slice_62 : am_i m_X12_slice 62 = some (62, .aload_n 0, 1, [], 0) := rfl
theorem i_X12_slice_63 : am_i m_X12_slice 63 = some (63, .getfield 29, 3, [10, 4, 0], 0) := rfl
theorem i_X12_slice_66 : am_i m_X12_slice 66 = some (66, .iconst 2, 1, [], 2) := rfl
theorem i_X12_slice_67 : am_i m_X12_slice 67 = some (67, .if_icmp .ne 13, 3, [], 0) := rfl
theorem i_X12_slice_70 : am_i m_X12_slice 70 = some (70, .iload_n 3, 1, [], 0) := rfl
theorem i_X12_slice_71 : am_i m_X12_slice 71 = some (71, .iconst 2, 1, [], 2) := rfl
theorem i_X12_slice_72 : am_i m_X12_slice 72 = some (72, .idiv, 1, [], 0) := rfl
theorem i_X12_slice_73 : am_i m_X12_slice 73 = some (73, .iload_n 1, 1, [], 0) := rfl
theorem i_X12_slice_74 : am_i m_X12_slice 74 = some (74, .if_icmp .eq 6, 3, [], 0) := rfl
theorem i_X12_slice_77 : am_i m_X12_slice 77 = some (77, .goto 79, 3, [], 0) := rfl
theorem i_X12_slice_80 : am_i m_X12_slice 80 = some (80, .aload_n 0, 1, [], 0) := rfl
theorem i_X12_slice_81 : am_i m_X12_slice 81 = some (81, .getfield 26, 3, [10, 3, 0], 0) := rfl
theorem i_X12_slice_84 : am_i m_X12_slice 84 = some (84, .iconst 1, 1, [], 1) := rfl
theorem i_X12_slice_85 : am_i m_X12_slice 85 = some (85, .iand, 1, [], 0) := rfl
theorem i_X12_slice_86 : am_i m_X12_slice 86 = some (86, .iconst 1, 1, [], 1) := rfl
theorem i_X12_slice_87 : am_i m_X12_slice 87 = some (87, .if_icmp .ne 19, 3, [], 0) := rfl
theorem i_X12_slice_90 : am_i m_X12_slice 90 = some (90, .aload_n 0, 1, [], 0) := rfl
theorem i_X12_slice_91 : am_i m_X12_slice 91 = some (91, .iconst 0, 1, [], 0) := rfl
theorem i_X12_slice_92 : am_i m_X12_slice 92 = some (92, .iload 6, 2, [], 0) := rfl
theorem i_X12_slice_94 : am_i m_X12_slice 94 = some (94, .iconst 4, 1, [], 4) := rfl
theorem i_X12_slice_95 : am_i m_X12_slice 95 = some (95, .if_icmp .ne 7, 3, [], 0) := rfl
theorem i_X12_slice_98 : am_i m_X12_slice 98 = some (98, .iconst 1, 1, [], 1) := rfl
theorem i_X12_slice_99 : am_i m_X12_slice 99 = some (99, .goto 4, 3, [], 0) := rfl
theorem i_X12_slice_102 : am_i m_X12_slice 102 = some (102, .iconst 0, 1, [], 0) := rfl
theorem i_X12_slice_103 : am_i m_X12_slice 103 = some (103, .invokevirtual 246, 3, [90, 10], 0) := rfl
theorem i_X12_slice_156 : am_i m_X12_slice 156 = some (156, .iinc 3 1, 3, [], 0) := rfl
theorem i_X12_slice_159 : am_i m_X12_slice 159 = some (159, .goto (-133), 3, [], 0) := rfl
theorem i_X12_slice_162 : am_i m_X12_slice 162 = some (162, .aload_n 0, 1, [], 0) := rfl
theorem i_X12_slice_163 : am_i m_X12_slice 163 = some (163, .getfield 226, 3, [10, 37, 0], 0) := rfl
theorem i_X12_slice_166 : am_i m_X12_slice 166 = some (166, .iconst 4, 1, [], 4) := rfl
theorem i_X12_slice_167 : am_i m_X12_slice 167 = some (167, .iadd, 1, [], 0) := rfl
theorem i_X12_slice_168 : am_i m_X12_slice 168 = some (168, .newarray .int, 2, [], 0) := rfl
theorem b_X12_slice_26 {a0 a2 n_168 n_a2 : Nat} {x1 x3 x1' x3' : Int} {v4 v5 v6 v7 : Value} {h : am_H} (w1 : wr x1 = x1') (w3 : wr x3 = x3') (k1 : K10 h a0) (g2 : (4 ≤ x3') → (wr ((fZ h a0 37) + 4) = (n_168 : Int))) (g3 : (4 ≤ x3') → (n_168 ≤ 65536)) (n4 : gn h a2 = n_a2) (s5 : sh h a2 = (1, 0)) (g6 : (¬ (4 ≤ x3')) → (0 ≤ wr ((4 * (Int.tdiv (wr ((Int.tdiv x3' 2) * 8)) 4)) + (Int.tdiv (wr ((Int.tmod x3' 2) * 8)) 4)) ∧ wr ((4 * (Int.tdiv (wr ((Int.tdiv x3' 2) * 8)) 4)) + (Int.tdiv (wr ((Int.tmod x3' 2) * 8)) 4)) < (n_a2 : Int))) : rn m_X12_slice 26 [.ref a0, .int (mI x1), .ref a2, .int (mI x3), v4, v5, v6, v7] [] h = if 4 ≤ x3' then rn m_X12_slice 170 [.ref a0, .int (mI x1), .ref a2, .int (mI x3), v4, v5, v6, v7] [.ref (hnx h)] (aI 0 n_168 h) else if ¬ (fZ h a0 4) = 2 then if ¬ ((fZ h a0 3) % 2 ^ 1) = 1 then rn m_X12_slice 106 [.ref a0, .int (mI x1), .ref a2, .int (mI x3), .int (mI ((Int.tmod x3' 2) * 8)), .int (mI ((Int.tdiv x3' 2) * 8)), .int (mI (gZ h a2 (wr ((4 * (Int.tdiv (wr ((Int.tdiv x3' 2) * 8)) 4)) + (Int.tdiv (wr ((Int.tmod x3' 2) * 8)) 4))))), v7] [] h else cl m_X12_slice 106 [.ref a0, .int (mI x1), .ref a2, .int (mI x3), .int (mI ((Int.tmod x3' 2) * 8)), .int (mI ((Int.tdiv x3' 2) * 8)), .int (mI (gZ h a2 (wr ((4 * (Int.tdiv (wr ((Int.tdiv x3' 2) * 8)) 4)) + (Int.tdiv (wr ((Int.tmod x3' 2) * 8)) 4))))), v7] [] (rn m_X12_says 0 [.ref a0, .int (mI 0), .int (mI (bZ (¬ (¬ (gZ h a2 (wr ((4 * (Int.tdiv (wr ((Int.tdiv x3' 2) * 8)) 4)) + (Int.tdiv (wr ((Int.tmod x3' 2) * 8)) 4)))) = 4)))), am_J, am_J] [] h) else if (wr (Int.tdiv x3' 2)) = x1' then if ¬ ((fZ h a0 3) % 2 ^ 1) = 1 then rn m_X12_slice 106 [.ref a0, .int (mI x1), .ref a2, .int (mI x3), .int (mI ((Int.tmod x3' 2) * 8)), .int (mI ((Int.tdiv x3' 2) * 8)), .int (mI (gZ h a2 (wr ((4 * (Int.tdiv (wr ((Int.tdiv x3' 2) * 8)) 4)) + (Int.tdiv (wr ((Int.tmod x3' 2) * 8)) 4))))), v7] [] h else cl m_X12_slice 106 [.ref a0, .int (mI x1), .ref a2, .int (mI x3), .int (mI ((Int.tmod x3' 2) * 8)), .int (mI ((Int.tdiv x3' 2) * 8)), .int (mI (gZ h a2 (wr ((4 * (Int.tdiv (wr ((Int.tdiv x3' 2) * 8)) 4)) + (Int.tdiv (wr ((Int.tmod x3' 2) * 8)) 4))))), v7] [] (rn m_X12_says 0 [.ref a0, .int (mI 0), .int (mI (bZ (¬ (¬ (gZ h a2 (wr ((4 * (Int.tdiv (wr ((Int.tdiv x3' 2) * 8)) 4)) + (Int.tdiv (wr ((Int.tmod x3' 2) * 8)) 4)))) = 4)))), am_J, am_J] [] h) else rn m_X12_slice 26 [.ref a0, .int (mI x1), .ref a2, .int (mI (x3 + 1)), .int (mI ((Int.tmod x3' 2) * 8)), .int (mI ((Int.tdiv x3' 2) * 8)), .int (mI (gZ h a2 (wr ((4 * (Int.tdiv (wr ((Int.tdiv x3' 2) * 8)) 4)) + (Int.tdiv (wr ((Int.tmod x3' 2) * 8)) 4))))), v7] [] h := by
  refine (tq_iload_n i_X12_slice_26 rfl rfl).trans ?_
  refine (tq_iconst i_X12_slice_27 rfl).trans ?_
  refine (tq_icmp_ge (pt := 162) i_X12_slice_28 w3 w_4 (by decide) rfl).trans ?_
  refine ite_congr rfl (fun c1 => ?_) (fun c1 => ?_)
  · refine (tq_aload_n i_X12_slice_162 rfl (isA_ref _) rfl).trans ?_
    refine (tq_getfield i_X12_slice_163 (K10_s k1) (g_10_37 (K10_s k1)) (isV_I _) rfl).trans ?_
    refine (tq_iconst i_X12_slice_166 rfl).trans ?_
    refine (tq_iadd i_X12_slice_167 rfl).trans ?_
    exact tq_newI (n := n_168) (t := 0) i_X12_slice_168 (g2 c1) (g3 c1) rfl (by decide) rfl rfl
  · refine (tq_iload_n i_X12_slice_31 rfl rfl).trans ?_
    refine (tq_iconst i_X12_slice_32 rfl).trans ?_
    refine (tq_irem i_X12_slice_33 w3 w_2 (by decide) rfl).trans ?_
    refine (tq_bipush i_X12_slice_34 rfl).trans ?_
    refine (tq_imul i_X12_slice_36 rfl).trans ?_
    refine (tq_istore (L' := [.ref a0, .int (mI x1), .ref a2, .int (mI x3), .int (mI ((Int.tmod x3' 2) * 8)), v5, v6, v7]) i_X12_slice_37 rfl rfl).trans ?_
    refine (tq_iload_n i_X12_slice_39 rfl rfl).trans ?_
    refine (tq_iconst i_X12_slice_40 rfl).trans ?_
    refine (tq_idiv i_X12_slice_41 w3 w_2 (by decide) rfl).trans ?_
    refine (tq_bipush i_X12_slice_42 rfl).trans ?_
    refine (tq_imul i_X12_slice_44 rfl).trans ?_
    refine (tq_istore (L' := [.ref a0, .int (mI x1), .ref a2, .int (mI x3), .int (mI ((Int.tmod x3' 2) * 8)), .int (mI ((Int.tdiv x3' 2) * 8)), v6, v7]) i_X12_slice_45 rfl rfl).trans ?_
    refine (tq_aload_n i_X12_slice_47 rfl (isA_ref _) rfl).trans ?_
    refine (tq_iconst i_X12_slice_48 rfl).trans ?_
    refine (tq_iload i_X12_slice_49 rfl rfl).trans ?_
    refine (tq_iconst i_X12_slice_51 rfl).trans ?_
    refine (tq_idiv i_X12_slice_52 rfl w_4 (by decide) rfl).trans ?_
    refine (tq_imul i_X12_slice_53 rfl).trans ?_
    refine (tq_iload i_X12_slice_54 rfl rfl).trans ?_
    refine (tq_iconst i_X12_slice_56 rfl).trans ?_
    refine (tq_idiv i_X12_slice_57 rfl w_4 (by decide) rfl).trans ?_
    refine (tq_iadd i_X12_slice_58 rfl).trans ?_
    refine (tq_iaload i_X12_slice_59 s5 (by decide) rfl (g6 c1).1 (lt_gn n4 (g6 c1).2) rfl).trans ?_
    refine (tq_istore (L' := [.ref a0, .int (mI x1), .ref a2, .int (mI x3), .int (mI ((Int.tmod x3' 2) * 8)), .int (mI ((Int.tdiv x3' 2) * 8)), .int (mI (gZ h a2 (wr ((4 * (Int.tdiv (wr ((Int.tdiv x3' 2) * 8)) 4)) + (Int.tdiv (wr ((Int.tmod x3' 2) * 8)) 4))))), v7]) i_X12_slice_60 rfl rfl).trans ?_
    refine (tq_aload_n i_X12_slice_62 rfl (isA_ref _) rfl).trans ?_
    refine (tq_getfield i_X12_slice_63 (K10_s k1) (g_10_4 (K10_s k1)) (isV_I _) rfl).trans ?_
    refine (tq_iconst i_X12_slice_66 rfl).trans ?_
    refine (tq_icmp_ne (pt := 80) i_X12_slice_67 (wr_fZ _ _ _) w_2 (by decide) rfl).trans ?_
    refine ite_congr rfl (fun c2 => ?_) (fun c2 => ?_)
    · refine (tq_aload_n i_X12_slice_80 rfl (isA_ref _) rfl).trans ?_
      refine (tq_getfield i_X12_slice_81 (K10_s k1) (g_10_3 (K10_s k1)) (isV_I _) rfl).trans ?_
      refine (tq_iconst i_X12_slice_84 rfl).trans ?_
      refine (tq_imask 1 i_X12_slice_85 (wr_fZ _ _ _) (by decide) (by decide) rfl).trans ?_
      refine (tq_iconst i_X12_slice_86 rfl).trans ?_
      refine (tq_icmp_ne (pt := 106) i_X12_slice_87 (wr_mask (by decide)) w_1 (by decide) rfl).trans ?_
      refine ite_congr rfl (fun c3 => ?_) (fun c3 => ?_)
      · rfl
      · refine (tq_aload_n i_X12_slice_90 rfl (isA_ref _) rfl).trans ?_
        refine (tq_iconst i_X12_slice_91 rfl).trans ?_
        refine (tq_iload i_X12_slice_92 rfl rfl).trans ?_
        refine (tq_iconst i_X12_slice_94 rfl).trans ?_
        refine (tq_icmp_ne (pt := 102) i_X12_slice_95 (wr_gZ _ _ _) w_4 (by decide) rfl).trans ?_
        refine Eq.trans (b := if ¬ (gZ h a2 (wr ((4 * (Int.tdiv (wr ((Int.tdiv x3' 2) * 8)) 4)) + (Int.tdiv (wr ((Int.tmod x3' 2) * 8)) 4)))) = 4 then rn m_X12_slice 103 [.ref a0, .int (mI x1), .ref a2, .int (mI x3), .int (mI ((Int.tmod x3' 2) * 8)), .int (mI ((Int.tdiv x3' 2) * 8)), .int (mI (gZ h a2 (wr ((4 * (Int.tdiv (wr ((Int.tdiv x3' 2) * 8)) 4)) + (Int.tdiv (wr ((Int.tmod x3' 2) * 8)) 4))))), v7] [.int (mI 0), .int (mI 0), .ref a0] h else rn m_X12_slice 103 [.ref a0, .int (mI x1), .ref a2, .int (mI x3), .int (mI ((Int.tmod x3' 2) * 8)), .int (mI ((Int.tdiv x3' 2) * 8)), .int (mI (gZ h a2 (wr ((4 * (Int.tdiv (wr ((Int.tdiv x3' 2) * 8)) 4)) + (Int.tdiv (wr ((Int.tmod x3' 2) * 8)) 4))))), v7] [.int (mI 1), .int (mI 0), .ref a0] h) (ite_congr rfl (fun c4 => ?_) (fun c4 => ?_)) ?_
        · refine (tq_iconst i_X12_slice_102 rfl).trans ?_
          rfl
        · refine (tq_iconst i_X12_slice_98 rfl).trans ?_
          refine (tq_goto (pc' := 103) i_X12_slice_99 (by decide)).trans ?_
          rfl
        refine Eq.trans ite_b01 ?_
        exact c_X12_says i_X12_slice_103 (K10_s k1) (ltd d_X12_slice (by decide)) stOk_0 rfl
    · refine (tq_iload_n i_X12_slice_70 rfl rfl).trans ?_
      refine (tq_iconst i_X12_slice_71 rfl).trans ?_
      refine (tq_idiv i_X12_slice_72 w3 w_2 (by decide) rfl).trans ?_
      refine (tq_iload_n i_X12_slice_73 rfl rfl).trans ?_
      refine (tq_icmp_eq (pt := 80) i_X12_slice_74 rfl w1 (by decide) rfl).trans ?_
      refine ite_congr rfl (fun c5 => ?_) (fun c5 => ?_)
      · refine (tq_aload_n i_X12_slice_80 rfl (isA_ref _) rfl).trans ?_
        refine (tq_getfield i_X12_slice_81 (K10_s k1) (g_10_3 (K10_s k1)) (isV_I _) rfl).trans ?_
        refine (tq_iconst i_X12_slice_84 rfl).trans ?_
        refine (tq_imask 1 i_X12_slice_85 (wr_fZ _ _ _) (by decide) (by decide) rfl).trans ?_
        refine (tq_iconst i_X12_slice_86 rfl).trans ?_
        refine (tq_icmp_ne (pt := 106) i_X12_slice_87 (wr_mask (by decide)) w_1 (by decide) rfl).trans ?_
        refine ite_congr rfl (fun c6 => ?_) (fun c6 => ?_)
        · rfl
        · refine (tq_aload_n i_X12_slice_90 rfl (isA_ref _) rfl).trans ?_
          refine (tq_iconst i_X12_slice_91 rfl).trans ?_
          refine (tq_iload i_X12_slice_92 rfl rfl).trans ?_
          refine (tq_iconst i_X12_slice_94 rfl).trans ?_
          refine (tq_icmp_ne (pt := 102) i_X12_slice_95 (wr_gZ _ _ _) w_4 (by decide) rfl).trans ?_
          refine Eq.trans (b := if ¬ (gZ h a2 (wr ((4 * (Int.tdiv (wr ((Int.tdiv x3' 2) * 8)) 4)) + (Int.tdiv (wr ((Int.tmod x3' 2) * 8)) 4)))) = 4 then rn m_X12_slice 103 [.ref a0, .int (mI x1), .ref a2, .int (mI x3), .int (mI ((Int.tmod x3' 2) * 8)), .int (mI ((Int.tdiv x3' 2) * 8)), .int (mI (gZ h a2 (wr ((4 * (Int.tdiv (wr ((Int.tdiv x3' 2) * 8)) 4)) + (Int.tdiv (wr ((Int.tmod x3' 2) * 8)) 4))))), v7] [.int (mI 0), .int (mI 0), .ref a0] h else rn m_X12_slice 103 [.ref a0, .int (mI x1), .ref a2, .int (mI x3), .int (mI ((Int.tmod x3' 2) * 8)), .int (mI ((Int.tdiv x3' 2) * 8)), .int (mI (gZ h a2 (wr ((4 * (Int.tdiv (wr ((Int.tdiv x3' 2) * 8)) 4)) + (Int.tdiv (wr ((Int.tmod x3' 2) * 8)) 4))))), v7] [.int (mI 1), .int (mI 0), .ref a0] h) (ite_congr rfl (fun c7 => ?_) (fun c7 => ?_)) ?_
          · refine (tq_iconst i_X12_slice_102 rfl).trans ?_
            rfl
          · refine (tq_iconst i_X12_slice_98 rfl).trans ?_
            refine (tq_goto (pc' := 103) i_X12_slice_99 (by decide)).trans ?_
            rfl
          refine Eq.trans ite_b01 ?_
          exact c_X12_says i_X12_slice_103 (K10_s k1) (ltd d_X12_slice (by decide)) stOk_0 rfl
      · refine (tq_goto (pc' := 156) i_X12_slice_77 (by decide)).trans ?_
        refine (tq_iinc (L' := [.ref a0, .int (mI x1), .ref a2, .int (mI (x3 + 1)), .int (mI ((Int.tmod x3' 2) * 8)), .int (mI ((Int.tdiv x3' 2) * 8)), .int (mI (gZ h a2 (wr ((4 * (Int.tdiv (wr ((Int.tdiv x3' 2) * 8)) 4)) + (Int.tdiv (wr ((Int.tmod x3' 2) * 8)) 4))))), v7]) i_X12_slice_156 rfl rfl rfl).trans ?_
        refine (tq_goto (pc' := 26) i_X12_slice_159 (by decide)).trans ?_
        rfl
theorem i_X12_slice_106 : am_i m_X12_slice 106 = some (106, .iconst 0, 1, [], 0) := rfl
theorem i_X12_slice_107 : am_i m_X12_slice 107 = some (107, .istore 7, 2, [], 0) := rfl
theorem b_X12_slice_106 {a0 a2 : Nat} {x1 x3 x4 x5 x6 : Int} {v7 : Value} {h : am_H} : rn m_X12_slice 106 [.ref a0, .int (mI x1), .ref a2, .int (mI x3), .int (mI x4), .int (mI x5), .int (mI x6), v7] [] h = rn m_X12_slice 109 [.ref a0, .int (mI x1), .ref a2, .int (mI x3), .int (mI x4), .int (mI x5), .int (mI x6), .int (mI 0)] [] h := by
  refine (tq_iconst i_X12_slice_106 rfl).trans ?_
  refine (tq_istore (L' := [.ref a0, .int (mI x1), .ref a2, .int (mI x3), .int (mI x4), .int (mI x5), .int (mI x6), .int (mI 0)]) i_X12_slice_107 rfl rfl).trans ?_
  rfl
theorem i_X12_slice_109 : am_i m_X12_slice 109 = some (109, .iload 7, 2, [], 0) := rfl
theorem i_X12_slice_111 : am_i m_X12_slice 111 = some (111, .iload 6, 2, [], 0) := rfl
theorem i_X12_slice_113 : am_i m_X12_slice 113 = some (113, .bipush 8, 2, [], 8) := rfl
theorem i_X12_slice_115 : am_i m_X12_slice 115 = some (115, .if_icmp .ne 7, 3, [], 0) := rfl
theorem i_X12_slice_118 : am_i m_X12_slice 118 = some (118, .iconst 1, 1, [], 1) := rfl
theorem i_X12_slice_119 : am_i m_X12_slice 119 = some (119, .goto 4, 3, [], 0) := rfl
theorem i_X12_slice_122 : am_i m_X12_slice 122 = some (122, .iconst 4, 1, [], 4) := rfl
theorem i_X12_slice_123 : am_i m_X12_slice 123 = some (123, .if_icmp .ge 33, 3, [], 0) := rfl
theorem i_X12_slice_126 : am_i m_X12_slice 126 = some (126, .aload_n 0, 1, [], 0) := rfl
theorem i_X12_slice_127 : am_i m_X12_slice 127 = some (127, .iload 4, 2, [], 0) := rfl
theorem i_X12_slice_129 : am_i m_X12_slice 129 = some (129, .iload 7, 2, [], 0) := rfl
theorem i_X12_slice_131 : am_i m_X12_slice 131 = some (131, .iconst 2, 1, [], 2) := rfl
theorem i_X12_slice_132 : am_i m_X12_slice 132 = some (132, .irem, 1, [], 0) := rfl
theorem i_X12_slice_133 : am_i m_X12_slice 133 = some (133, .iconst 4, 1, [], 4) := rfl
theorem i_X12_slice_134 : am_i m_X12_slice 134 = some (134, .imul, 1, [], 0) := rfl
theorem i_X12_slice_135 : am_i m_X12_slice 135 = some (135, .iadd, 1, [], 0) := rfl
theorem i_X12_slice_136 : am_i m_X12_slice 136 = some (136, .iload 5, 2, [], 0) := rfl
theorem i_X12_slice_138 : am_i m_X12_slice 138 = some (138, .iload 7, 2, [], 0) := rfl
theorem i_X12_slice_140 : am_i m_X12_slice 140 = some (140, .iconst 2, 1, [], 2) := rfl
theorem i_X12_slice_141 : am_i m_X12_slice 141 = some (141, .idiv, 1, [], 0) := rfl
theorem i_X12_slice_142 : am_i m_X12_slice 142 = some (142, .iconst 4, 1, [], 4) := rfl
theorem i_X12_slice_143 : am_i m_X12_slice 143 = some (143, .imul, 1, [], 0) := rfl
theorem i_X12_slice_144 : am_i m_X12_slice 144 = some (144, .iadd, 1, [], 0) := rfl
theorem i_X12_slice_145 : am_i m_X12_slice 145 = some (145, .iload 6, 2, [], 0) := rfl
theorem i_X12_slice_147 : am_i m_X12_slice 147 = some (147, .invokevirtual 277, 3, [181, 10], 0) := rfl
theorem b_X12_slice_109 {a0 a2 : Nat} {x1 x3 x4 x5 x6 x7 x6' x7' : Int} {h : am_H} (w6 : wr x6 = x6') (w7 : wr x7 = x7') (k1 : K10 h a0) : rn m_X12_slice 109 [.ref a0, .int (mI x1), .ref a2, .int (mI x3), .int (mI x4), .int (mI x5), .int (mI x6), .int (mI x7)] [] h = if (if ¬ x6' = 8 then (4 : Int) else 1) ≤ x7' then rn m_X12_slice 26 [.ref a0, .int (mI x1), .ref a2, .int (mI (x3 + 1)), .int (mI x4), .int (mI x5), .int (mI x6), .int (mI x7)] [] h else cl m_X12_slice 150 [.ref a0, .int (mI x1), .ref a2, .int (mI x3), .int (mI x4), .int (mI x5), .int (mI x6), .int (mI x7)] [] (rn m_X12_saysPart 0 [.ref a0, .int (mI (x4 + ((Int.tmod x7' 2) * 4))), .int (mI (x5 + ((Int.tdiv x7' 2) * 4))), .int (mI x6), am_J] [] h) := by
  refine (tq_iload i_X12_slice_109 rfl rfl).trans ?_
  refine (tq_iload i_X12_slice_111 rfl rfl).trans ?_
  refine (tq_bipush i_X12_slice_113 rfl).trans ?_
  refine (tq_icmp_ne (pt := 122) i_X12_slice_115 w6 w_8 (by decide) rfl).trans ?_
  refine Eq.trans (b := if ¬ x6' = 8 then rn m_X12_slice 123 [.ref a0, .int (mI x1), .ref a2, .int (mI x3), .int (mI x4), .int (mI x5), .int (mI x6), .int (mI x7)] [.int (mI 4), .int (mI x7)] h else rn m_X12_slice 123 [.ref a0, .int (mI x1), .ref a2, .int (mI x3), .int (mI x4), .int (mI x5), .int (mI x6), .int (mI x7)] [.int (mI 1), .int (mI x7)] h) (ite_congr rfl (fun c1 => ?_) (fun c1 => ?_)) ?_
  · refine (tq_iconst i_X12_slice_122 rfl).trans ?_
    rfl
  · refine (tq_iconst i_X12_slice_118 rfl).trans ?_
    refine (tq_goto (pc' := 123) i_X12_slice_119 (by decide)).trans ?_
    rfl
  refine Eq.trans ite_I ?_
  refine (tq_icmp_ge (pt := 156) i_X12_slice_123 w7 (wr_ite w_4 w_1) (by decide) rfl).trans ?_
  refine ite_congr rfl (fun c2 => ?_) (fun c2 => ?_)
  · refine (tq_iinc (L' := [.ref a0, .int (mI x1), .ref a2, .int (mI (x3 + 1)), .int (mI x4), .int (mI x5), .int (mI x6), .int (mI x7)]) i_X12_slice_156 rfl rfl rfl).trans ?_
    refine (tq_goto (pc' := 26) i_X12_slice_159 (by decide)).trans ?_
    rfl
  · refine (tq_aload_n i_X12_slice_126 rfl (isA_ref _) rfl).trans ?_
    refine (tq_iload i_X12_slice_127 rfl rfl).trans ?_
    refine (tq_iload i_X12_slice_129 rfl rfl).trans ?_
    refine (tq_iconst i_X12_slice_131 rfl).trans ?_
    refine (tq_irem i_X12_slice_132 w7 w_2 (by decide) rfl).trans ?_
    refine (tq_iconst i_X12_slice_133 rfl).trans ?_
    refine (tq_imul i_X12_slice_134 rfl).trans ?_
    refine (tq_iadd i_X12_slice_135 rfl).trans ?_
    refine (tq_iload i_X12_slice_136 rfl rfl).trans ?_
    refine (tq_iload i_X12_slice_138 rfl rfl).trans ?_
    refine (tq_iconst i_X12_slice_140 rfl).trans ?_
    refine (tq_idiv i_X12_slice_141 w7 w_2 (by decide) rfl).trans ?_
    refine (tq_iconst i_X12_slice_142 rfl).trans ?_
    refine (tq_imul i_X12_slice_143 rfl).trans ?_
    refine (tq_iadd i_X12_slice_144 rfl).trans ?_
    refine (tq_iload i_X12_slice_145 rfl rfl).trans ?_
    exact c_X12_saysPart i_X12_slice_147 (K10_s k1) (ltd d_X12_slice (by decide)) stOk_0 rfl
theorem i_X12_slice_150 : am_i m_X12_slice 150 = some (150, .iinc 7 1, 3, [], 0) := rfl
theorem i_X12_slice_153 : am_i m_X12_slice 153 = some (153, .goto (-44), 3, [], 0) := rfl
theorem b_X12_slice_150 {a0 a2 : Nat} {x1 x3 x4 x5 x6 x7 : Int} {h : am_H} : rn m_X12_slice 150 [.ref a0, .int (mI x1), .ref a2, .int (mI x3), .int (mI x4), .int (mI x5), .int (mI x6), .int (mI x7)] [] h = rn m_X12_slice 109 [.ref a0, .int (mI x1), .ref a2, .int (mI x3), .int (mI x4), .int (mI x5), .int (mI x6), .int (mI (x7 + 1))] [] h := by
  refine (tq_iinc (L' := [.ref a0, .int (mI x1), .ref a2, .int (mI x3), .int (mI x4), .int (mI x5), .int (mI x6), .int (mI (x7 + 1))]) i_X12_slice_150 rfl rfl rfl).trans ?_
  refine (tq_goto (pc' := 109) i_X12_slice_153 (by decide)).trans ?_
  rfl
theorem i_X12_slice_170 : am_i m_X12_slice 170 = some (170, .astore_n 3, 1, [], 0) := rfl
theorem i_X12_slice_171 : am_i m_X12_slice 171 = some (171, .iconst 0, 1, [], 0) := rfl
theorem i_X12_slice_172 : am_i m_X12_slice 172 = some (172, .istore 4, 2, [], 0) := rfl
theorem b_X12_slice_170 {a0 as0 : Nat} {v1 v2 v3 v4 v5 v6 v7 : Value} {h : am_H} : rn m_X12_slice 170 [.ref a0, v1, v2, v3, v4, v5, v6, v7] [.ref as0] h = rn m_X12_slice 174 [.ref a0, v1, (am_k1 v2), .ref as0, .int (mI 0), v5, v6, v7] [] h := by
  refine (tq_astore_n (L' := [.ref a0, v1, (am_k1 v2), .ref as0, v4, v5, v6, v7]) i_X12_slice_170 (isA_ref _) rfl rfl).trans ?_
  refine (tq_iconst i_X12_slice_171 rfl).trans ?_
  refine (tq_istore (L' := [.ref a0, v1, (am_k1 v2), .ref as0, .int (mI 0), v5, v6, v7]) i_X12_slice_172 rfl rfl).trans ?_
  rfl
theorem i_X12_slice_174 : am_i m_X12_slice 174 = some (174, .iload 4, 2, [], 0) := rfl
theorem i_X12_slice_176 : am_i m_X12_slice 176 = some (176, .aload_n 3, 1, [], 0) := rfl
theorem i_X12_slice_177 : am_i m_X12_slice 177 = some (177, .arraylength, 1, [], 0) := rfl
theorem i_X12_slice_178 : am_i m_X12_slice 178 = some (178, .if_icmp .ge 20, 3, [], 0) := rfl
theorem i_X12_slice_181 : am_i m_X12_slice 181 = some (181, .aload_n 3, 1, [], 0) := rfl
theorem i_X12_slice_182 : am_i m_X12_slice 182 = some (182, .iload 4, 2, [], 0) := rfl
theorem i_X12_slice_184 : am_i m_X12_slice 184 = some (184, .aload_n 0, 1, [], 0) := rfl
theorem i_X12_slice_185 : am_i m_X12_slice 185 = some (185, .getfield 92, 3, [10, 34, 0], 0) := rfl
theorem i_X12_slice_188 : am_i m_X12_slice 188 = some (188, .iload 4, 2, [], 0) := rfl
theorem i_X12_slice_190 : am_i m_X12_slice 190 = some (190, .iaload, 1, [], 0) := rfl
theorem i_X12_slice_191 : am_i m_X12_slice 191 = some (191, .iastore, 1, [], 0) := rfl
theorem i_X12_slice_192 : am_i m_X12_slice 192 = some (192, .iinc 4 1, 3, [], 0) := rfl
theorem i_X12_slice_195 : am_i m_X12_slice 195 = some (195, .goto (-21), 3, [], 0) := rfl
theorem i_X12_slice_198 : am_i m_X12_slice 198 = some (198, .aload_n 3, 1, [], 0) := rfl
theorem i_X12_slice_199 : am_i m_X12_slice 199 = some (199, .areturn, 1, [], 0) := rfl
theorem b_X12_slice_174 {a0 a3 n_a3 : Nat} {v1 v2 v5 v6 v7 : Value} {x4 x4' : Int} {h : am_H} (w4 : wr x4 = x4') (n1 : gn h a3 = n_a3) (s2 : sh h a3 = (1, 0)) (k3 : K10 h a0) (g4 : (¬ ((n_a3 : Int) ≤ x4')) → (0 ≤ x4' ∧ x4' < (8192 : Int))) (g5 : (¬ ((n_a3 : Int) ≤ x4')) → (0 ≤ x4' ∧ x4' < (n_a3 : Int))) : rn m_X12_slice 174 [.ref a0, v1, v2, .ref a3, .int (mI x4), v5, v6, v7] [] h = if (n_a3 : Int) ≤ x4' then some (.inl (some (.ref a3)), h) else rn m_X12_slice 174 [.ref a0, v1, v2, .ref a3, .int (mI (x4 + 1)), v5, v6, v7] [] (uZ h a3 x4' (gZ h (a0 + 18) x4')) := by
  refine (tq_iload i_X12_slice_174 rfl rfl).trans ?_
  refine (tq_aload_n i_X12_slice_176 rfl (isA_ref _) rfl).trans ?_
  refine (tq_alen i_X12_slice_177 s2 (by decide) (by decide) rfl).trans ?_
  rw [n1]
  refine (tq_icmp_ge (pt := 198) i_X12_slice_178 w4 (wr_len s2 n1 (by decide) (by decide)) (by decide) rfl).trans ?_
  refine ite_congr rfl (fun c1 => ?_) (fun c1 => ?_)
  · refine (tq_aload_n i_X12_slice_198 rfl (isA_ref _) rfl).trans ?_
    exact tq_areturn i_X12_slice_199 (isA_ref _) r_X12_slice rfl
  · refine (tq_aload_n i_X12_slice_181 rfl (isA_ref _) rfl).trans ?_
    refine (tq_iload i_X12_slice_182 rfl rfl).trans ?_
    refine (tq_aload_n i_X12_slice_184 rfl (isA_ref _) rfl).trans ?_
    refine (tq_getfield i_X12_slice_185 (K10_s k3) (gR (g_10_34 (K10_s k3)) (K10_e34 k3)) (isV_ref _) rfl).trans ?_
    refine (tq_iload i_X12_slice_188 rfl rfl).trans ?_
    refine (tq_iaload i_X12_slice_190 (K10_s34 k3) (by decide) w4 (g4 c1).1 (lt_gn (K10_n34 k3) (g4 c1).2) rfl).trans ?_
    refine (tq_iastore i_X12_slice_191 s2 w4 (g5 c1).1 (lt_gn n1 (g5 c1).2) rfl).trans ?_
    refine (tq_iinc (L' := [.ref a0, v1, v2, .ref a3, .int (mI (x4 + 1)), v5, v6, v7]) i_X12_slice_192 rfl rfl rfl).trans ?_
    refine (tq_goto (pc' := 174) i_X12_slice_195 (by decide)).trans ?_
    rfl
/-- the events before square s, with the block's mark -/
def pre (pd : Nat → Int → Int) (kd tl sl w : Int) (b k : Int) : List (Int × Bool) := (slS pd kd tl sl w (4 * b + k).toNat).1 ++ (if k < 4 then evE0 pd tl (4 * b + k) else [])
theorem evE0_in {pd : Nat → Int → Int} {tl s : Int} (h : ¬ s % 4 = 0) : evE0 pd tl s = [] := by unfold evE0; rw [if_neg fun g => h g.1]
theorem nC_evE0 (pd : Nat → Int → Int) (tl s : Int) : nC (evE0 pd tl s) ≤ 1 ∧ nP (evE0 pd tl s) = 0 := by
  unfold evE0
  split
  · simp only [nC, nP]
    rw [if_neg (by decide), if_neg (by decide)]
    omega
  · exact ⟨Nat.zero_le _, rfl⟩
theorem pre_Ft {pd : Nat → Int → Int} {kd tl sl w b k : Int} (h : ∀ s, 0 ≤ s → s < 16 → pdB pd s) (hb : 0 ≤ b ∧ b < 4) (hk : 0 ≤ k ∧ k < 4) : Ft (runA A0 (pre pd kd tl sl w b k)) (pre pd kd tl sl w b k).length 265 344 := by
  have f := slS_Ft (kd := kd) (tl := tl) (sl := sl) (w := w) h (i := (4 * b + k).toNat) (by omega)
  have n := nC_evE0 pd tl (4 * b + k)
  unfold pre
  rw [if_pos hk.2, runA_app, List.length_append]
  exact Ft_run _ (Ft_mono f (by omega) (by omega))
theorem pre_Ft8 {pd : Nat → Int → Int} {kd tl sl w b : Int} (h : ∀ s, 0 ≤ s → s < 16 → pdB pd s) (hb : 0 ≤ b ∧ b < 4) : Ft (runA A0 (pre pd kd tl sl w b 0)) (pre pd kd tl sl w b 0).length (51 + 213 * 4) (24 + 320 * 4) := by
  have sb := slS_b (kd := kd) (tl := tl) (sl := sl) (w := w) h (4 * b + 0).toNat (by omega)
  have n := nC_evE0 pd tl (4 * b + 0)
  have r := runA_ok (pre pd kd tl sl w b 0) okA_0 potA_0
  rw [Nat.zero_add, Nat.zero_add] at r
  have l := nCP_len (pre pd kd tl sl w b 0)
  have e1 : nC (pre pd kd tl sl w b 0) ≤ 264 * (4 * b + 0).toNat + 1 ∧ nP (pre pd kd tl sl w b 0) ≤ 344 * (4 * b + 0).toNat := by
    unfold pre
    rw [if_pos (by decide), nC_app, nP_app]
    omega
  exact ⟨_, _, r.1, r.2, by omega, by omega, by omega⟩
theorem nl_in {pd : Nat → Int → Int} {l s : Int} (h1 : ¬ s % 4 = 0) (h2 : ¬ pd 0 s = 4) : nl1 pd l s = l ∧ nl2 pd l s = l := by
  unfold nl1 nl2
  rw [if_neg (fun g => g.1.elim h1 h2), if_neg (fun g => g.1.elim h1 h2)]
  exact ⟨rfl, rfl⟩
theorem slo_blk {sl b k : Int} (hb : 0 ≤ b ∧ b < 4) (hk : 0 ≤ k ∧ k < 4) (hs : sl = 1 ∨ sl = 2) : slo sl (4 * b + k) = if sl = 2 ∧ 2 ≤ b then 1 else 0 := by
  have : 8 ≤ cy (4 * b + k) ↔ 2 ≤ b := by unfold cy; omega
  unfold slo
  by_cases c : sl = 2 ∧ 2 ≤ b
  · rw [if_pos c, if_pos (by omega)]
  · rw [if_neg c, if_neg (by omega)]
/-- a block that is not split -/
theorem pre_8 {pd : Nat → Int → Int} {kd tl sl w b : Int} (hb : 0 ≤ b ∧ b < 4) (hs : sl = 1 ∨ sl = 2) (hw : (if sl = 2 ∧ 2 ≤ b then (1 : Int) else 0) = w) (n4 : ∀ k, 0 ≤ k → k < 4 → ¬ pd 0 (4 * b + k) = 4) : slS pd kd tl sl w (4 * (b + 1)).toNat = (pre pd kd tl sl w b 0 ++ (evP kd (pd 1 (4 * b)) (pd 2 (4 * b)) (pd 3 (4 * b)) (slS pd kd tl sl w (4 * b).toNat).2.1 (slS pd kd tl sl w (4 * b).toNat).2.2 ++ evQs pd (4 * b) 4), (if pd 1 (4 * b) = 4 ∨ pd 1 (4 * b) = 6 then pd 2 (4 * b) else (slS pd kd tl sl w (4 * b).toNat).2.1, if pd 1 (4 * b) = 5 ∨ pd 1 (4 * b) = 6 then pd 3 (4 * b) else (slS pd kd tl sl w (4 * b).toNat).2.2)) := by
  have sb := fun k (hk : 0 ≤ k ∧ k < 4) => (slo_blk (sl := sl) hb hk hs).trans hw
  have a0 : slS pd kd tl sl w (4 * b + 1).toNat = _ := (slS_succ (by omega)).trans (if_pos (by have := sb 0 (by omega); rw [Int.add_zero] at this; exact this))
  have a1 : slS pd kd tl sl w (4 * b + 1 + 1).toNat = _ := (slS_succ (by omega)).trans (if_pos (sb 1 (by omega)))
  have a2 : slS pd kd tl sl w (4 * b + 1 + 1 + 1).toNat = _ := (slS_succ (by omega)).trans (if_pos (by have := sb 2 (by omega); rw [show 4 * b + 1 + 1 = 4 * b + 2 by omega]; exact this))
  have a3 : slS pd kd tl sl w (4 * b + 1 + 1 + 1 + 1).toNat = _ := (slS_succ (by omega)).trans (if_pos (by have := sb 3 (by omega); rw [show 4 * b + 1 + 1 + 1 = 4 * b + 3 by omega]; exact this))
  have e0 : ¬ pd 0 (4 * b) = 4 := by have := n4 0 (by omega) (by omega); rw [Int.add_zero] at this; exact this
  have e1 := n4 1 (by omega) (by omega)
  have e2 : ¬ pd 0 (4 * b + 1 + 1) = 4 := by have := n4 2 (by omega) (by omega); rw [show 4 * b + 1 + 1 = 4 * b + 2 by omega]; exact this
  have e3 : ¬ pd 0 (4 * b + 1 + 1 + 1) = 4 := by have := n4 3 (by omega) (by omega); rw [show 4 * b + 1 + 1 + 1 = 4 * b + 3 by omega]; exact this
  have m1 : ¬ (4 * b + 1) % 4 = 0 := by omega
  have m2 : ¬ (4 * b + 1 + 1) % 4 = 0 := by omega
  have m3 : ¬ (4 * b + 1 + 1 + 1) % 4 = 0 := by omega
  have m0 : (4 * b) % 4 = 0 := by omega
  have inn : ∀ (s l1 l2 : Int), ¬ s % 4 = 0 → ¬ pd 0 s = 4 → evE pd kd tl l1 l2 s = evQ (lvs pd s) := by
    intro s l1 l2 h1 h2
    unfold evE evE1
    rw [evE0_in h1, if_neg (fun g => g.elim h1 h2), List.nil_append, List.nil_append]
  have st : ∀ (l1 l2 : Int), evE pd kd tl l1 l2 (4 * b) = evE0 pd tl (4 * b) ++ (evP kd (pd 1 (4 * b)) (pd 2 (4 * b)) (pd 3 (4 * b)) l1 l2 ++ evQ (lvs pd (4 * b))) := by
    intro l1 l2
    unfold evE evE1
    rw [if_pos (Or.inl m0)]
  have q4 : evQs pd (4 * b) 4 = evQ (lvs pd (4 * b)) ++ (evQ (lvs pd (4 * b + 1)) ++ (evQ (lvs pd (4 * b + 1 + 1)) ++ evQ (lvs pd (4 * b + 1 + 1 + 1)))) := by
    show ((([] ++ evQ (lvs pd (4 * b + ((0 : Nat) : Int)))) ++ evQ (lvs pd (4 * b + ((1 : Nat) : Int)))) ++ evQ (lvs pd (4 * b + ((2 : Nat) : Int)))) ++ evQ (lvs pd (4 * b + ((3 : Nat) : Int))) = _
    rw [show 4 * b + ((0 : Nat) : Int) = 4 * b by omega, show 4 * b + ((1 : Nat) : Int) = 4 * b + 1 by omega, show 4 * b + ((2 : Nat) : Int) = 4 * b + 1 + 1 by omega, show 4 * b + ((3 : Nat) : Int) = 4 * b + 1 + 1 + 1 by omega, List.nil_append, List.append_assoc, List.append_assoc]
  rw [show 4 * (b + 1) = 4 * b + 1 + 1 + 1 + 1 by omega, a3, a2, a1, a0]
  simp only
  rw [(nl_in m1 e1).1, (nl_in m2 e2).1, (nl_in m3 e3).1, (nl_in m1 e1).2, (nl_in m2 e2).2, (nl_in m3 e3).2, inn _ _ _ m1 e1, inn _ _ _ m2 e2, inn _ _ _ m3 e3, st, q4]
  unfold pre nl1 nl2
  rw [if_pos (show (0 : Int) < 4 by decide), Int.add_zero]
  simp only [List.append_assoc, m0, true_or, true_and]
/-- a square of a split block -/
theorem pre_4 {pd : Nat → Int → Int} {kd tl sl w b k : Int} (hb : 0 ≤ b ∧ b < 4) (hk : 0 ≤ k ∧ k < 4) (hs : sl = 1 ∨ sl = 2) (hw : (if sl = 2 ∧ 2 ≤ b then (1 : Int) else 0) = w) (n4 : pd 0 (4 * b + k) = 4) : pre pd kd tl sl w b (k + 1) = pre pd kd tl sl w b k ++ (evP kd (pd 1 (4 * b + k)) (pd 2 (4 * b + k)) (pd 3 (4 * b + k)) (slS pd kd tl sl w (4 * b + k).toNat).2.1 (slS pd kd tl sl w (4 * b + k).toNat).2.2 ++ evQs pd (4 * b + k) 1) ∧ (slS pd kd tl sl w (4 * b + (k + 1)).toNat).2 = (if pd 1 (4 * b + k) = 4 ∨ pd 1 (4 * b + k) = 6 then pd 2 (4 * b + k) else (slS pd kd tl sl w (4 * b + k).toNat).2.1, if pd 1 (4 * b + k) = 5 ∨ pd 1 (4 * b + k) = 6 then pd 3 (4 * b + k) else (slS pd kd tl sl w (4 * b + k).toNat).2.2) := by
  have a0 : slS pd kd tl sl w (4 * b + k + 1).toNat = _ := (slS_succ (by omega)).trans (if_pos ((slo_blk (sl := sl) hb hk hs).trans hw))
  have st : ∀ (l1 l2 : Int), evE pd kd tl l1 l2 (4 * b + k) = evE0 pd tl (4 * b + k) ++ (evP kd (pd 1 (4 * b + k)) (pd 2 (4 * b + k)) (pd 3 (4 * b + k)) l1 l2 ++ evQ (lvs pd (4 * b + k))) := by
    intro l1 l2
    unfold evE evE1
    rw [if_pos (Or.inr n4)]
  have q1 : evQs pd (4 * b + k) 1 = evQ (lvs pd (4 * b + k)) := by
    show [] ++ evQ (lvs pd (4 * b + k + ((0 : Nat) : Int))) = _
    rw [show 4 * b + k + ((0 : Nat) : Int) = 4 * b + k by omega, List.nil_append]
  have tail : (if k + 1 < 4 then evE0 pd tl (4 * b + (k + 1)) else []) = [] := by
    split
    · exact evE0_in (by omega)
    · rfl
  constructor
  · unfold pre
    rw [tail, ← Int.add_assoc, a0, if_pos hk.2, q1]
    simp only
    rw [st, List.append_nil]
    simp only [List.append_assoc]
  · rw [← Int.add_assoc, a0]
    unfold nl1 nl2
    simp only [n4, or_true, true_and]
/-- the end: the bytes are taken -/
theorem sTake_ok {h : am_H} {M len : Nat} {L : Int} {v1 v2 v3 v4 v5 v6 v7 : Value} (k : K10 h M) (hl : len ≤ 4000) (al : M + 22 < hnx h) (d : Dig (gZ h (M + 18)) (len + 4) L) : ∃ h', rn m_X12_slice 170 [.ref M, v1, v2, v3, v4, v5, v6, v7] [.ref (hnx h)] (aI 0 (len + 4) h) = some (.inl (some (.ref (hnx h))), h') ∧ Fr (fun _ _ => False) 1 (len + 4) h h' ∧ hnx h' = hnx h + 1 ∧ sh h' (hnx h) = (1, 0) ∧ gn h' (hnx h) = len + 4 ∧ Dig (gZ h' (hnx h)) (len + 4) L := by
  have sA : sh (aI 0 (len + 4) h) (hnx h) = (1, 0) := sh_aI (by omega)
  have nA : gn (aI 0 (len + 4) h) (hnx h) = len + 4 := gn_aI _ _ _
  have frA : Fr (fun _ _ => False) 1 (len + 4) h (aI 0 (len + 4) h) := Fr_alc _ _ _
  have k1 := K10_fr frA al k
  have e1 : gZ (aI 0 (len + 4) h) (M + 18) = gZ h (M + 18) := frZ frA (by omega) (fun q => q)
  rw [b_X12_slice_170]
  refine lp (m := m_X12_slice) (pc := 174) (L := fun i (_ : Unit) => [.ref M, v1, am_k1 v2, .ref (hnx h), .int (mI i), v5, v6, v7]) (N := ((len + 4 : Nat) : Int)) (P := fun r => ∃ h', r = some (.inl (some (.ref (hnx h))), h') ∧ Fr (fun _ _ => False) 1 (len + 4) h h' ∧ hnx h' = hnx h + 1 ∧ sh h' (hnx h) = (1, 0) ∧ gn h' (hnx h) = len + 4 ∧ Dig (gZ h' (hnx h)) (len + 4) L) (fun i _ h' => 0 ≤ i ∧ Md (fun c _ => c = hnx h) (aI 0 (len + 4) h) h' ∧ ∀ j, 0 ≤ j → j < i → gZ h' (hnx h) j = gZ h (M + 18) j) ?_ ?_ 0 () (aI 0 (len + 4) h) (by omega) ⟨by omega, Md_rf _ _, fun j j0 j1 => by omega⟩
  · intro i _ h' hi ⟨i0, md, hh⟩
    have st := b_X12_slice_174 (a0 := M) (a3 := hnx h) (n_a3 := len + 4) (v1 := v1) (v2 := am_k1 v2) (v5 := v5) (v6 := v6) (v7 := v7) (h := h') (wr_id (z := i) (by omega) (by omega)) ((md_gn md _).trans nA) ((md_sh md _).trans sA) (K10_sm md.1 k1) (fun _ => by omega) (fun _ => by omega)
    rw [if_neg (by omega)] at st
    refine ⟨(), _, st, by omega, Md_tr md (Md_uZ _ _ _ _), fun j j0 j1 => ?_⟩
    rw [gZ_uZ' (sh1 ((md_sh md _).trans sA))]
    by_cases c : j = i
    · rw [if_pos c, wr_gZ, c, md_gZ md (by omega), e1]
    · rw [if_neg c]
      exact hh j j0 (by omega)
  · intro _ h' ⟨i0, md, hh⟩
    have st := b_X12_slice_174 (a0 := M) (a3 := hnx h) (n_a3 := len + 4) (v1 := v1) (v2 := am_k1 v2) (v5 := v5) (v6 := v6) (v7 := v7) (h := h') (wr_id (z := ((len + 4 : Nat) : Int)) (by omega) (by omega)) ((md_gn md _).trans nA) ((md_sh md _).trans sA) (K10_sm md.1 k1) (fun g => absurd (by omega) g) (fun g => absurd (by omega) g)
    rw [if_pos (by omega)] at st
    exact ⟨h', st, fr_new md, nx_new md, (md_sh md _).trans sA, (md_gn md _).trans nA, Dig_congr (fun i i0 i1 => (hh i i0 i1).symm) d⟩
