/-! ===== the class writes squares and slices ===== -/
theorem i_X8_writeSquare_0 : am_i m_X8_writeSquare 0 = some (0, .iconst (-1), 1, [], -1) := rfl
theorem i_X8_writeSquare_1 : am_i m_X8_writeSquare 1 = some (1, .istore_n 3, 1, [], 0) := rfl
theorem i_X8_writeSquare_2 : am_i m_X8_writeSquare 2 = some (2, .iconst 0, 1, [], 0) := rfl
theorem i_X8_writeSquare_3 : am_i m_X8_writeSquare 3 = some (3, .istore 4, 2, [], 0) := rfl
theorem b_X8_writeSquare_0 {a0 a1 : Nat} {x2 : Int} {h : am_H} : rn m_X8_writeSquare 0 [.ref a0, .ref a1, .int (mI x2), am_J, am_J, am_J] [] h = rn m_X8_writeSquare 5 [.ref a0, .ref a1, .int (mI x2), .int (mI (-1)), .int (mI 0), am_J] [] h := by
  refine (tq_iconst i_X8_writeSquare_0 rfl).trans ?_
  refine (tq_istore_n (L' := [.ref a0, .ref a1, .int (mI x2), .int (mI (-1)), am_J, am_J]) i_X8_writeSquare_1 rfl rfl).trans ?_
  refine (tq_iconst i_X8_writeSquare_2 rfl).trans ?_
  refine (tq_istore (L' := [.ref a0, .ref a1, .int (mI x2), .int (mI (-1)), .int (mI 0), am_J]) i_X8_writeSquare_3 rfl rfl).trans ?_
  rfl
theorem i_X8_writeSquare_5 : am_i m_X8_writeSquare 5 = some (5, .iload 4, 2, [], 0) := rfl
theorem i_X8_writeSquare_7 : am_i m_X8_writeSquare 7 = some (7, .getstatic 150, 3, [], 0) := rfl
theorem i_X8_writeSquare_10 : am_i m_X8_writeSquare 10 = some (10, .arraylength, 1, [], 0) := rfl
theorem i_X8_writeSquare_11 : am_i m_X8_writeSquare 11 = some (11, .if_icmp .ge 30, 3, [], 0) := rfl
theorem i_X8_writeSquare_14 : am_i m_X8_writeSquare 14 = some (14, .aload_n 1, 1, [], 0) := rfl
theorem i_X8_writeSquare_15 : am_i m_X8_writeSquare 15 = some (15, .iload_n 2, 1, [], 0) := rfl
theorem i_X8_writeSquare_16 : am_i m_X8_writeSquare 16 = some (16, .getstatic 150, 3, [], 0) := rfl
theorem i_X8_writeSquare_19 : am_i m_X8_writeSquare 19 = some (19, .iload 4, 2, [], 0) := rfl
theorem i_X8_writeSquare_21 : am_i m_X8_writeSquare 21 = some (21, .iaload, 1, [], 0) := rfl
theorem i_X8_writeSquare_22 : am_i m_X8_writeSquare 22 = some (22, .invokestatic 153, 3, [7], 0) := rfl
theorem i_X8_writeSquare_25 : am_i m_X8_writeSquare 25 = some (25, .iadd, 1, [], 0) := rfl
theorem i_X8_writeSquare_26 : am_i m_X8_writeSquare 26 = some (26, .invokestatic 156, 3, [32], 0) := rfl
theorem i_X8_writeSquare_29 : am_i m_X8_writeSquare 29 = some (29, .ifCond .eq 6, 3, [], 0) := rfl
theorem i_X8_writeSquare_32 : am_i m_X8_writeSquare 32 = some (32, .iload 4, 2, [], 0) := rfl
theorem i_X8_writeSquare_34 : am_i m_X8_writeSquare 34 = some (34, .istore_n 3, 1, [], 0) := rfl
theorem i_X8_writeSquare_35 : am_i m_X8_writeSquare 35 = some (35, .iinc 4 1, 3, [], 0) := rfl
theorem i_X8_writeSquare_38 : am_i m_X8_writeSquare 38 = some (38, .goto (-33), 3, [], 0) := rfl
theorem i_X8_writeSquare_41 : am_i m_X8_writeSquare 41 = some (41, .aload_n 0, 1, [], 0) := rfl
theorem i_X8_writeSquare_42 : am_i m_X8_writeSquare 42 = some (42, .getfield 21, 3, [7, 2, 0], 0) := rfl
theorem i_X8_writeSquare_45 : am_i m_X8_writeSquare 45 = some (45, .bipush 7, 2, [], 7) := rfl
theorem i_X8_writeSquare_47 : am_i m_X8_writeSquare 47 = some (47, .iload_n 3, 1, [], 0) := rfl
theorem i_X8_writeSquare_48 : am_i m_X8_writeSquare 48 = some (48, .iconst (-1), 1, [], -1) := rfl
theorem i_X8_writeSquare_49 : am_i m_X8_writeSquare 49 = some (49, .if_icmp .eq 7, 3, [], 0) := rfl
theorem i_X8_writeSquare_52 : am_i m_X8_writeSquare 52 = some (52, .iconst 1, 1, [], 1) := rfl
theorem i_X8_writeSquare_53 : am_i m_X8_writeSquare 53 = some (53, .goto 4, 3, [], 0) := rfl
theorem i_X8_writeSquare_56 : am_i m_X8_writeSquare 56 = some (56, .iconst 0, 1, [], 0) := rfl
theorem i_X8_writeSquare_57 : am_i m_X8_writeSquare 57 = some (57, .invokevirtual 59, 3, [72, 8], 0) := rfl
theorem b_X8_writeSquare_5 {a0 a1 n_0 a0_writer n_a1 : Nat} {x2 x3 x4 x3' x4' : Int} {v5 : Value} {h : am_H} (w3 : wr x3 = x3') (w4 : wr x4 = x4') (n1 : gn h 0 = n_0) (s2 : sh h 0 = (1, 7)) (k3 : K7 h a0) (e4 : fA h a0 2 = some a0_writer) (k5 : K8 h a0_writer) (g6 : (¬ ((n_0 : Int) ≤ x4')) → (0 ≤ x4' ∧ x4' < (n_0 : Int))) (g7 : (¬ ((n_0 : Int) ≤ x4')) → (0 ≤ (gZ h 0 x4') ∧ (gZ h 0 x4') < 16)) (n8 : gn h a1 = n_a1) (s9 : sh h a1 = (1, 0)) (g10 : (¬ ((n_0 : Int) ≤ x4')) → (0 ≤ (wr (x2 + (ip (gZ h 0 x4')))) ∧ (wr (x2 + (ip (gZ h 0 x4')))) < (n_a1 : Int))) : rn m_X8_writeSquare 5 [.ref a0, .ref a1, .int (mI x2), .int (mI x3), .int (mI x4), v5] [] h = if (n_0 : Int) ≤ x4' then cl m_X8_writeSquare 60 [.ref a0, .ref a1, .int (mI x2), .int (mI x3), .int (mI x4), v5] [] (rn m_X10_bit 0 [.ref a0_writer, .int (mI 7), .int (mI (bZ (¬ (x3' = (-1))))), am_J, am_J, am_J] [] h) else if (gZ h a1 (wr (x2 + (ip (gZ h 0 x4'))))) = 0 then rn m_X8_writeSquare 5 [.ref a0, .ref a1, .int (mI x2), .int (mI x3), .int (mI (x4 + 1)), v5] [] h else rn m_X8_writeSquare 5 [.ref a0, .ref a1, .int (mI x2), .int (mI x4), .int (mI (x4 + 1)), v5] [] h := by
  refine (tq_iload i_X8_writeSquare_5 rfl rfl).trans ?_
  refine (tq_getstatic i_X8_writeSquare_7 rfl).trans ?_
  refine (tq_alen i_X8_writeSquare_10 s2 (by decide) (by decide) rfl).trans ?_
  rw [n1]
  refine (tq_icmp_ge (pt := 41) i_X8_writeSquare_11 w4 (wr_len s2 n1 (by decide) (by decide)) (by decide) rfl).trans ?_
  refine ite_congr rfl (fun c1 => ?_) (fun c1 => ?_)
  · refine (tq_aload_n i_X8_writeSquare_41 rfl (isA_ref _) rfl).trans ?_
    refine (tq_getfield i_X8_writeSquare_42 (K7_s k3) (gR (g_7_2 (K7_s k3)) e4) (isV_ref _) rfl).trans ?_
    refine (tq_bipush i_X8_writeSquare_45 rfl).trans ?_
    refine (tq_iload_n i_X8_writeSquare_47 rfl rfl).trans ?_
    refine (tq_iconst i_X8_writeSquare_48 rfl).trans ?_
    refine (tq_icmp_eq (pt := 56) i_X8_writeSquare_49 w3 w_m1 (by decide) rfl).trans ?_
    refine Eq.trans (b := if x3' = (-1) then rn m_X8_writeSquare 57 [.ref a0, .ref a1, .int (mI x2), .int (mI x3), .int (mI x4), v5] [.int (mI 0), .int (mI 7), .ref a0_writer] h else rn m_X8_writeSquare 57 [.ref a0, .ref a1, .int (mI x2), .int (mI x3), .int (mI x4), v5] [.int (mI 1), .int (mI 7), .ref a0_writer] h) (ite_congr rfl (fun c2 => ?_) (fun c2 => ?_)) ?_
    · refine (tq_iconst i_X8_writeSquare_56 rfl).trans ?_
      rfl
    · refine (tq_iconst i_X8_writeSquare_52 rfl).trans ?_
      refine (tq_goto (pc' := 57) i_X8_writeSquare_53 (by decide)).trans ?_
      rfl
    refine Eq.trans ite_b01 ?_
    exact c_X10_bit i_X8_writeSquare_57 (K8_s k5) (ltd d_X8_writeSquare (by decide)) stOk_0 rfl
  · refine (tq_aload_n i_X8_writeSquare_14 rfl (isA_ref _) rfl).trans ?_
    refine (tq_iload_n i_X8_writeSquare_15 rfl rfl).trans ?_
    refine (tq_getstatic i_X8_writeSquare_16 rfl).trans ?_
    refine (tq_iload i_X8_writeSquare_19 rfl rfl).trans ?_
    refine (tq_iaload i_X8_writeSquare_21 s2 (by decide) w4 (g6 c1).1 (lt_gn n1 (g6 c1).2) rfl).trans ?_
    refine (c_X11_inPicture i_X8_writeSquare_22 (ltd d_X8_writeSquare (by decide)) (stOk_2 _ _) rfl).trans ?_
    refine (congrArg (cl _ _ _ _) (inPicture_ok (wr_gZ _ _ _) (g7 c1))).trans ?_
    refine (cl_v _ _ _ _ _ _).trans ?_
    refine (tq_iadd i_X8_writeSquare_25 rfl).trans ?_
    refine (c_X7_get i_X8_writeSquare_26 (ltd d_X8_writeSquare (by decide)) (isA_ref _) stOk_0 rfl).trans ?_
    refine (congrArg (cl _ _ _ _) (get_ok rfl n8 s9 (by decide) (g10 c1))).trans ?_
    refine (cl_v _ _ _ _ _ _).trans ?_
    refine (tq_if_eq (pt := 35) i_X8_writeSquare_29 (wr_gZ _ _ _) (by decide) rfl).trans ?_
    refine ite_congr rfl (fun c3 => ?_) (fun c3 => ?_)
    · refine (tq_iinc (L' := [.ref a0, .ref a1, .int (mI x2), .int (mI x3), .int (mI (x4 + 1)), v5]) i_X8_writeSquare_35 rfl rfl rfl).trans ?_
      refine (tq_goto (pc' := 5) i_X8_writeSquare_38 (by decide)).trans ?_
      rfl
    · refine (tq_iload i_X8_writeSquare_32 rfl rfl).trans ?_
      refine (tq_istore_n (L' := [.ref a0, .ref a1, .int (mI x2), .int (mI x4), .int (mI x4), v5]) i_X8_writeSquare_34 rfl rfl).trans ?_
      refine (tq_iinc (L' := [.ref a0, .ref a1, .int (mI x2), .int (mI x4), .int (mI (x4 + 1)), v5]) i_X8_writeSquare_35 rfl rfl rfl).trans ?_
      refine (tq_goto (pc' := 5) i_X8_writeSquare_38 (by decide)).trans ?_
      rfl
theorem i_X8_writeSquare_60 : am_i m_X8_writeSquare 60 = some (60, .iload_n 3, 1, [], 0) := rfl
theorem i_X8_writeSquare_61 : am_i m_X8_writeSquare 61 = some (61, .iconst (-1), 1, [], -1) := rfl
theorem i_X8_writeSquare_62 : am_i m_X8_writeSquare 62 = some (62, .if_icmp .ne 4, 3, [], 0) := rfl
theorem i_X8_writeSquare_65 : am_i m_X8_writeSquare 65 = some (65, .return_, 1, [], 0) := rfl
theorem i_X8_writeSquare_66 : am_i m_X8_writeSquare 66 = some (66, .aload_n 0, 1, [], 0) := rfl
theorem i_X8_writeSquare_67 : am_i m_X8_writeSquare 67 = some (67, .iload_n 3, 1, [], 0) := rfl
theorem i_X8_writeSquare_68 : am_i m_X8_writeSquare 68 = some (68, .invokevirtual 162, 3, [96, 7], 0) := rfl
theorem b_X8_writeSquare_60 {a0 a1 : Nat} {x2 x3 x3' : Int} {v4 v5 : Value} {h : am_H} (w3 : wr x3 = x3') (k1 : K7 h a0) : rn m_X8_writeSquare 60 [.ref a0, .ref a1, .int (mI x2), .int (mI x3), v4, v5] [] h = if ¬ x3' = (-1) then cl m_X8_writeSquare 71 [.ref a0, .ref a1, .int (mI x2), .int (mI x3), v4, v5] [] (rn m_X8_writeLastPlace 0 [.ref a0, .int (mI x3), am_J, am_J, am_J] [] h) else some (.inl none, h) := by
  refine (tq_iload_n i_X8_writeSquare_60 rfl rfl).trans ?_
  refine (tq_iconst i_X8_writeSquare_61 rfl).trans ?_
  refine (tq_icmp_ne (pt := 66) i_X8_writeSquare_62 w3 w_m1 (by decide) rfl).trans ?_
  refine ite_congr rfl (fun c1 => ?_) (fun c1 => ?_)
  · refine (tq_aload_n i_X8_writeSquare_66 rfl (isA_ref _) rfl).trans ?_
    refine (tq_iload_n i_X8_writeSquare_67 rfl rfl).trans ?_
    exact c_X8_writeLastPlace i_X8_writeSquare_68 (K7_s k1) (ltd d_X8_writeSquare (by decide)) stOk_0 rfl
  · exact tq_return i_X8_writeSquare_65 r_X8_writeSquare
theorem i_X8_writeSquare_71 : am_i m_X8_writeSquare 71 = some (71, .iload_n 3, 1, [], 0) := rfl
theorem i_X8_writeSquare_72 : am_i m_X8_writeSquare 72 = some (72, .istore 4, 2, [], 0) := rfl
theorem b_X8_writeSquare_71 {a0 a1 : Nat} {x2 x3 : Int} {v4 v5 : Value} {h : am_H} : rn m_X8_writeSquare 71 [.ref a0, .ref a1, .int (mI x2), .int (mI x3), v4, v5] [] h = rn m_X8_writeSquare 74 [.ref a0, .ref a1, .int (mI x2), .int (mI x3), .int (mI x3), v5] [] h := by
  refine (tq_iload_n i_X8_writeSquare_71 rfl rfl).trans ?_
  refine (tq_istore (L' := [.ref a0, .ref a1, .int (mI x2), .int (mI x3), .int (mI x3), v5]) i_X8_writeSquare_72 rfl rfl).trans ?_
  rfl
theorem i_X8_writeSquare_74 : am_i m_X8_writeSquare 74 = some (74, .iload 4, 2, [], 0) := rfl
theorem i_X8_writeSquare_76 : am_i m_X8_writeSquare 76 = some (76, .ifCond .lt 94, 3, [], 0) := rfl
theorem i_X8_writeSquare_79 : am_i m_X8_writeSquare 79 = some (79, .aload_n 1, 1, [], 0) := rfl
theorem i_X8_writeSquare_80 : am_i m_X8_writeSquare 80 = some (80, .iload_n 2, 1, [], 0) := rfl
theorem i_X8_writeSquare_81 : am_i m_X8_writeSquare 81 = some (81, .getstatic 150, 3, [], 0) := rfl
theorem i_X8_writeSquare_84 : am_i m_X8_writeSquare 84 = some (84, .iload 4, 2, [], 0) := rfl
theorem i_X8_writeSquare_86 : am_i m_X8_writeSquare 86 = some (86, .invokestatic 156, 3, [32], 0) := rfl
theorem i_X8_writeSquare_89 : am_i m_X8_writeSquare 89 = some (89, .invokestatic 153, 3, [7], 0) := rfl
theorem i_X8_writeSquare_92 : am_i m_X8_writeSquare 92 = some (92, .iadd, 1, [], 0) := rfl
theorem i_X8_writeSquare_93 : am_i m_X8_writeSquare 93 = some (93, .invokestatic 156, 3, [32], 0) := rfl
theorem i_X8_writeSquare_96 : am_i m_X8_writeSquare 96 = some (96, .istore 5, 2, [], 0) := rfl
theorem i_X8_writeSquare_98 : am_i m_X8_writeSquare 98 = some (98, .iload 4, 2, [], 0) := rfl
theorem i_X8_writeSquare_100 : am_i m_X8_writeSquare 100 = some (100, .iload_n 3, 1, [], 0) := rfl
theorem i_X8_writeSquare_101 : am_i m_X8_writeSquare 101 = some (101, .if_icmp .eq 25, 3, [], 0) := rfl
theorem i_X8_writeSquare_104 : am_i m_X8_writeSquare 104 = some (104, .aload_n 0, 1, [], 0) := rfl
theorem i_X8_writeSquare_105 : am_i m_X8_writeSquare 105 = some (105, .getfield 21, 3, [7, 2, 0], 0) := rfl
theorem i_X8_writeSquare_108 : am_i m_X8_writeSquare 108 = some (108, .bipush 48, 2, [], 48) := rfl
theorem i_X8_writeSquare_110 : am_i m_X8_writeSquare 110 = some (110, .iload 4, 2, [], 0) := rfl
theorem i_X8_writeSquare_112 : am_i m_X8_writeSquare 112 = some (112, .iadd, 1, [], 0) := rfl
theorem i_X8_writeSquare_113 : am_i m_X8_writeSquare 113 = some (113, .iload 5, 2, [], 0) := rfl
theorem i_X8_writeSquare_115 : am_i m_X8_writeSquare 115 = some (115, .ifCond .eq 7, 3, [], 0) := rfl
theorem i_X8_writeSquare_118 : am_i m_X8_writeSquare 118 = some (118, .iconst 1, 1, [], 1) := rfl
theorem i_X8_writeSquare_119 : am_i m_X8_writeSquare 119 = some (119, .goto 4, 3, [], 0) := rfl
theorem i_X8_writeSquare_122 : am_i m_X8_writeSquare 122 = some (122, .iconst 0, 1, [], 0) := rfl
theorem i_X8_writeSquare_123 : am_i m_X8_writeSquare 123 = some (123, .invokevirtual 59, 3, [72, 8], 0) := rfl
theorem i_X8_writeSquare_170 : am_i m_X8_writeSquare 170 = some (170, .return_, 1, [], 0) := rfl
theorem b_X8_writeSquare_74 {a0 a1 n_0 n_a1 a0_writer : Nat} {x2 x3 x4 x3' x4' : Int} {v5 : Value} {h : am_H} (w3 : wr x3 = x3') (w4 : wr x4 = x4') (n1 : gn h 0 = n_0) (s2 : sh h 0 = (1, 7)) (g3 : (¬ (x4' < 0)) → (0 ≤ x4' ∧ x4' < (n_0 : Int))) (g4 : (¬ (x4' < 0)) → (0 ≤ (gZ h 0 x4') ∧ (gZ h 0 x4') < 16)) (n5 : gn h a1 = n_a1) (s6 : sh h a1 = (1, 0)) (g7 : (¬ (x4' < 0)) → (0 ≤ (wr (x2 + (ip (gZ h 0 x4')))) ∧ (wr (x2 + (ip (gZ h 0 x4')))) < (n_a1 : Int))) (k8 : K7 h a0) (e9 : fA h a0 2 = some a0_writer) (k10 : K8 h a0_writer) : rn m_X8_writeSquare 74 [.ref a0, .ref a1, .int (mI x2), .int (mI x3), .int (mI x4), v5] [] h = if x4' < 0 then some (.inl none, h) else if x4' = x3' then rn m_X8_writeSquare 126 [.ref a0, .ref a1, .int (mI x2), .int (mI x3), .int (mI x4), .int (mI (gZ h a1 (wr (x2 + (ip (gZ h 0 x4'))))))] [] h else cl m_X8_writeSquare 126 [.ref a0, .ref a1, .int (mI x2), .int (mI x3), .int (mI x4), .int (mI (gZ h a1 (wr (x2 + (ip (gZ h 0 x4'))))))] [] (rn m_X10_bit 0 [.ref a0_writer, .int (mI (48 + x4)), .int (mI (bZ (¬ ((gZ h a1 (wr (x2 + (ip (gZ h 0 x4'))))) = 0)))), am_J, am_J, am_J] [] h) := by
  refine (tq_iload i_X8_writeSquare_74 rfl rfl).trans ?_
  refine (tq_if_lt (pt := 170) i_X8_writeSquare_76 w4 (by decide) rfl).trans ?_
  refine ite_congr rfl (fun c1 => ?_) (fun c1 => ?_)
  · exact tq_return i_X8_writeSquare_170 r_X8_writeSquare
  · refine (tq_aload_n i_X8_writeSquare_79 rfl (isA_ref _) rfl).trans ?_
    refine (tq_iload_n i_X8_writeSquare_80 rfl rfl).trans ?_
    refine (tq_getstatic i_X8_writeSquare_81 rfl).trans ?_
    refine (tq_iload i_X8_writeSquare_84 rfl rfl).trans ?_
    refine (c_X7_get i_X8_writeSquare_86 (ltd d_X8_writeSquare (by decide)) (isA_ref _) (stOk_2 _ _) rfl).trans ?_
    refine (congrArg (cl _ _ _ _) (get_ok w4 n1 s2 (by decide) (g3 c1))).trans ?_
    refine (cl_v _ _ _ _ _ _).trans ?_
    refine (c_X11_inPicture i_X8_writeSquare_89 (ltd d_X8_writeSquare (by decide)) (stOk_2 _ _) rfl).trans ?_
    refine (congrArg (cl _ _ _ _) (inPicture_ok (wr_gZ _ _ _) (g4 c1))).trans ?_
    refine (cl_v _ _ _ _ _ _).trans ?_
    refine (tq_iadd i_X8_writeSquare_92 rfl).trans ?_
    refine (c_X7_get i_X8_writeSquare_93 (ltd d_X8_writeSquare (by decide)) (isA_ref _) stOk_0 rfl).trans ?_
    refine (congrArg (cl _ _ _ _) (get_ok rfl n5 s6 (by decide) (g7 c1))).trans ?_
    refine (cl_v _ _ _ _ _ _).trans ?_
    refine (tq_istore (L' := [.ref a0, .ref a1, .int (mI x2), .int (mI x3), .int (mI x4), .int (mI (gZ h a1 (wr (x2 + (ip (gZ h 0 x4'))))))]) i_X8_writeSquare_96 rfl rfl).trans ?_
    refine (tq_iload i_X8_writeSquare_98 rfl rfl).trans ?_
    refine (tq_iload_n i_X8_writeSquare_100 rfl rfl).trans ?_
    refine (tq_icmp_eq (pt := 126) i_X8_writeSquare_101 w4 w3 (by decide) rfl).trans ?_
    refine ite_congr rfl (fun c2 => ?_) (fun c2 => ?_)
    · rfl
    · refine (tq_aload_n i_X8_writeSquare_104 rfl (isA_ref _) rfl).trans ?_
      refine (tq_getfield i_X8_writeSquare_105 (K7_s k8) (gR (g_7_2 (K7_s k8)) e9) (isV_ref _) rfl).trans ?_
      refine (tq_bipush i_X8_writeSquare_108 rfl).trans ?_
      refine (tq_iload i_X8_writeSquare_110 rfl rfl).trans ?_
      refine (tq_iadd i_X8_writeSquare_112 rfl).trans ?_
      refine (tq_iload i_X8_writeSquare_113 rfl rfl).trans ?_
      refine (tq_if_eq (pt := 122) i_X8_writeSquare_115 (wr_gZ _ _ _) (by decide) rfl).trans ?_
      refine Eq.trans (b := if (gZ h a1 (wr (x2 + (ip (gZ h 0 x4'))))) = 0 then rn m_X8_writeSquare 123 [.ref a0, .ref a1, .int (mI x2), .int (mI x3), .int (mI x4), .int (mI (gZ h a1 (wr (x2 + (ip (gZ h 0 x4'))))))] [.int (mI 0), .int (mI (48 + x4)), .ref a0_writer] h else rn m_X8_writeSquare 123 [.ref a0, .ref a1, .int (mI x2), .int (mI x3), .int (mI x4), .int (mI (gZ h a1 (wr (x2 + (ip (gZ h 0 x4'))))))] [.int (mI 1), .int (mI (48 + x4)), .ref a0_writer] h) (ite_congr rfl (fun c3 => ?_) (fun c3 => ?_)) ?_
      · refine (tq_iconst i_X8_writeSquare_122 rfl).trans ?_
        rfl
      · refine (tq_iconst i_X8_writeSquare_118 rfl).trans ?_
        refine (tq_goto (pc' := 123) i_X8_writeSquare_119 (by decide)).trans ?_
        rfl
      refine Eq.trans ite_b01 ?_
      exact c_X10_bit i_X8_writeSquare_123 (K8_s k10) (ltd d_X8_writeSquare (by decide)) stOk_0 rfl
theorem i_X8_writeSquare_126 : am_i m_X8_writeSquare 126 = some (126, .iload 5, 2, [], 0) := rfl
theorem i_X8_writeSquare_128 : am_i m_X8_writeSquare 128 = some (128, .ifCond .eq 36, 3, [], 0) := rfl
theorem i_X8_writeSquare_131 : am_i m_X8_writeSquare 131 = some (131, .aload_n 0, 1, [], 0) := rfl
theorem i_X8_writeSquare_132 : am_i m_X8_writeSquare 132 = some (132, .getfield 21, 3, [7, 2, 0], 0) := rfl
theorem i_X8_writeSquare_135 : am_i m_X8_writeSquare 135 = some (135, .iload 5, 2, [], 0) := rfl
theorem i_X8_writeSquare_137 : am_i m_X8_writeSquare 137 = some (137, .ifCond .ge 7, 3, [], 0) := rfl
theorem i_X8_writeSquare_140 : am_i m_X8_writeSquare 140 = some (140, .iconst 1, 1, [], 1) := rfl
theorem i_X8_writeSquare_141 : am_i m_X8_writeSquare 141 = some (141, .goto 4, 3, [], 0) := rfl
theorem i_X8_writeSquare_144 : am_i m_X8_writeSquare 144 = some (144, .iconst 0, 1, [], 0) := rfl
theorem i_X8_writeSquare_145 : am_i m_X8_writeSquare 145 = some (145, .invokevirtual 143, 3, [73, 8], 0) := rfl
theorem b_X8_writeSquare_126 {a0 a1 a0_writer : Nat} {x2 x3 x4 x5 x5' : Int} {h : am_H} (w5 : wr x5 = x5') (k1 : K7 h a0) (e2 : fA h a0 2 = some a0_writer) (k3 : K8 h a0_writer) : rn m_X8_writeSquare 126 [.ref a0, .ref a1, .int (mI x2), .int (mI x3), .int (mI x4), .int (mI x5)] [] h = if x5' = 0 then rn m_X8_writeSquare 164 [.ref a0, .ref a1, .int (mI x2), .int (mI x3), .int (mI x4), .int (mI x5)] [] h else cl m_X8_writeSquare 148 [.ref a0, .ref a1, .int (mI x2), .int (mI x3), .int (mI x4), .int (mI x5)] [] (rn m_X10_plain 0 [.ref a0_writer, .int (mI (bZ (¬ (0 ≤ x5')))), am_J, am_J] [] h) := by
  refine (tq_iload i_X8_writeSquare_126 rfl rfl).trans ?_
  refine (tq_if_eq (pt := 164) i_X8_writeSquare_128 w5 (by decide) rfl).trans ?_
  refine ite_congr rfl (fun c1 => ?_) (fun c1 => ?_)
  · rfl
  · refine (tq_aload_n i_X8_writeSquare_131 rfl (isA_ref _) rfl).trans ?_
    refine (tq_getfield i_X8_writeSquare_132 (K7_s k1) (gR (g_7_2 (K7_s k1)) e2) (isV_ref _) rfl).trans ?_
    refine (tq_iload i_X8_writeSquare_135 rfl rfl).trans ?_
    refine (tq_if_ge (pt := 144) i_X8_writeSquare_137 w5 (by decide) rfl).trans ?_
    refine Eq.trans (b := if 0 ≤ x5' then rn m_X8_writeSquare 145 [.ref a0, .ref a1, .int (mI x2), .int (mI x3), .int (mI x4), .int (mI x5)] [.int (mI 0), .ref a0_writer] h else rn m_X8_writeSquare 145 [.ref a0, .ref a1, .int (mI x2), .int (mI x3), .int (mI x4), .int (mI x5)] [.int (mI 1), .ref a0_writer] h) (ite_congr rfl (fun c2 => ?_) (fun c2 => ?_)) ?_
    · refine (tq_iconst i_X8_writeSquare_144 rfl).trans ?_
      rfl
    · refine (tq_iconst i_X8_writeSquare_140 rfl).trans ?_
      refine (tq_goto (pc' := 145) i_X8_writeSquare_141 (by decide)).trans ?_
      rfl
    refine Eq.trans ite_b01 ?_
    exact c_X10_plain i_X8_writeSquare_145 (K8_s k3) (ltd d_X8_writeSquare (by decide)) stOk_0 rfl
theorem i_X8_writeSquare_148 : am_i m_X8_writeSquare 148 = some (148, .aload_n 0, 1, [], 0) := rfl
theorem i_X8_writeSquare_149 : am_i m_X8_writeSquare 149 = some (149, .getfield 21, 3, [7, 2, 0], 0) := rfl
theorem i_X8_writeSquare_152 : am_i m_X8_writeSquare 152 = some (152, .bipush 64, 2, [], 64) := rfl
theorem i_X8_writeSquare_154 : am_i m_X8_writeSquare 154 = some (154, .iload 5, 2, [], 0) := rfl
theorem i_X8_writeSquare_156 : am_i m_X8_writeSquare 156 = some (156, .invokestatic 134, 3, [0, 0], 0) := rfl
theorem i_X8_writeSquare_159 : am_i m_X8_writeSquare 159 = some (159, .iconst 1, 1, [], 1) := rfl
theorem i_X8_writeSquare_160 : am_i m_X8_writeSquare 160 = some (160, .isub, 1, [], 0) := rfl
theorem i_X8_writeSquare_161 : am_i m_X8_writeSquare 161 = some (161, .invokevirtual 139, 3, [87, 8], 0) := rfl
theorem b_X8_writeSquare_148 {a0 a1 a0_writer : Nat} {x2 x3 x4 x5 x5' : Int} {h : am_H} (w5 : wr x5 = x5') (k1 : K7 h a0) (e2 : fA h a0 2 = some a0_writer) (k3 : K8 h a0_writer) : rn m_X8_writeSquare 148 [.ref a0, .ref a1, .int (mI x2), .int (mI x3), .int (mI x4), .int (mI x5)] [] h = cl m_X8_writeSquare 164 [.ref a0, .ref a1, .int (mI x2), .int (mI x3), .int (mI x4), .int (mI x5)] [] (rn m_X10_number 0 [.ref a0_writer, .int (mI 64), .int (mI ((max x5' (-x5')) - 1)), am_J, am_J, am_J, am_J] [] h) := by
  refine (tq_aload_n i_X8_writeSquare_148 rfl (isA_ref _) rfl).trans ?_
  refine (tq_getfield i_X8_writeSquare_149 (K7_s k1) (gR (g_7_2 (K7_s k1)) e2) (isV_ref _) rfl).trans ?_
  refine (tq_bipush i_X8_writeSquare_152 rfl).trans ?_
  refine (tq_iload i_X8_writeSquare_154 rfl rfl).trans ?_
  refine (tq_abs i_X8_writeSquare_156 w5 (Nat.le_of_ble_eq_true rfl) rfl).trans ?_
  refine (tq_iconst i_X8_writeSquare_159 rfl).trans ?_
  refine (tq_isub i_X8_writeSquare_160 rfl).trans ?_
  exact c_X10_number i_X8_writeSquare_161 (K8_s k3) (ltd d_X8_writeSquare (by decide)) stOk_0 rfl
theorem i_X8_writeSquare_164 : am_i m_X8_writeSquare 164 = some (164, .iinc 4 (-1), 3, [], 0) := rfl
theorem i_X8_writeSquare_167 : am_i m_X8_writeSquare 167 = some (167, .goto (-93), 3, [], 0) := rfl
theorem b_X8_writeSquare_164 {a0 a1 : Nat} {x2 x3 x4 : Int} {v5 : Value} {h : am_H} : rn m_X8_writeSquare 164 [.ref a0, .ref a1, .int (mI x2), .int (mI x3), .int (mI x4), v5] [] h = rn m_X8_writeSquare 74 [.ref a0, .ref a1, .int (mI x2), .int (mI x3), .int (mI (x4 + (-1))), v5] [] h := by
  refine (tq_iinc (L' := [.ref a0, .ref a1, .int (mI x2), .int (mI x3), .int (mI (x4 + (-1))), v5]) i_X8_writeSquare_164 rfl rfl rfl).trans ?_
  refine (tq_goto (pc' := 74) i_X8_writeSquare_167 (by decide)).trans ?_
  rfl
theorem lst_succ {f : Int → Int} {i : Int} (h : 0 ≤ i) : lst f (i + 1).toNat = if f i = 0 then lst f i.toNat else i := by
  obtain ⟨n, rfl⟩ : ∃ n : Nat, i = n := ⟨i.toNat, by omega⟩
  rw [show ((n : Int) + 1).toNat = n + 1 by omega, show ((n : Int)).toNat = n by omega]
  rfl
theorem n_evN64 {z : Int} (h : -1020 ≤ z ∧ z ≤ 1020) : nC (evN 64 (iabs z - 1)) ≤ 12 ∧ nP (evN 64 (iabs z - 1)) ≤ 19 := by
  have a := nC_evN (c := 64) (n := iabs z - 1) (by decide)
  have p : (2 : Int) ^ (9 + 1) = 1024 := by decide
  by_cases g : 11 < iabs z - 1
  · rw [if_pos g] at a
    have := hl_b (m := iabs z - 1 - 11) (t := 9) (by omega) (by unfold iabs; omega)
    omega
  · rw [if_neg g] at a
    omega
theorem wLv_ok {S w L n0 : Nat} {fr l : Int} {f : Int → Int} (hl : 0 ≤ l ∧ l < 16) (hfr : 0 ≤ fr ∧ fr ≤ 100000) (hb : ∀ k, 0 ≤ k → k < 16 → 0 ≤ fr + ip (rowp k) ∧ fr + ip (rowp k) < (n0 : Int)) (hf : ∀ k, 0 ≤ k → k < 16 → -1020 ≤ f k ∧ f k ≤ 1020) (nL : L ≠ w ∧ L ≠ w + 1 ∧ L ≠ w + 2) : ∀ (n : Nat) (h : am_H) (A : cA) (e : Nat) (v5 : Value), (n : Int) ≤ l + 1 → WSt h S w → WR h w A e → sh h L = (1, 0) → gn h L = n0 → (∀ k, 0 ≤ k → k < 16 → gZ h L (fr + ip (rowp k)) = f k) → Ft A e (13 * n) (20 * n) → ∃ h', rn m_X8_writeSquare 74 [.ref S, .ref L, .int (mI fr), .int (mI l), .int (mI ((n : Int) - 1)), v5] [] h = some (.inl none, h') ∧ Wr h h' w A e (evW f l n)
  | 0, h, A, e, v5, hn, s, q, sL, gL, hh, ft => by
    have st := b_X8_writeSquare_74 (a0 := S) (a1 := L) (n_0 := 16) (n_a1 := n0) (x2 := fr) (x3 := l) (x4 := ((0 : Nat) : Int) - 1) (v5 := v5) (h := h) (wr_id (by omega) (by omega)) (wr_id (by omega) (by omega)) s.2.2.2.2.1 s.2.2.2.2.2.1 (fun g => absurd (by omega) g) (fun g => absurd (by omega) g) gL sL (fun g => absurd (by omega) g) s.2.1 s.2.2.1 q.1
    rw [if_pos (by omega)] at st
    exact ⟨h, st, Wr_nil q⟩
  | n + 1, h, A, e, v5, hn, s, q, sL, gL, hh, ft => by
    have en : ((n + 1 : Nat) : Int) - 1 = n := by omega
    have rn0 := s.2.2.2.2.2.2 n (by omega) (by omega)
    have rb := rowp_b (k := n) ⟨by omega, by omega⟩
    have pb := hb n (by omega) (by omega)
    have fb := hf n (by omega) (by omega)
    have wp : wr (fr + ip (gZ h 0 n)) = fr + ip (rowp n) := by rw [rn0]; exact wr_id (by unfold ip at *; omega) (by unfold ip at *; omega)
    rw [en]
    have st := b_X8_writeSquare_74 (a0 := S) (a1 := L) (n_0 := 16) (n_a1 := n0) (x2 := fr) (x3 := l) (x4 := (n : Int)) (v5 := v5) (h := h) (wr_id (by omega) (by omega)) (wr_id (by omega) (by omega)) s.2.2.2.2.1 s.2.2.2.2.2.1 (fun _ => by omega) (fun _ => by rw [rn0]; omega) gL sL (fun _ => by rw [wp]; exact pb) s.2.1 s.2.2.1 q.1
    rw [if_neg (by omega), wp, hh n (by omega) (by omega), bZ_congr (q := f n ≠ 0) Iff.rfl] at st
    have nn := n_evN64 fb
    -- is it a level
    have one : ∃ h1, rn m_X8_writeSquare 74 [.ref S, .ref L, .int (mI fr), .int (mI l), .int (mI (n : Int)), v5] [] h = rn m_X8_writeSquare 126 [.ref S, .ref L, .int (mI fr), .int (mI l), .int (mI (n : Int)), .int (mI (f n))] [] h1 ∧ Wr h h1 w A e (if (n : Int) = l then [] else [(48 + (n : Int), decide (f n ≠ 0))]) ∧ Ft (runA A (if (n : Int) = l then [] else [(48 + (n : Int), decide (f n ≠ 0))])) (e + (if (n : Int) = l then [] else [(48 + (n : Int), decide (f n ≠ 0))] : List (Int × Bool)).length) (13 * n + 12) (20 * (n + 1)) := by
      by_cases g : (n : Int) = l
      · rw [if_pos g] at st
        rw [if_pos g]
        exact ⟨h, st, Wr_nil q, Ft_mono ft (by omega) (by omega)⟩
      · rw [if_neg g] at st
        rw [if_neg g]
        obtain ⟨h1, e1, r1⟩ := bitP (x1 := 48 + n) (p := f n ≠ 0) (wr_id (by omega) (by omega)) q (Ft_mono ft (by omega) (by omega)) (by omega)
        rw [e1, cl_n] at st
        exact ⟨h1, st, r1, Ft_b (by omega) (Ft_mono ft (by omega) (by omega))⟩
    obtain ⟨h1, e1, r1, f1⟩ := one
    have s1 := WSt_md r1.1 s
    have st1 := b_X8_writeSquare_126 (a0 := S) (a1 := L) (x2 := fr) (x3 := l) (x4 := (n : Int)) (x5 := f n) (h := h1) (wr_id (by omega) (by omega)) s1.2.1 s1.2.2.1 r1.2.1
    have two : ∃ h2, rn m_X8_writeSquare 126 [.ref S, .ref L, .int (mI fr), .int (mI l), .int (mI (n : Int)), .int (mI (f n))] [] h1 = rn m_X8_writeSquare 74 [.ref S, .ref L, .int (mI fr), .int (mI l), .int (mI ((n : Int) - 1)), .int (mI (f n))] [] h2 ∧ Wr h h2 w A e (evX f l n) ∧ Ft (runA A (evX f l n)) (e + (evX f l n).length) (13 * n) (20 * n) := by
      unfold evX
      by_cases z : f n = 0
      · rw [if_pos z, b_X8_writeSquare_164] at st1
        rw [if_pos z, List.append_nil]
        exact ⟨h1, st1, r1, Ft_mono f1 (by omega) (by omega)⟩
      · rw [if_neg z, bZ_congr (q := f n < 0) (by omega)] at st1
        rw [if_neg z]
        obtain ⟨h2, e2, r2⟩ := plainP (p := f n < 0) r1.2 (Ft_mono f1 (by omega) (by omega))
        have s2 := WSt_md r2.1 s1
        have f2 := Ft_p (b := decide (f n < 0)) (Ft_mono f1 (Nat.le_refl _) (show 20 * n + 19 + 1 ≤ 20 * (n + 1) by omega))
        have st2 := b_X8_writeSquare_148 (a0 := S) (a1 := L) (x2 := fr) (x3 := l) (x4 := (n : Int)) (x5 := f n) (h := h2) (wr_id (by omega) (by omega)) s2.2.1 s2.2.2.1 r2.2.1
        have ia : max (f n) (-(f n)) = iabs (f n) := rfl
        rw [ia] at st2
        obtain ⟨h3, e3, r3⟩ := number_ok (c := 64) (n := iabs (f n) - 1) r2.2 (Ft_mono f2 (by omega) (by omega)) (by decide) (by unfold iabs; omega)
        rw [e2, cl_n, st2, e3, cl_n, b_X8_writeSquare_164] at st1
        have r4 : Wr h h3 w A e ((if (n : Int) = l then [] else [(48 + (n : Int), decide (f n ≠ 0))]) ++ ([(-1, decide (f n < 0))] ++ evN 64 (iabs (f n) - 1))) := Wr_tr r1 (Wr_tr r2 r3)
        refine ⟨h3, st1, r4, ?_⟩
        have f3 := Ft_run (nc := 13 * n) (np := 20 * n) (evN 64 (iabs (f n) - 1)) (Ft_mono f2 (by omega) (by omega))
        rw [runA_app, List.length_append, ← Nat.add_assoc]
        have e9 : (-1, decide (f n < 0)) :: evN 64 (iabs (f n) - 1) = [((-1 : Int), decide (f n < 0))] ++ evN 64 (iabs (f n) - 1) := rfl
        rw [e9, runA_app, List.length_append, ← Nat.add_assoc]
        exact f3
    obtain ⟨h2, e2, r2, f2⟩ := two
    have s2 := WSt_md r2.1 s
    obtain ⟨h3, e3, r3⟩ := wLv_ok hl hfr hb hf nL n h2 _ _ (.int (mI (f n))) (by omega) s2 r2.2 ((md_sh r2.1 _).trans sL) ((md_gn r2.1 _).trans gL) (fun k k0 k1 => (md_gZ r2.1 (SW_n nL) _).trans (hh k k0 k1)) f2
    exact ⟨h3, e1.trans (e2.trans e3), Wr_tr r2 r3⟩
theorem wQ_ok {h : am_H} {S w L n0 e : Nat} {A : cA} {fr : Int} {f : Int → Int} (s : WSt h S w) (q : WR h w A e) (sL : sh h L = (1, 0)) (gL : gn h L = n0) (nL : L ≠ w ∧ L ≠ w + 1 ∧ L ≠ w + 2) (hfr : 0 ≤ fr ∧ fr ≤ 100000) (hb : ∀ k, 0 ≤ k → k < 16 → 0 ≤ fr + ip (rowp k) ∧ fr + ip (rowp k) < (n0 : Int)) (hf : ∀ k, 0 ≤ k → k < 16 → -1020 ≤ f k ∧ f k ≤ 1020) (hh : ∀ k, 0 ≤ k → k < 16 → gZ h L (fr + ip (rowp k)) = f k) (ft : Ft A e 213 320) : ∃ h', rn m_X8_writeSquare 0 [.ref S, .ref L, .int (mI fr), am_J, am_J, am_J] [] h = some (.inl none, h') ∧ Wr h h' w A e (evQ f) := by
  have lb := lst_b f 16
  rw [b_X8_writeSquare_0]
  have rb := fun k (k0 : 0 ≤ k ∧ k < 16) => rowp_b k0
  have blk : ∀ (u i : Int), 0 ≤ i → i ≤ 16 → -1 ≤ u → u < 16 → rn m_X8_writeSquare 5 [.ref S, .ref L, .int (mI fr), .int (mI u), .int (mI i), am_J] [] h = if 16 ≤ i then cl m_X8_writeSquare 60 [.ref S, .ref L, .int (mI fr), .int (mI u), .int (mI i), am_J] [] (rn m_X10_bit 0 [.ref w, .int (mI 7), .int (mI (bZ (u ≠ -1))), am_J, am_J, am_J] [] h) else rn m_X8_writeSquare 5 [.ref S, .ref L, .int (mI fr), .int (mI (if f i = 0 then u else i)), .int (mI (i + 1)), am_J] [] h := by
    intro u i i0 i1 u0 u1
    have st := b_X8_writeSquare_5 (a0 := S) (a1 := L) (n_0 := 16) (n_a1 := n0) (x2 := fr) (x3 := u) (x4 := i) (v5 := am_J) (h := h) (wr_id (by omega) (by omega)) (wr_id (by omega) (by omega)) s.2.2.2.2.1 s.2.2.2.2.2.1 s.2.1 s.2.2.1 q.1 (fun _ => by omega) (fun g => by rw [s.2.2.2.2.2.2 i i0 (by omega)]; have := rb i ⟨i0, by omega⟩; omega) gL sL (fun g => by
      have pb := hb i i0 (by omega)
      rw [s.2.2.2.2.2.2 i i0 (by omega), wr_id (by unfold ip at *; have := rb i ⟨i0, by omega⟩; omega) (by unfold ip at *; have := rb i ⟨i0, by omega⟩; omega)]
      exact pb)
    by_cases c : 16 ≤ i
    · rw [if_pos (by omega)] at st
      rw [if_pos c]
      exact st
    · have pb := hb i i0 (by omega)
      rw [if_neg (by omega), s.2.2.2.2.2.2 i i0 (by omega), wr_id (by unfold ip at *; have := rb i ⟨i0, by omega⟩; omega) (by unfold ip at *; have := rb i ⟨i0, by omega⟩; omega), hh i i0 (by omega)] at st
      rw [if_neg c, st]
      by_cases z : f i = 0
      · rw [if_pos z, if_pos z]
      · rw [if_neg z, if_neg z]
  refine lp (m := m_X8_writeSquare) (pc := 5) (L := fun i (u : Int) => [.ref S, .ref L, .int (mI fr), .int (mI u), .int (mI i), am_J]) (N := 16) (P := fun r => ∃ h', r = some (.inl none, h') ∧ Wr h h' w A e (evQ f)) (fun i u h2 => 0 ≤ i ∧ h2 = h ∧ u = lst f i.toNat) ?_ ?_ 0 (-1) h (by omega) ⟨by omega, rfl, rfl⟩
  · intro i u h2 hi ⟨i0, eh, eu⟩
    subst eh
    have lb := lst_b f i.toNat
    refine ⟨_, h2, (blk u i i0 (by omega) (by omega) (by omega)).trans (if_neg (by omega)), by omega, rfl, ?_⟩
    rw [lst_succ i0, eu]
  · intro u h2 ⟨i0, eh, eu⟩
    subst eh
    have eu : u = lst f 16 := eu
    subst eu
    have st := blk (lst f 16) 16 (by omega) (by omega) lb.1 (by omega)
    rw [if_pos (by omega)] at st
    obtain ⟨h1, e1, r1⟩ := bitP (x1 := 7) (p := lst f 16 ≠ -1) (wr_id (by omega) (by omega)) q (Ft_mono ft (by omega) (by omega)) (by omega)
    have s1 := WSt_md r1.1 s
    have st1 := b_X8_writeSquare_60 (a0 := S) (a1 := L) (x2 := fr) (x3 := lst f 16) (v4 := .int (mI 16)) (v5 := am_J) (h := h1) (wr_id (by omega) (by omega)) s1.2.1
    rw [e1, cl_n] at st
    unfold evQ
    by_cases z : lst f 16 = -1
    · rw [if_neg (by omega)] at st1
      rw [if_pos z]
      exact ⟨h1, st.trans st1, r1⟩
    · rw [if_pos z] at st1
      rw [if_neg z]
      have f1 := Ft_b (c := 7) (b := decide (lst f 16 ≠ -1)) (by decide) (Ft_mono ft (show 212 + 1 ≤ 213 by omega) (Nat.le_refl _))
      obtain ⟨h3, e3, r3⟩ := wLP_ok (l := lst f 16) s1 r1.2 (by omega) (Ft_mono f1 (by omega) (by omega))
      have s3 := WSt_md r3.1 s1
      rw [e3, cl_n, b_X8_writeSquare_71] at st1
      have f3 : Ft (runA (runA A [(7, decide (lst f 16 ≠ -1))]) (evLP (lst f 16))) (e + 1 + (evLP (lst f 16)).length) 208 320 := Ft_run (evLP (lst f 16)) (Ft_mono f1 (by
        unfold evLP
        simp only [nC]
        rw [if_neg (by omega), if_neg (by omega), if_neg (by omega), if_neg (by omega)]
        omega) (by
        unfold evLP
        simp only [nP]
        rw [if_neg (by omega), if_neg (by omega), if_neg (by omega), if_neg (by omega)]
        omega))
      have m3 := Md_tr r1.1 r3.1
      obtain ⟨h4, e4, r4⟩ := wLv_ok (l := lst f 16) (by omega) hfr hb hf nL (lst f 16 + 1).toNat h3 _ _ am_J (by omega) s3 r3.2 ((md_sh m3 _).trans sL) ((md_gn m3 _).trans gL) (fun k k0 k1 => (md_gZ m3 (SW_n nL) _).trans (hh k k0 k1)) (Ft_mono f3 (by omega) (by omega))
      rw [show (((lst f 16 + 1).toNat : Nat) : Int) - 1 = lst f 16 by omega] at e4
      have r5 : Wr h2 h4 w A e ([(7, decide (lst f 16 ≠ -1))] ++ (evLP (lst f 16) ++ evW f (lst f 16) (lst f 16 + 1).toNat)) := Wr_tr r1 (Wr_tr r3 r4)
      exact ⟨h4, st.trans (st1.trans e4), r5⟩
