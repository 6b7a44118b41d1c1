/-! ===== the coder's choice: squares, the whole picture ===== -/
theorem i_X2_choose_0 : am_i m_X2_choose 0 = some (0, .bipush 8, 2, [], 8) := rfl
theorem i_X2_choose_2 : am_i m_X2_choose 2 = some (2, .istore_n 3, 1, [], 0) := rfl
theorem i_X2_choose_3 : am_i m_X2_choose 3 = some (3, .iconst 0, 1, [], 0) := rfl
theorem i_X2_choose_4 : am_i m_X2_choose 4 = some (4, .istore 4, 2, [], 0) := rfl
theorem b_X2_choose_0 {a0 a1 a2 : Nat} {h : am_H} : rn m_X2_choose 0 [.ref a0, .ref a1, .ref a2, am_J, am_J, am_J, am_J] [] h = rn m_X2_choose 6 [.ref a0, .ref a1, .ref a2, .int (mI 8), .int (mI 0), am_J, am_J] [] h := by
  refine (tq_bipush i_X2_choose_0 rfl).trans ?_
  refine (tq_istore_n (L' := [.ref a0, .ref a1, .ref a2, .int (mI 8), am_J, am_J, am_J]) i_X2_choose_2 rfl rfl).trans ?_
  refine (tq_iconst i_X2_choose_3 rfl).trans ?_
  refine (tq_istore (L' := [.ref a0, .ref a1, .ref a2, .int (mI 8), .int (mI 0), am_J, am_J]) i_X2_choose_4 rfl rfl).trans ?_
  rfl
theorem i_X2_choose_6 : am_i m_X2_choose 6 = some (6, .iload 4, 2, [], 0) := rfl
theorem i_X2_choose_8 : am_i m_X2_choose 8 = some (8, .bipush 16, 2, [], 16) := rfl
theorem i_X2_choose_10 : am_i m_X2_choose 10 = some (10, .if_icmp .ge 122, 3, [], 0) := rfl
theorem i_X2_choose_13 : am_i m_X2_choose 13 = some (13, .iload 4, 2, [], 0) := rfl
theorem i_X2_choose_15 : am_i m_X2_choose 15 = some (15, .invokestatic 47, 3, [6], 0) := rfl
theorem i_X2_choose_18 : am_i m_X2_choose 18 = some (18, .istore 5, 2, [], 0) := rfl
theorem i_X2_choose_20 : am_i m_X2_choose 20 = some (20, .iload 4, 2, [], 0) := rfl
theorem i_X2_choose_22 : am_i m_X2_choose 22 = some (22, .invokestatic 51, 3, [14], 0) := rfl
theorem i_X2_choose_25 : am_i m_X2_choose 25 = some (25, .istore 6, 2, [], 0) := rfl
theorem i_X2_choose_27 : am_i m_X2_choose 27 = some (27, .iload 4, 2, [], 0) := rfl
theorem i_X2_choose_29 : am_i m_X2_choose 29 = some (29, .invokestatic 54, 3, [16], 0) := rfl
theorem i_X2_choose_32 : am_i m_X2_choose 32 = some (32, .ifCond .eq 22, 3, [], 0) := rfl
theorem i_X2_choose_35 : am_i m_X2_choose 35 = some (35, .aload_n 1, 1, [], 0) := rfl
theorem i_X2_choose_36 : am_i m_X2_choose 36 = some (36, .aload_n 2, 1, [], 0) := rfl
theorem i_X2_choose_37 : am_i m_X2_choose 37 = some (37, .iload 5, 2, [], 0) := rfl
theorem i_X2_choose_39 : am_i m_X2_choose 39 = some (39, .iload 6, 2, [], 0) := rfl
theorem i_X2_choose_41 : am_i m_X2_choose 41 = some (41, .invokestatic 58, 3, [55], 0) := rfl
theorem i_X2_choose_54 : am_i m_X2_choose 54 = some (54, .iload 4, 2, [], 0) := rfl
theorem i_X2_choose_56 : am_i m_X2_choose 56 = some (56, .invokestatic 54, 3, [16], 0) := rfl
theorem i_X2_choose_59 : am_i m_X2_choose 59 = some (59, .ifCond .ne 8, 3, [], 0) := rfl
theorem i_X2_choose_62 : am_i m_X2_choose 62 = some (62, .iload_n 3, 1, [], 0) := rfl
theorem i_X2_choose_63 : am_i m_X2_choose 63 = some (63, .iconst 4, 1, [], 4) := rfl
theorem i_X2_choose_64 : am_i m_X2_choose 64 = some (64, .if_icmp .ne 27, 3, [], 0) := rfl
theorem i_X2_choose_67 : am_i m_X2_choose 67 = some (67, .aload_n 0, 1, [], 0) := rfl
theorem i_X2_choose_68 : am_i m_X2_choose 68 = some (68, .getfield 21, 3, [2, 1, 0], 0) := rfl
theorem i_X2_choose_71 : am_i m_X2_choose 71 = some (71, .iload 5, 2, [], 0) := rfl
theorem i_X2_choose_73 : am_i m_X2_choose 73 = some (73, .iload 6, 2, [], 0) := rfl
theorem i_X2_choose_75 : am_i m_X2_choose 75 = some (75, .iload_n 3, 1, [], 0) := rfl
theorem i_X2_choose_76 : am_i m_X2_choose 76 = some (76, .aload_n 1, 1, [], 0) := rfl
theorem i_X2_choose_77 : am_i m_X2_choose 77 = some (77, .iload 6, 2, [], 0) := rfl
theorem i_X2_choose_79 : am_i m_X2_choose 79 = some (79, .invokevirtual 62, 3, [70, 6], 0) := rfl
theorem i_X2_choose_82 : am_i m_X2_choose 82 = some (82, .invokevirtual 65, 3, [21, 5], 0) := rfl
theorem i_X2_choose_85 : am_i m_X2_choose 85 = some (85, .aload_n 0, 1, [], 0) := rfl
theorem i_X2_choose_86 : am_i m_X2_choose 86 = some (86, .aload_n 1, 1, [], 0) := rfl
theorem i_X2_choose_87 : am_i m_X2_choose 87 = some (87, .aload_n 2, 1, [], 0) := rfl
theorem i_X2_choose_88 : am_i m_X2_choose 88 = some (88, .invokevirtual 69, 3, [99, 2], 0) := rfl
theorem i_X2_choose_132 : am_i m_X2_choose 132 = some (132, .aload_n 0, 1, [], 0) := rfl
theorem i_X2_choose_133 : am_i m_X2_choose 133 = some (133, .getfield 12, 3, [2, 0, 0], 0) := rfl
theorem i_X2_choose_136 : am_i m_X2_choose 136 = some (136, .aload_n 1, 1, [], 0) := rfl
theorem i_X2_choose_137 : am_i m_X2_choose 137 = some (137, .aload_n 1, 1, [], 0) := rfl
theorem i_X2_choose_138 : am_i m_X2_choose 138 = some (138, .getfield 81, 3, [6, 15, 1], 0) := rfl
theorem i_X2_choose_141 : am_i m_X2_choose 141 = some (141, .invokevirtual 88, 3, [77, 1], 0) := rfl
theorem b_X2_choose_6 {a0 a1 a2 : Nat} {x3 x4 x3' x4' : Int} {v5 v6 : Value} {h : am_H} (w3 : wr x3 = x3') (w4 : wr x4 = x4') (k1 : K2 h a0) (k2 : K6 h a1) (g3 : (¬ (16 ≤ x4')) → (0 ≤ x4' ∧ x4' < 16)) : rn m_X2_choose 6 [.ref a0, .ref a1, .ref a2, .int (mI x3), .int (mI x4), v5, v6] [] h = if 16 ≤ x4' then cl m_X2_choose 144 [.ref a0, .ref a1, .ref a2, .int (mI x3), .int (mI x4), v5, v6] [] (rn m_X1_smooth 0 [.ref (a0 + 1), .ref a1, .ref (a1 + 8), am_J, am_J, am_J] [] h) else if (x4' % 4 = 0) then cl m_X2_choose 44 [.ref a0, .ref a1, .ref a2, .int (mI x3), .int (mI x4), .int (mI (cx x4')), .int (mI (cy x4'))] [] (rn m_X2_isToSplit 0 [.ref a1, .ref a2, .int (mI (cx x4')), .int (mI (cy x4')), am_J, am_J, am_J, am_J, am_J] [] h) else if (x4' % 4 = 0) then cl m_X2_choose 91 [.ref a0, .ref a1, .ref a2, .int (mI x3), .int (mI x4), .int (mI (cx x4')), .int (mI (cy x4'))] [] (rn m_X2_choosePart 0 [.ref a0, .ref a1, .ref a2, am_J, am_J, am_J, am_J, am_J] [] (uF 5 (uF 5 (uF 5 (uF 5 h (a0 + 10) 0 (.int (mI (cx x4')))) (a0 + 10) 1 (.int (mI (cy x4')))) (a0 + 10) 2 (.int (mI x3))) (a0 + 10) 3 (.int (mI (8 * (bZ (¬ ((fZ h a1 5) ≤ 1) ∧ (¬ ((cy x4') < 8))))))))) else if ¬ x3' = 4 then rn m_X2_choose 91 [.ref a0, .ref a1, .ref a2, .int (mI x3), .int (mI x4), .int (mI (cx x4')), .int (mI (cy x4'))] [] h else cl m_X2_choose 91 [.ref a0, .ref a1, .ref a2, .int (mI x3), .int (mI x4), .int (mI (cx x4')), .int (mI (cy x4'))] [] (rn m_X2_choosePart 0 [.ref a0, .ref a1, .ref a2, am_J, am_J, am_J, am_J, am_J] [] (uF 5 (uF 5 (uF 5 (uF 5 h (a0 + 10) 0 (.int (mI (cx x4')))) (a0 + 10) 1 (.int (mI (cy x4')))) (a0 + 10) 2 (.int (mI x3))) (a0 + 10) 3 (.int (mI (8 * (bZ (¬ ((fZ h a1 5) ≤ 1) ∧ (¬ ((cy x4') < 8))))))))) := by
  refine (tq_iload i_X2_choose_6 rfl rfl).trans ?_
  refine (tq_bipush i_X2_choose_8 rfl).trans ?_
  refine (tq_icmp_ge (pt := 132) i_X2_choose_10 w4 w_16 (by decide) rfl).trans ?_
  refine ite_congr rfl (fun c1 => ?_) (fun c1 => ?_)
  · refine (tq_aload_n i_X2_choose_132 rfl (isA_ref _) rfl).trans ?_
    refine (tq_getfield i_X2_choose_133 (K2_s k1) (gR (g_2_0 (K2_s k1)) (K2_e0 k1)) (isV_ref _) rfl).trans ?_
    refine (tq_aload_n i_X2_choose_136 rfl (isA_ref _) rfl).trans ?_
    refine (tq_aload_n i_X2_choose_137 rfl (isA_ref _) rfl).trans ?_
    refine (tq_getfield i_X2_choose_138 (K6_s k2) (gR (g_6_15 (K6_s k2)) (K6_e15 k2)) (isV_ref _) rfl).trans ?_
    exact c_X1_smooth i_X2_choose_141 (K1_s (K2_k0 k1)) (ltd d_X2_choose (by decide)) (isA_ref _) (isA_ref _) stOk_0 rfl
  · refine (tq_iload i_X2_choose_13 rfl rfl).trans ?_
    refine (c_X11_columnOf i_X2_choose_15 (ltd d_X2_choose (by decide)) stOk_0 rfl).trans ?_
    refine (congrArg (cl _ _ _ _) (columnOf_ok w4 (g3 c1))).trans ?_
    refine (cl_v _ _ _ _ _ _).trans ?_
    refine (tq_istore (L' := [.ref a0, .ref a1, .ref a2, .int (mI x3), .int (mI x4), .int (mI (cx x4')), v6]) i_X2_choose_18 rfl rfl).trans ?_
    refine (tq_iload i_X2_choose_20 rfl rfl).trans ?_
    refine (c_X11_rowOf i_X2_choose_22 (ltd d_X2_choose (by decide)) stOk_0 rfl).trans ?_
    refine (congrArg (cl _ _ _ _) (rowOf_ok w4 (g3 c1))).trans ?_
    refine (cl_v _ _ _ _ _ _).trans ?_
    refine (tq_istore (L' := [.ref a0, .ref a1, .ref a2, .int (mI x3), .int (mI x4), .int (mI (cx x4')), .int (mI (cy x4'))]) i_X2_choose_25 rfl rfl).trans ?_
    refine (tq_iload i_X2_choose_27 rfl rfl).trans ?_
    refine (c_X11_startsBlock i_X2_choose_29 (ltd d_X2_choose (by decide)) stOk_0 rfl).trans ?_
    refine (congrArg (cl _ _ _ _) (startsBlock_ok w4 (g3 c1))).trans ?_
    refine (cl_v _ _ _ _ _ _).trans ?_
    refine (tq_ifb_eq (pt := 54) i_X2_choose_32 (by decide) rfl).trans ?_
    refine ite_congr rfl (fun c2 => ?_) (fun c2 => ?_)
    · refine (tq_aload_n i_X2_choose_35 rfl (isA_ref _) rfl).trans ?_
      refine (tq_aload_n i_X2_choose_36 rfl (isA_ref _) rfl).trans ?_
      refine (tq_iload i_X2_choose_37 rfl rfl).trans ?_
      refine (tq_iload i_X2_choose_39 rfl rfl).trans ?_
      exact c_X2_isToSplit i_X2_choose_41 (ltd d_X2_choose (by decide)) (isA_ref _) (isA_ref _) stOk_0 rfl
    · refine (tq_iload i_X2_choose_54 rfl rfl).trans ?_
      refine (c_X11_startsBlock i_X2_choose_56 (ltd d_X2_choose (by decide)) stOk_0 rfl).trans ?_
      refine (congrArg (cl _ _ _ _) (startsBlock_ok w4 (g3 c1))).trans ?_
      refine (cl_v _ _ _ _ _ _).trans ?_
      refine (tq_ifb_ne (pt := 67) i_X2_choose_59 (by decide) rfl).trans ?_
      refine ite_congr rfl (fun c3 => ?_) (fun c3 => ?_)
      · refine (tq_aload_n i_X2_choose_67 rfl (isA_ref _) rfl).trans ?_
        refine (tq_getfield i_X2_choose_68 (K2_s k1) (gR (g_2_1 (K2_s k1)) (K2_e1 k1)) (isV_ref _) rfl).trans ?_
        refine (tq_iload i_X2_choose_71 rfl rfl).trans ?_
        refine (tq_iload i_X2_choose_73 rfl rfl).trans ?_
        refine (tq_iload_n i_X2_choose_75 rfl rfl).trans ?_
        refine (tq_aload_n i_X2_choose_76 rfl (isA_ref _) rfl).trans ?_
        refine (tq_iload i_X2_choose_77 rfl rfl).trans ?_
        refine (c_X6_topOf i_X2_choose_79 (K6_s k2) (ltd d_X2_choose (by decide)) (stOk_4 _ _ _ _) rfl).trans ?_
        refine (congrArg (cl _ _ _ _) (b_X6_topOf_0 (wr_cy _) k2)).trans ?_
        refine (cl_v _ _ _ _ _ _).trans ?_
        refine (c_X5_lay i_X2_choose_82 (K5_s (K2_k1 k1)) (ltd d_X2_choose (by decide)) stOk_0 rfl).trans ?_
        refine (congrArg (cl _ _ _ _) (b_X5_lay_0 (K2_k1 k1))).trans ?_
        refine (cl_n _ _ _ _ _).trans ?_
        refine (tq_aload_n i_X2_choose_85 rfl (isA_ref _) rfl).trans ?_
        refine (tq_aload_n i_X2_choose_86 rfl (isA_ref _) rfl).trans ?_
        refine (tq_aload_n i_X2_choose_87 rfl (isA_ref _) rfl).trans ?_
        exact c_X2_choosePart i_X2_choose_88 ((sh_uF _ _ _ _ _ _).trans ((sh_uF _ _ _ _ _ _).trans ((sh_uF _ _ _ _ _ _).trans ((sh_uF _ _ _ _ _ _).trans (K2_s k1))))) (ltd d_X2_choose (by decide)) (isA_ref _) (isA_ref _) stOk_0 rfl
      · refine (tq_iload_n i_X2_choose_62 rfl rfl).trans ?_
        refine (tq_iconst i_X2_choose_63 rfl).trans ?_
        refine (tq_icmp_ne (pt := 91) i_X2_choose_64 w3 w_4 (by decide) rfl).trans ?_
        refine ite_congr rfl (fun c4 => ?_) (fun c4 => ?_)
        · rfl
        · refine (tq_aload_n i_X2_choose_67 rfl (isA_ref _) rfl).trans ?_
          refine (tq_getfield i_X2_choose_68 (K2_s k1) (gR (g_2_1 (K2_s k1)) (K2_e1 k1)) (isV_ref _) rfl).trans ?_
          refine (tq_iload i_X2_choose_71 rfl rfl).trans ?_
          refine (tq_iload i_X2_choose_73 rfl rfl).trans ?_
          refine (tq_iload_n i_X2_choose_75 rfl rfl).trans ?_
          refine (tq_aload_n i_X2_choose_76 rfl (isA_ref _) rfl).trans ?_
          refine (tq_iload i_X2_choose_77 rfl rfl).trans ?_
          refine (c_X6_topOf i_X2_choose_79 (K6_s k2) (ltd d_X2_choose (by decide)) (stOk_4 _ _ _ _) rfl).trans ?_
          refine (congrArg (cl _ _ _ _) (b_X6_topOf_0 (wr_cy _) k2)).trans ?_
          refine (cl_v _ _ _ _ _ _).trans ?_
          refine (c_X5_lay i_X2_choose_82 (K5_s (K2_k1 k1)) (ltd d_X2_choose (by decide)) stOk_0 rfl).trans ?_
          refine (congrArg (cl _ _ _ _) (b_X5_lay_0 (K2_k1 k1))).trans ?_
          refine (cl_n _ _ _ _ _).trans ?_
          refine (tq_aload_n i_X2_choose_85 rfl (isA_ref _) rfl).trans ?_
          refine (tq_aload_n i_X2_choose_86 rfl (isA_ref _) rfl).trans ?_
          refine (tq_aload_n i_X2_choose_87 rfl (isA_ref _) rfl).trans ?_
          exact c_X2_choosePart i_X2_choose_88 ((sh_uF _ _ _ _ _ _).trans ((sh_uF _ _ _ _ _ _).trans ((sh_uF _ _ _ _ _ _).trans ((sh_uF _ _ _ _ _ _).trans (K2_s k1))))) (ltd d_X2_choose (by decide)) (isA_ref _) (isA_ref _) stOk_0 rfl
theorem i_X2_choose_44 : am_i m_X2_choose 44 = some (44, .ifCond .eq 7, 3, [], 0) := rfl
theorem i_X2_choose_47 : am_i m_X2_choose 47 = some (47, .iconst 4, 1, [], 4) := rfl
theorem i_X2_choose_48 : am_i m_X2_choose 48 = some (48, .goto 5, 3, [], 0) := rfl
theorem i_X2_choose_51 : am_i m_X2_choose 51 = some (51, .bipush 8, 2, [], 8) := rfl
theorem i_X2_choose_53 : am_i m_X2_choose 53 = some (53, .istore_n 3, 1, [], 0) := rfl
theorem b_X2_choose_44 {a0 a1 a2 : Nat} {v3 : Value} {x4 x5 x6 xs0 x4' x6' xs0' : Int} {h : am_H} (w4 : wr x4 = x4') (w6 : wr x6 = x6') (ws0 : wr xs0 = xs0') (g1 : 0 ≤ x4' ∧ x4' < 16) (k2 : K2 h a0) (k3 : K6 h a1) : rn m_X2_choose 44 [.ref a0, .ref a1, .ref a2, v3, .int (mI x4), .int (mI x5), .int (mI x6)] [.int (mI xs0)] h = if (x4' % 4 = 0) then cl m_X2_choose 91 [.ref a0, .ref a1, .ref a2, .int (mI (if xs0' = 0 then (8 : Int) else 4)), .int (mI x4), .int (mI x5), .int (mI x6)] [] (rn m_X2_choosePart 0 [.ref a0, .ref a1, .ref a2, am_J, am_J, am_J, am_J, am_J] [] (uF 5 (uF 5 (uF 5 (uF 5 h (a0 + 10) 0 (.int (mI x5))) (a0 + 10) 1 (.int (mI x6))) (a0 + 10) 2 (.int (mI (if xs0' = 0 then (8 : Int) else 4)))) (a0 + 10) 3 (.int (mI (8 * (bZ (¬ ((fZ h a1 5) ≤ 1) ∧ (¬ (x6' < 8))))))))) else if ¬ (if xs0' = 0 then (8 : Int) else 4) = 4 then rn m_X2_choose 91 [.ref a0, .ref a1, .ref a2, .int (mI (if xs0' = 0 then (8 : Int) else 4)), .int (mI x4), .int (mI x5), .int (mI x6)] [] h else cl m_X2_choose 91 [.ref a0, .ref a1, .ref a2, .int (mI (if xs0' = 0 then (8 : Int) else 4)), .int (mI x4), .int (mI x5), .int (mI x6)] [] (rn m_X2_choosePart 0 [.ref a0, .ref a1, .ref a2, am_J, am_J, am_J, am_J, am_J] [] (uF 5 (uF 5 (uF 5 (uF 5 h (a0 + 10) 0 (.int (mI x5))) (a0 + 10) 1 (.int (mI x6))) (a0 + 10) 2 (.int (mI (if xs0' = 0 then (8 : Int) else 4)))) (a0 + 10) 3 (.int (mI (8 * (bZ (¬ ((fZ h a1 5) ≤ 1) ∧ (¬ (x6' < 8))))))))) := by
  refine (tq_if_eq (pt := 51) i_X2_choose_44 ws0 (by decide) rfl).trans ?_
  refine Eq.trans (b := if xs0' = 0 then rn m_X2_choose 53 [.ref a0, .ref a1, .ref a2, v3, .int (mI x4), .int (mI x5), .int (mI x6)] [.int (mI 8)] h else rn m_X2_choose 53 [.ref a0, .ref a1, .ref a2, v3, .int (mI x4), .int (mI x5), .int (mI x6)] [.int (mI 4)] h) (ite_congr rfl (fun c1 => ?_) (fun c1 => ?_)) ?_
  · refine (tq_bipush i_X2_choose_51 rfl).trans ?_
    rfl
  · refine (tq_iconst i_X2_choose_47 rfl).trans ?_
    refine (tq_goto (pc' := 53) i_X2_choose_48 (by decide)).trans ?_
    rfl
  refine Eq.trans ite_I ?_
  refine (tq_istore_n (L' := [.ref a0, .ref a1, .ref a2, .int (mI (if xs0' = 0 then (8 : Int) else 4)), .int (mI x4), .int (mI x5), .int (mI x6)]) i_X2_choose_53 rfl rfl).trans ?_
  refine (tq_iload i_X2_choose_54 rfl rfl).trans ?_
  refine (c_X11_startsBlock i_X2_choose_56 (ltd d_X2_choose (by decide)) stOk_0 rfl).trans ?_
  refine (congrArg (cl _ _ _ _) (startsBlock_ok w4 g1)).trans ?_
  refine (cl_v _ _ _ _ _ _).trans ?_
  refine (tq_ifb_ne (pt := 67) i_X2_choose_59 (by decide) rfl).trans ?_
  refine ite_congr rfl (fun c2 => ?_) (fun c2 => ?_)
  · refine (tq_aload_n i_X2_choose_67 rfl (isA_ref _) rfl).trans ?_
    refine (tq_getfield i_X2_choose_68 (K2_s k2) (gR (g_2_1 (K2_s k2)) (K2_e1 k2)) (isV_ref _) rfl).trans ?_
    refine (tq_iload i_X2_choose_71 rfl rfl).trans ?_
    refine (tq_iload i_X2_choose_73 rfl rfl).trans ?_
    refine (tq_iload_n i_X2_choose_75 rfl rfl).trans ?_
    refine (tq_aload_n i_X2_choose_76 rfl (isA_ref _) rfl).trans ?_
    refine (tq_iload i_X2_choose_77 rfl rfl).trans ?_
    refine (c_X6_topOf i_X2_choose_79 (K6_s k3) (ltd d_X2_choose (by decide)) (stOk_4 _ _ _ _) rfl).trans ?_
    refine (congrArg (cl _ _ _ _) (b_X6_topOf_0 w6 k3)).trans ?_
    refine (cl_v _ _ _ _ _ _).trans ?_
    refine (c_X5_lay i_X2_choose_82 (K5_s (K2_k1 k2)) (ltd d_X2_choose (by decide)) stOk_0 rfl).trans ?_
    refine (congrArg (cl _ _ _ _) (b_X5_lay_0 (K2_k1 k2))).trans ?_
    refine (cl_n _ _ _ _ _).trans ?_
    refine (tq_aload_n i_X2_choose_85 rfl (isA_ref _) rfl).trans ?_
    refine (tq_aload_n i_X2_choose_86 rfl (isA_ref _) rfl).trans ?_
    refine (tq_aload_n i_X2_choose_87 rfl (isA_ref _) rfl).trans ?_
    exact c_X2_choosePart i_X2_choose_88 ((sh_uF _ _ _ _ _ _).trans ((sh_uF _ _ _ _ _ _).trans ((sh_uF _ _ _ _ _ _).trans ((sh_uF _ _ _ _ _ _).trans (K2_s k2))))) (ltd d_X2_choose (by decide)) (isA_ref _) (isA_ref _) stOk_0 rfl
  · refine (tq_iload_n i_X2_choose_62 rfl rfl).trans ?_
    refine (tq_iconst i_X2_choose_63 rfl).trans ?_
    refine (tq_icmp_ne (pt := 91) i_X2_choose_64 (wr_ite w_8 w_4) w_4 (by decide) rfl).trans ?_
    refine ite_congr rfl (fun c3 => ?_) (fun c3 => ?_)
    · rfl
    · refine (tq_aload_n i_X2_choose_67 rfl (isA_ref _) rfl).trans ?_
      refine (tq_getfield i_X2_choose_68 (K2_s k2) (gR (g_2_1 (K2_s k2)) (K2_e1 k2)) (isV_ref _) rfl).trans ?_
      refine (tq_iload i_X2_choose_71 rfl rfl).trans ?_
      refine (tq_iload i_X2_choose_73 rfl rfl).trans ?_
      refine (tq_iload_n i_X2_choose_75 rfl rfl).trans ?_
      refine (tq_aload_n i_X2_choose_76 rfl (isA_ref _) rfl).trans ?_
      refine (tq_iload i_X2_choose_77 rfl rfl).trans ?_
      refine (c_X6_topOf i_X2_choose_79 (K6_s k3) (ltd d_X2_choose (by decide)) (stOk_4 _ _ _ _) rfl).trans ?_
      refine (congrArg (cl _ _ _ _) (b_X6_topOf_0 w6 k3)).trans ?_
      refine (cl_v _ _ _ _ _ _).trans ?_
      refine (c_X5_lay i_X2_choose_82 (K5_s (K2_k1 k2)) (ltd d_X2_choose (by decide)) stOk_0 rfl).trans ?_
      refine (congrArg (cl _ _ _ _) (b_X5_lay_0 (K2_k1 k2))).trans ?_
      refine (cl_n _ _ _ _ _).trans ?_
      refine (tq_aload_n i_X2_choose_85 rfl (isA_ref _) rfl).trans ?_
      refine (tq_aload_n i_X2_choose_86 rfl (isA_ref _) rfl).trans ?_
      refine (tq_aload_n i_X2_choose_87 rfl (isA_ref _) rfl).trans ?_
      exact c_X2_choosePart i_X2_choose_88 ((sh_uF _ _ _ _ _ _).trans ((sh_uF _ _ _ _ _ _).trans ((sh_uF _ _ _ _ _ _).trans ((sh_uF _ _ _ _ _ _).trans (K2_s k2))))) (ltd d_X2_choose (by decide)) (isA_ref _) (isA_ref _) stOk_0 rfl
theorem i_X2_choose_91 : am_i m_X2_choose 91 = some (91, .aload_n 0, 1, [], 0) := rfl
theorem i_X2_choose_92 : am_i m_X2_choose 92 = some (92, .getfield 12, 3, [2, 0, 0], 0) := rfl
theorem i_X2_choose_95 : am_i m_X2_choose 95 = some (95, .aload_n 1, 1, [], 0) := rfl
theorem i_X2_choose_96 : am_i m_X2_choose 96 = some (96, .aload_n 2, 1, [], 0) := rfl
theorem i_X2_choose_97 : am_i m_X2_choose 97 = some (97, .iload 5, 2, [], 0) := rfl
theorem i_X2_choose_99 : am_i m_X2_choose 99 = some (99, .iload 6, 2, [], 0) := rfl
theorem i_X2_choose_101 : am_i m_X2_choose 101 = some (101, .invokestatic 73, 3, [13], 0) := rfl
theorem i_X2_choose_104 : am_i m_X2_choose 104 = some (104, .invokevirtual 77, 3, [90, 1], 0) := rfl
theorem b_X2_choose_91 {a0 a1 a2 : Nat} {x3 x4 x5 x6 : Int} {h : am_H} (k1 : K2 h a0) : rn m_X2_choose 91 [.ref a0, .ref a1, .ref a2, .int (mI x3), .int (mI x4), .int (mI x5), .int (mI x6)] [] h = cl m_X2_choose 107 [.ref a0, .ref a1, .ref a2, .int (mI x3), .int (mI x4), .int (mI x5), .int (mI x6)] [] (rn m_X1_levelSquare 0 [.ref (a0 + 1), .ref a1, .ref a2, .int (mI ((16 * x6) + x5)), am_J, am_J] [] h) := by
  refine (tq_aload_n i_X2_choose_91 rfl (isA_ref _) rfl).trans ?_
  refine (tq_getfield i_X2_choose_92 (K2_s k1) (gR (g_2_0 (K2_s k1)) (K2_e0 k1)) (isV_ref _) rfl).trans ?_
  refine (tq_aload_n i_X2_choose_95 rfl (isA_ref _) rfl).trans ?_
  refine (tq_aload_n i_X2_choose_96 rfl (isA_ref _) rfl).trans ?_
  refine (tq_iload i_X2_choose_97 rfl rfl).trans ?_
  refine (tq_iload i_X2_choose_99 rfl rfl).trans ?_
  refine (c_X11_placeOf i_X2_choose_101 (ltd d_X2_choose (by decide)) (stOk_3 _ _ _) rfl).trans ?_
  refine (congrArg (cl _ _ _ _) (b_X11_placeOf_0)).trans ?_
  refine (cl_v _ _ _ _ _ _).trans ?_
  exact c_X1_levelSquare i_X2_choose_104 (K1_s (K2_k0 k1)) (ltd d_X2_choose (by decide)) (isA_ref _) (isA_ref _) stOk_0 rfl
theorem i_X2_choose_107 : am_i m_X2_choose 107 = some (107, .aload_n 0, 1, [], 0) := rfl
theorem i_X2_choose_108 : am_i m_X2_choose 108 = some (108, .getfield 12, 3, [2, 0, 0], 0) := rfl
theorem i_X2_choose_111 : am_i m_X2_choose 111 = some (111, .aload_n 1, 1, [], 0) := rfl
theorem i_X2_choose_112 : am_i m_X2_choose 112 = some (112, .aload_n 1, 1, [], 0) := rfl
theorem i_X2_choose_113 : am_i m_X2_choose 113 = some (113, .getfield 81, 3, [6, 15, 1], 0) := rfl
theorem i_X2_choose_116 : am_i m_X2_choose 116 = some (116, .iload 5, 2, [], 0) := rfl
theorem i_X2_choose_118 : am_i m_X2_choose 118 = some (118, .iload 6, 2, [], 0) := rfl
theorem i_X2_choose_120 : am_i m_X2_choose 120 = some (120, .invokestatic 73, 3, [13], 0) := rfl
theorem i_X2_choose_123 : am_i m_X2_choose 123 = some (123, .invokevirtual 85, 3, [88, 1], 0) := rfl
theorem b_X2_choose_107 {a0 a1 a2 : Nat} {x3 x4 x5 x6 : Int} {h : am_H} (k1 : K2 h a0) (k2 : K6 h a1) : rn m_X2_choose 107 [.ref a0, .ref a1, .ref a2, .int (mI x3), .int (mI x4), .int (mI x5), .int (mI x6)] [] h = cl m_X2_choose 126 [.ref a0, .ref a1, .ref a2, .int (mI x3), .int (mI x4), .int (mI x5), .int (mI x6)] [] (rn m_X1_buildSquare 0 [.ref (a0 + 1), .ref a1, .ref (a1 + 8), .int (mI ((16 * x6) + x5)), am_J, am_J, am_J] [] h) := by
  refine (tq_aload_n i_X2_choose_107 rfl (isA_ref _) rfl).trans ?_
  refine (tq_getfield i_X2_choose_108 (K2_s k1) (gR (g_2_0 (K2_s k1)) (K2_e0 k1)) (isV_ref _) rfl).trans ?_
  refine (tq_aload_n i_X2_choose_111 rfl (isA_ref _) rfl).trans ?_
  refine (tq_aload_n i_X2_choose_112 rfl (isA_ref _) rfl).trans ?_
  refine (tq_getfield i_X2_choose_113 (K6_s k2) (gR (g_6_15 (K6_s k2)) (K6_e15 k2)) (isV_ref _) rfl).trans ?_
  refine (tq_iload i_X2_choose_116 rfl rfl).trans ?_
  refine (tq_iload i_X2_choose_118 rfl rfl).trans ?_
  refine (c_X11_placeOf i_X2_choose_120 (ltd d_X2_choose (by decide)) (stOk_3 _ _ _) rfl).trans ?_
  refine (congrArg (cl _ _ _ _) (b_X11_placeOf_0)).trans ?_
  refine (cl_v _ _ _ _ _ _).trans ?_
  exact c_X1_buildSquare i_X2_choose_123 (K1_s (K2_k0 k1)) (ltd d_X2_choose (by decide)) (isA_ref _) (isA_ref _) stOk_0 rfl
theorem i_X2_choose_126 : am_i m_X2_choose 126 = some (126, .iinc 4 1, 3, [], 0) := rfl
theorem i_X2_choose_129 : am_i m_X2_choose 129 = some (129, .goto (-123), 3, [], 0) := rfl
theorem b_X2_choose_126 {a0 a1 a2 : Nat} {x3 x4 : Int} {v5 v6 : Value} {h : am_H} : rn m_X2_choose 126 [.ref a0, .ref a1, .ref a2, .int (mI x3), .int (mI x4), v5, v6] [] h = rn m_X2_choose 6 [.ref a0, .ref a1, .ref a2, .int (mI x3), .int (mI (x4 + 1)), v5, v6] [] h := by
  refine (tq_iinc (L' := [.ref a0, .ref a1, .ref a2, .int (mI x3), .int (mI (x4 + 1)), v5, v6]) i_X2_choose_126 rfl rfl rfl).trans ?_
  refine (tq_goto (pc' := 6) i_X2_choose_129 (by decide)).trans ?_
  rfl
theorem i_X2_choose_144 : am_i m_X2_choose 144 = some (144, .return_, 1, [], 0) := rfl
theorem b_X2_choose_144 {v0 v1 v2 v3 v4 v5 v6 : Value} {h : am_H} : rn m_X2_choose 144 [v0, v1, v2, v3, v4, v5, v6] [] h = some (.inl none, h) := by
  exact tq_return i_X2_choose_144 r_X2_choose
/-- a square of a part that is guessed: its levels, its pixels -/
theorem square_ok {h : am_H} {C D a : Nat} {c f1 f2 : Int → Int} {kd tl sl q i : Int} (y : Cy C D a c kd tl sl q) (x : Cx h C D a c f1 f2 kd tl sl q) (hp : pixels (gZ h (D + 8))) (hi : 0 ≤ i ∧ i < 16) (rd : Rd c f1 f2 kd tl sl q C D h i) (hg : ∀ k, 0 ≤ k → k < 16 → 0 ≤ gZ h (C + 8) (pl i k) ∧ gZ h (C + 8) (pl i k) ≤ 255) (v3 v4 v5 v6 : Int) (e5 : v5 = cx i) (e6 : v6 = cy i) : ∃ h', rn m_X2_choose 91 [.ref C, .ref D, .ref a, .int (mI v3), .int (mI v4), .int (mI v5), .int (mI v6)] [] h = rn m_X2_choose 126 [.ref C, .ref D, .ref a, .int (mI v3), .int (mI v4), .int (mI v5), .int (mI v6)] [] h' ∧ Md (SCo C D) h h' ∧ pixels (gZ h' (D + 8)) ∧ agr i (pdh h D) (pdh h' D) (gZ h (D + 8)) (gZ h' (D + 8)) ∧ Cod c f1 f2 kd tl sl q (pdh h' D) (gZ h' (D + 8)) i ∧ ∀ s, i < s → s < 16 → sq (X0 (pdh h D 0) s) (Y0 (pdh h D 0) s) ≤ i → Rd c f1 f2 kd tl sl q C D h s → Rd c f1 f2 kd tl sl q C D h' s := by
  have y0 := y
  have x0 := x
  obtain ⟨y1, y2, y3, y4, y5, y6, y7, y8⟩ := y
  obtain ⟨x1, x2, x3, x4, x5, x6, x7, x8, x9, x10⟩ := x
  obtain ⟨r1, r2, r3⟩ := rd
  have cxb := cx_b i
  have cyb := cy_b i
  rw [b_X2_choose_91 x1, e5, e6]
  obtain ⟨h2, s2, m2, l2, n2⟩ := levelSquare_ok (f := 16 * cy i + cx i) (q := q) (K2_k0 x1) x2 x3 x4 (by decide) (by omega) (by omega) (by omega) (by omega) (by rw [x5]; exact y4) hg x7 y8
  rw [x5] at l2
  have l2 : ∀ k, 0 ≤ k → k < 16 → gZ h2 (D + 7) (16 * cy i + cx i + ip k) = lev q (hd (fun j => c (16 * cy i + cx i + ip j) - gZ h (C + 8) (16 * cy i + cx i + ip j)) k) := l2
  have hd2 := hd_b (s := fun j => c (16 * cy i + cx i + ip j) - gZ h (C + 8) (16 * cy i + cx i + ip j)) (m := 255) (fun j j0 j1 => by
    have h1 := hg j j0 j1
    have h2 := pl_b i j
    have h3 := y4 (pl i j) h2.1 h2.2
    unfold pl at h1 h3
    omega)
  rw [s2, cl_n, b_X2_choose_107 (K2_sm m2.1 x1) (K6_sm m2.1 x2)]
  have g2 : ∀ k, gZ h2 (C + 8) k = gZ h (C + 8) k := fun k => md_gZ m2 (by omega) k
  obtain ⟨h3, s3, m3, l3, n3⟩ := buildSquare_ok (a := D + 8) (f := 16 * cy i + cx i) (q := q) (K2_k0 (K2_sm m2.1 x1)) (K6_sm m2.1 x2) ((md_sh m2 _).trans (K6_s15 x2)) ((md_gn m2 _).trans (K6_n15 x2)) (by decide) (by omega) (by omega) (by omega) (by omega) (fun k k0 k1 => by have := hg k k0 k1; have e := g2 (16 * cy i + cx i + ip k); exact e ▸ this) ((md_fZ m2 (by omega)).trans x7) (fun k k0 k1 => by rw [l2 k k0 k1]; exact lev_4q y8 ⟨by have := hd2 k; omega, by have := hd2 k; omega⟩)
  rw [s3, cl_n]
  have m13 : Md (SCo C D) h h3 := Md_tr (Md_mono m2 fun c k q => by unfold SCo; omega) (Md_mono m3 fun c k q => by unfold SCo; omega)
  have ne : ∀ t k, 0 ≤ t → t < 16 → t ≠ i → 0 ≤ k → k < 16 → ∀ j, 0 ≤ j → j < 16 → pl t k ≠ 16 * cy i + cx i + ip j := fun t k t0 t1 ti k0 k1 j j0 j1 e => ti (pl_inj ⟨t0, t1⟩ hi ⟨k0, k1⟩ ⟨j0, j1⟩ e).1
  have p13 : ∀ n, n < 4 → pdh h3 D n = pdh h D n := fun n hn => (md_Z m3 (by omega)).trans (md_Z m2 (by omega))
  have lv3 : ∀ t k, 0 ≤ t → t < 16 → t ≠ i → 0 ≤ k → k < 16 → pdh h3 D 4 (pl t k) = pdh h D 4 (pl t k) := fun t k t0 t1 ti k0 k1 => (md_gZ m3 (a := D + 7) (by omega) _).trans (n2 _ (ne t k t0 t1 ti k0 k1))
  have px3 : ∀ t k, 0 ≤ t → t < 16 → t ≠ i → 0 ≤ k → k < 16 → gZ h3 (D + 8) (pl t k) = gZ h (D + 8) (pl t k) := fun t k t0 t1 ti k0 k1 => (n3 _ (ne t k t0 t1 ti k0 k1)).trans (md_gZ m2 (by omega) _)
  have ag : agr i (pdh h D) (pdh h3 D) (gZ h (D + 8)) (gZ h3 (D + 8)) := fun t t0 t1 => ⟨⟨by rw [p13 0 (by decide)], by rw [p13 1 (by decide)], by rw [p13 2 (by decide)], by rw [p13 3 (by decide)]⟩, fun k k0 k1 => ⟨(lv3 t k t0 (by omega) (by omega) k0 k1).symm, (px3 t k t0 (by omega) (by omega) k0 k1).symm⟩⟩
  have agi := agr_p ag
  have gq := fun k (hk : 0 ≤ k ∧ k < 16) => Gq_agr (i := i) (f1 := f1) (f2 := f2) (sl := sl) (pd := pdh h D) (pd' := pdh h3 D) ⟨by rw [p13 0 (by decide)], by rw [p13 1 (by decide)], by rw [p13 2 (by decide)], by rw [p13 3 (by decide)]⟩ agi hi hk
  have E2s : ∀ s, 0 ≤ s → s < 16 → sq (X0 (pdh h D 0) s) (Y0 (pdh h D 0) s) ≤ i → E2 c f1 f2 kd tl sl (pdh h D) (gZ h (D + 8)) s → E2 c f1 f2 kd tl sl (pdh h3 D) (gZ h3 (D + 8)) s := by
    intro s s0 s1 st e2
    unfold E2 at *
    rw [p13 0 (by decide), p13 1 (by decide), p13 2 (by decide), p13 3 (by decide), ← cmo_loc lies_s (agp_le agi st)]
    exact e2
  refine ⟨h3, rfl, m13, ?_, ag, ⟨?_, E2s i hi.1 hi.2 (start_le hi) r2, ?_, ?_⟩, ?_⟩
  · intro k k0 k1
    have e : k = pl (sq (k % 16) (k / 16)) (4 * (k / 16 % 4) + k % 16 % 4) := by rw [(pl_xy (x := k % 16) (y := k / 16) ⟨by omega, by omega⟩ ⟨by omega, by omega⟩).1]; omega
    have b := pl_xy (x := k % 16) (y := k / 16) ⟨by omega, by omega⟩ ⟨by omega, by omega⟩
    by_cases qi : sq (k % 16) (k / 16) = i
    · rw [e, qi]
      have := l3 (4 * (k / 16 % 4) + k % 16 % 4) (by omega) (by omega)
      unfold pl
      rw [this]
      exact ⟨clampv_0 _, clampv_255 _⟩
    · rw [e, px3 _ _ b.2.1 b.2.2 qi (by omega) (by omega), ← e]
      exact hp k k0 k1
  · unfold E1 at *
    rw [p13 0 (by decide)]
    exact r1
  · intro k k0 k1
    have e1 : pdh h3 D 4 (pl i k) = gZ h2 (D + 7) (pl i k) := md_gZ m3 (a := D + 7) (by omega) _
    rw [e1]
    have := l2 k k0 k1
    unfold pl
    rw [this]
    rw [hd_congr (t := fun j => c (pl i j) - Gq (pdh h3 D) f1 f2 sl (gZ h3 (D + 8)) i (cx i + j % 4) (cy i + j / 4)) fun j j0 j1 => by
      show c (pl i j) - gZ h (C + 8) (pl i j) = _
      rw [r3 j j0 j1, gq j ⟨j0, j1⟩]]
    rfl
  · intro k k0 k1
    have := l3 k k0 k1
    have e2 : gZ h3 (D + 8) (pl i k) = _ := this
    rw [e2]
    have e3 : gZ h2 (C + 1 + 7) (16 * cy i + cx i + ip k) = Gq (pdh h3 D) f1 f2 sl (gZ h3 (D + 8)) i (cx i + k % 4) (cy i + k / 4) := (g2 _).trans ((r3 k k0 k1).trans (gq k ⟨k0, k1⟩))
    rw [e3]
    have e4 : ∀ k, dif q (fun j => gZ h2 (D + 7) (16 * cy i + cx i + ip j)) k = dif q (fun j => pdh h3 D 4 (pl i j)) k := dif_congr fun j j0 j1 => (md_gZ m3 (a := D + 7) (by omega) _).symm
    rw [e4]
  · intro s s0 s1 st rds
    obtain ⟨q1, q2, q3⟩ := rds
    refine ⟨?_, E2s s (by omega) s1 st q2, fun k k0 k1 => ?_⟩
    · unfold E1 at *
      rw [p13 0 (by decide)]
      exact q1
    · have e1 : gZ h3 (C + 8) (pl s k) = gZ h (C + 8) (pl s k) := (md_gZ m3 (by omega) _).trans (g2 _)
      rw [e1, q3 k k0 k1]
      exact Gq_st ⟨by rw [p13 0 (by decide)], by rw [p13 1 (by decide)], by rw [p13 2 (by decide)], by rw [p13 3 (by decide)]⟩ (agp_le agi st) ⟨by omega, s1⟩ ⟨k0, k1⟩
theorem gss_pb {p f1 f2 : Int → Int} {X Y Z T m v1 v2 x y : Int} (hp : pixels p) (h1 : m = 4 ∨ m = 6 → pixels f1) (h2 : m = 5 ∨ m = 6 → pixels f2) (hm : m ≤ 6) (ip : isPart X Y Z T) (hx : X ≤ x ∧ x < X + Z) (hy : Y ≤ y ∧ y < Y + Z) : 0 ≤ gss p f1 f2 X Y Z T m v1 v2 x y ∧ gss p f1 f2 X Y Z T m v1 v2 x y ≤ 255 := by
  unfold gss
  by_cases c : m < 4
  · rw [if_pos c]
    exact gsB_b hp ip hx hy
  · rw [if_neg c]
    unfold gsK
    by_cases c4 : m = 4
    · rw [if_pos c4]
      exact hv_b (h1 (Or.inl c4)) _ _
    · rw [if_neg c4]
      by_cases c5 : m = 5
      · rw [if_pos c5]
        exact hv_b (h2 (Or.inl c5)) _ _
      · rw [if_neg c5]
        have q1 := hv_b (h1 (Or.inr (by omega))) (2 * x + vX v1) (2 * y + vY v1)
        have q2 := hv_b (h2 (Or.inr (by omega))) (2 * x + vX v2) (2 * y + vY v2)
        omega
theorem Gq_b {pd : Nat → Int → Int} {p f1 f2 : Int → Int} {sl s k : Int} (hp : pixels p) (h1 : pd 1 s = 4 ∨ pd 1 s = 6 → pixels f1) (h2 : pd 1 s = 5 ∨ pd 1 s = 6 → pixels f2) (hm : pd 1 s ≤ 6) (hs : 0 ≤ s ∧ s < 16) (hk : 0 ≤ k ∧ k < 16) : 0 ≤ Gq pd f1 f2 sl p s (cx s + k % 4) (cy s + k / 4) ∧ Gq pd f1 f2 sl p s (cx s + k % 4) (cy s + k / 4) ≤ 255 := by
  have ip := in_part (z := pd 0) hs hk
  unfold Gq
  exact gss_pb hp h1 h2 hm (lies_part (lies_s (sl := sl)) (tp_b _ _).2).1 ip.1 ip.2
theorem start8 {z : Int → Int} {s : Int} (hs : 0 ≤ s ∧ s < 16) (h : z s ≠ 4) : sq (X0 z s) (Y0 z s) = 4 * (s / 4) := by
  unfold X0 Y0
  rw [if_neg h, if_neg h]
  unfold sq
  omega
