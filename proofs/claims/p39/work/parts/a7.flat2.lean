/-! ===== a picture of one value, coded twice, sent ===== -/
theorem i_L_flatIsGood_0 : am_i m_L_flatIsGood 0 = some (0, .new 8, 3, [9], 0) := rfl
theorem b_L_flatIsGood_0 {x0 x1 x2 : Int} {h : am_H} : rn m_L_flatIsGood 0 [.int (mI x0), .int (mI x1), .int (mI x2), am_J, am_J, am_J, am_J] [] h = rn m_L_flatIsGood 3 [.int (mI x0), .int (mI x1), .int (mI x2), am_J, am_J, am_J, am_J] [.ref (hnx h)] (aO 9 h) := by
  exact tq_new i_L_flatIsGood_0 rfl
theorem i_L_flatIsGood_3 : am_i m_L_flatIsGood 3 = some (3, .dup, 1, [], 0) := rfl
theorem i_L_flatIsGood_4 : am_i m_L_flatIsGood 4 = some (4, .invokespecial 162, 3, [98], 0) := rfl
theorem b_L_flatIsGood_3 {x0 x1 x2 : Int} {v3 v4 v5 v6 : Value} {as0 : Nat} {h : am_H} : rn m_L_flatIsGood 3 [.int (mI x0), .int (mI x1), .int (mI x2), v3, v4, v5, v6] [.ref as0] h = cl m_L_flatIsGood 7 [.int (mI x0), .int (mI x1), .int (mI x2), v3, v4, v5, v6] [.ref as0] (rn m_X11_init 0 [.ref as0] [] h) := by
  refine (tq_dup i_L_flatIsGood_3 rfl rfl).trans ?_
  exact c_X11_init i_L_flatIsGood_4 (ltd d_L_flatIsGood (by decide)) (stOk_1 _) rfl
theorem i_L_flatIsGood_7 : am_i m_L_flatIsGood 7 = some (7, .astore_n 3, 1, [], 0) := rfl
theorem i_L_flatIsGood_8 : am_i m_L_flatIsGood 8 = some (8, .aload_n 3, 1, [], 0) := rfl
theorem i_L_flatIsGood_9 : am_i m_L_flatIsGood 9 = some (9, .bipush 102, 2, [], 102) := rfl
theorem i_L_flatIsGood_11 : am_i m_L_flatIsGood 11 = some (11, .iconst 5, 1, [], 5) := rfl
theorem i_L_flatIsGood_12 : am_i m_L_flatIsGood 12 = some (12, .newarray .int, 2, [], 0) := rfl
theorem b_L_flatIsGood_7 {x0 x1 x2 : Int} {v3 v4 v5 v6 : Value} {as0 : Nat} {h : am_H} : rn m_L_flatIsGood 7 [.int (mI x0), .int (mI x1), .int (mI x2), v3, v4, v5, v6] [.ref as0] h = rn m_L_flatIsGood 14 [.int (mI x0), .int (mI x1), .int (mI x2), .ref as0, v4, v5, v6] [.ref (hnx h), .int (mI 102), .ref as0] (aI 0 5 h) := by
  refine (tq_astore_n (L' := [.int (mI x0), .int (mI x1), .int (mI x2), .ref as0, v4, v5, v6]) i_L_flatIsGood_7 (isA_ref _) rfl rfl).trans ?_
  refine (tq_aload_n i_L_flatIsGood_8 rfl (isA_ref _) rfl).trans ?_
  refine (tq_bipush i_L_flatIsGood_9 rfl).trans ?_
  refine (tq_iconst i_L_flatIsGood_11 rfl).trans ?_
  exact tq_newI (n := 5) (t := 0) i_L_flatIsGood_12 w_5 (by decide) rfl (by decide) rfl rfl
theorem i_L_flatIsGood_14 : am_i m_L_flatIsGood 14 = some (14, .dup, 1, [], 0) := rfl
theorem i_L_flatIsGood_15 : am_i m_L_flatIsGood 15 = some (15, .iconst 0, 1, [], 0) := rfl
theorem i_L_flatIsGood_16 : am_i m_L_flatIsGood 16 = some (16, .iconst 0, 1, [], 0) := rfl
theorem i_L_flatIsGood_17 : am_i m_L_flatIsGood 17 = some (17, .iastore, 1, [], 0) := rfl
theorem i_L_flatIsGood_18 : am_i m_L_flatIsGood 18 = some (18, .dup, 1, [], 0) := rfl
theorem i_L_flatIsGood_19 : am_i m_L_flatIsGood 19 = some (19, .iconst 1, 1, [], 1) := rfl
theorem i_L_flatIsGood_20 : am_i m_L_flatIsGood 20 = some (20, .iconst 0, 1, [], 0) := rfl
theorem i_L_flatIsGood_21 : am_i m_L_flatIsGood 21 = some (21, .iastore, 1, [], 0) := rfl
theorem i_L_flatIsGood_22 : am_i m_L_flatIsGood 22 = some (22, .dup, 1, [], 0) := rfl
theorem i_L_flatIsGood_23 : am_i m_L_flatIsGood 23 = some (23, .iconst 2, 1, [], 2) := rfl
theorem i_L_flatIsGood_24 : am_i m_L_flatIsGood 24 = some (24, .bipush 16, 2, [], 16) := rfl
theorem i_L_flatIsGood_26 : am_i m_L_flatIsGood 26 = some (26, .iastore, 1, [], 0) := rfl
theorem i_L_flatIsGood_27 : am_i m_L_flatIsGood 27 = some (27, .dup, 1, [], 0) := rfl
theorem i_L_flatIsGood_28 : am_i m_L_flatIsGood 28 = some (28, .iconst 3, 1, [], 3) := rfl
theorem i_L_flatIsGood_29 : am_i m_L_flatIsGood 29 = some (29, .bipush 16, 2, [], 16) := rfl
theorem i_L_flatIsGood_31 : am_i m_L_flatIsGood 31 = some (31, .iastore, 1, [], 0) := rfl
theorem i_L_flatIsGood_32 : am_i m_L_flatIsGood 32 = some (32, .dup, 1, [], 0) := rfl
theorem i_L_flatIsGood_33 : am_i m_L_flatIsGood 33 = some (33, .iconst 4, 1, [], 4) := rfl
theorem i_L_flatIsGood_34 : am_i m_L_flatIsGood 34 = some (34, .iload_n 0, 1, [], 0) := rfl
theorem i_L_flatIsGood_35 : am_i m_L_flatIsGood 35 = some (35, .iastore, 1, [], 0) := rfl
theorem i_L_flatIsGood_36 : am_i m_L_flatIsGood 36 = some (36, .invokestatic 130, 3, [122], 0) := rfl
theorem b_L_flatIsGood_14 {x0 x1 x2 xs1 : Int} {a3 as0 as2 n_as0 : Nat} {v4 v5 v6 : Value} {h : am_H} (n1 : gn h as0 = n_as0) (s2 : sh h as0 = (1, 0)) (g3 : (0 : Int) ≤ 0 ∧ 0 < (n_as0 : Int)) (g4 : (0 : Int) ≤ 1 ∧ 1 < (n_as0 : Int)) (g5 : (0 : Int) ≤ 2 ∧ 2 < (n_as0 : Int)) (g6 : (0 : Int) ≤ 3 ∧ 3 < (n_as0 : Int)) (g7 : (0 : Int) ≤ 4 ∧ 4 < (n_as0 : Int)) : rn m_L_flatIsGood 14 [.int (mI x0), .int (mI x1), .int (mI x2), .ref a3, v4, v5, v6] [.ref as0, .int (mI xs1), .ref as2] h = cl m_L_flatIsGood 39 [.int (mI x0), .int (mI x1), .int (mI x2), .ref a3, v4, v5, v6] [] (rn m_L_paint 0 [.ref as2, .int (mI xs1), .ref as0, am_J] [] (uZ (uZ (uZ (uZ (uZ h as0 0 0) as0 1 0) as0 2 16) as0 3 16) as0 4 x0)) := by
  refine (tq_dup i_L_flatIsGood_14 rfl rfl).trans ?_
  refine (tq_iconst i_L_flatIsGood_15 rfl).trans ?_
  refine (tq_iconst i_L_flatIsGood_16 rfl).trans ?_
  refine (tq_iastore i_L_flatIsGood_17 s2 w_0 g3.1 (lt_gn n1 g3.2) rfl).trans ?_
  refine (tq_dup i_L_flatIsGood_18 rfl rfl).trans ?_
  refine (tq_iconst i_L_flatIsGood_19 rfl).trans ?_
  refine (tq_iconst i_L_flatIsGood_20 rfl).trans ?_
  refine (tq_iastore i_L_flatIsGood_21 ((sh_uZ _ _ _ _ _).trans s2) w_1 g4.1 (lt_gn ((gn_uZ _ _ _ _ _).trans n1) g4.2) rfl).trans ?_
  refine (tq_dup i_L_flatIsGood_22 rfl rfl).trans ?_
  refine (tq_iconst i_L_flatIsGood_23 rfl).trans ?_
  refine (tq_bipush i_L_flatIsGood_24 rfl).trans ?_
  refine (tq_iastore i_L_flatIsGood_26 ((sh_uZ _ _ _ _ _).trans ((sh_uZ _ _ _ _ _).trans s2)) w_2 g5.1 (lt_gn ((gn_uZ _ _ _ _ _).trans ((gn_uZ _ _ _ _ _).trans n1)) g5.2) rfl).trans ?_
  refine (tq_dup i_L_flatIsGood_27 rfl rfl).trans ?_
  refine (tq_iconst i_L_flatIsGood_28 rfl).trans ?_
  refine (tq_bipush i_L_flatIsGood_29 rfl).trans ?_
  refine (tq_iastore i_L_flatIsGood_31 ((sh_uZ _ _ _ _ _).trans ((sh_uZ _ _ _ _ _).trans ((sh_uZ _ _ _ _ _).trans s2))) w_3 g6.1 (lt_gn ((gn_uZ _ _ _ _ _).trans ((gn_uZ _ _ _ _ _).trans ((gn_uZ _ _ _ _ _).trans n1))) g6.2) rfl).trans ?_
  refine (tq_dup i_L_flatIsGood_32 rfl rfl).trans ?_
  refine (tq_iconst i_L_flatIsGood_33 rfl).trans ?_
  refine (tq_iload_n i_L_flatIsGood_34 rfl rfl).trans ?_
  refine (tq_iastore i_L_flatIsGood_35 ((sh_uZ _ _ _ _ _).trans ((sh_uZ _ _ _ _ _).trans ((sh_uZ _ _ _ _ _).trans ((sh_uZ _ _ _ _ _).trans s2)))) w_4 g7.1 (lt_gn ((gn_uZ _ _ _ _ _).trans ((gn_uZ _ _ _ _ _).trans ((gn_uZ _ _ _ _ _).trans ((gn_uZ _ _ _ _ _).trans n1)))) g7.2) rfl).trans ?_
  exact c_L_paint i_L_flatIsGood_36 (ltd d_L_flatIsGood (by decide)) (isA_ref _) (isA_ref _) stOk_0 rfl
theorem i_L_flatIsGood_39 : am_i m_L_flatIsGood 39 = some (39, .istore 4, 2, [], 0) := rfl
theorem i_L_flatIsGood_41 : am_i m_L_flatIsGood 41 = some (41, .iload 4, 2, [], 0) := rfl
theorem i_L_flatIsGood_43 : am_i m_L_flatIsGood 43 = some (43, .iload_n 0, 1, [], 0) := rfl
theorem i_L_flatIsGood_44 : am_i m_L_flatIsGood 44 = some (44, .ifCond .ne 7, 3, [], 0) := rfl
theorem i_L_flatIsGood_47 : am_i m_L_flatIsGood 47 = some (47, .iconst 0, 1, [], 0) := rfl
theorem i_L_flatIsGood_48 : am_i m_L_flatIsGood 48 = some (48, .goto 6, 3, [], 0) := rfl
theorem i_L_flatIsGood_51 : am_i m_L_flatIsGood 51 = some (51, .sipush 256, 3, [], 256) := rfl
theorem i_L_flatIsGood_54 : am_i m_L_flatIsGood 54 = some (54, .if_icmp .ne 40, 3, [], 0) := rfl
theorem i_L_flatIsGood_57 : am_i m_L_flatIsGood 57 = some (57, .aload_n 3, 1, [], 0) := rfl
theorem i_L_flatIsGood_58 : am_i m_L_flatIsGood 58 = some (58, .bipush 113, 2, [], 113) := rfl
theorem i_L_flatIsGood_60 : am_i m_L_flatIsGood 60 = some (60, .iload_n 1, 1, [], 0) := rfl
theorem i_L_flatIsGood_61 : am_i m_L_flatIsGood 61 = some (61, .invokestatic 163, 3, [144], 0) := rfl
theorem i_L_flatIsGood_94 : am_i m_L_flatIsGood 94 = some (94, .iconst 0, 1, [], 0) := rfl
theorem i_L_flatIsGood_95 : am_i m_L_flatIsGood 95 = some (95, .ireturn, 1, [], 0) := rfl
theorem b_L_flatIsGood_39 {x0 x1 x2 xs0 x0' xs0' : Int} {a3 : Nat} {v4 v5 v6 : Value} {h : am_H} (w0 : wr x0 = x0') (ws0 : wr xs0 = xs0') : rn m_L_flatIsGood 39 [.int (mI x0), .int (mI x1), .int (mI x2), .ref a3, v4, v5, v6] [.int (mI xs0)] h = if ¬ xs0' = (if ¬ x0' = 0 then (256 : Int) else 0) then some (.inl (some (.int (mI 0))), h) else cl m_L_flatIsGood 64 [.int (mI x0), .int (mI x1), .int (mI x2), .ref a3, .int (mI xs0), v5, v6] [] (rn m_L_ask 0 [.ref a3, .int (mI 113), .int (mI x1), am_J] [] h) := by
  refine (tq_istore (L' := [.int (mI x0), .int (mI x1), .int (mI x2), .ref a3, .int (mI xs0), v5, v6]) i_L_flatIsGood_39 rfl rfl).trans ?_
  refine (tq_iload i_L_flatIsGood_41 rfl rfl).trans ?_
  refine (tq_iload_n i_L_flatIsGood_43 rfl rfl).trans ?_
  refine (tq_if_ne (pt := 51) i_L_flatIsGood_44 w0 (by decide) rfl).trans ?_
  refine Eq.trans (b := if ¬ x0' = 0 then rn m_L_flatIsGood 54 [.int (mI x0), .int (mI x1), .int (mI x2), .ref a3, .int (mI xs0), v5, v6] [.int (mI 256), .int (mI xs0)] h else rn m_L_flatIsGood 54 [.int (mI x0), .int (mI x1), .int (mI x2), .ref a3, .int (mI xs0), v5, v6] [.int (mI 0), .int (mI xs0)] h) (ite_congr rfl (fun c1 => ?_) (fun c1 => ?_)) ?_
  · refine (tq_sipush i_L_flatIsGood_51 rfl).trans ?_
    rfl
  · refine (tq_iconst i_L_flatIsGood_47 rfl).trans ?_
    refine (tq_goto (pc' := 54) i_L_flatIsGood_48 (by decide)).trans ?_
    rfl
  refine Eq.trans ite_I ?_
  refine (tq_icmp_ne (pt := 94) i_L_flatIsGood_54 ws0 (wr_ite w_256 w_0) (by decide) rfl).trans ?_
  refine ite_congr rfl (fun c2 => ?_) (fun c2 => ?_)
  · refine (tq_iconst i_L_flatIsGood_94 rfl).trans ?_
    exact tq_ireturn i_L_flatIsGood_95 r_L_flatIsGood (okB w_0 (by decide))
  · refine (tq_aload_n i_L_flatIsGood_57 rfl (isA_ref _) rfl).trans ?_
    refine (tq_bipush i_L_flatIsGood_58 rfl).trans ?_
    refine (tq_iload_n i_L_flatIsGood_60 rfl rfl).trans ?_
    exact c_L_ask i_L_flatIsGood_61 (ltd d_L_flatIsGood (by decide)) (isA_ref _) stOk_0 rfl
theorem i_L_flatIsGood_64 : am_i m_L_flatIsGood 64 = some (64, .bipush 8, 2, [], 8) := rfl
theorem i_L_flatIsGood_66 : am_i m_L_flatIsGood 66 = some (66, .if_icmp .ne 28, 3, [], 0) := rfl
theorem i_L_flatIsGood_69 : am_i m_L_flatIsGood 69 = some (69, .aload_n 3, 1, [], 0) := rfl
theorem i_L_flatIsGood_70 : am_i m_L_flatIsGood 70 = some (70, .bipush 116, 2, [], 116) := rfl
theorem i_L_flatIsGood_72 : am_i m_L_flatIsGood 72 = some (72, .iload_n 2, 1, [], 0) := rfl
theorem i_L_flatIsGood_73 : am_i m_L_flatIsGood 73 = some (73, .invokestatic 163, 3, [144], 0) := rfl
theorem b_L_flatIsGood_64 {x0 x1 x2 xs0 xs0' : Int} {a3 : Nat} {v4 v5 v6 : Value} {h : am_H} (ws0 : wr xs0 = xs0') : rn m_L_flatIsGood 64 [.int (mI x0), .int (mI x1), .int (mI x2), .ref a3, v4, v5, v6] [.int (mI xs0)] h = if ¬ xs0' = 8 then some (.inl (some (.int (mI 0))), h) else cl m_L_flatIsGood 76 [.int (mI x0), .int (mI x1), .int (mI x2), .ref a3, v4, v5, v6] [] (rn m_L_ask 0 [.ref a3, .int (mI 116), .int (mI x2), am_J] [] h) := by
  refine (tq_bipush i_L_flatIsGood_64 rfl).trans ?_
  refine (tq_icmp_ne (pt := 94) i_L_flatIsGood_66 ws0 w_8 (by decide) rfl).trans ?_
  refine ite_congr rfl (fun c1 => ?_) (fun c1 => ?_)
  · refine (tq_iconst i_L_flatIsGood_94 rfl).trans ?_
    exact tq_ireturn i_L_flatIsGood_95 r_L_flatIsGood (okB w_0 (by decide))
  · refine (tq_aload_n i_L_flatIsGood_69 rfl (isA_ref _) rfl).trans ?_
    refine (tq_bipush i_L_flatIsGood_70 rfl).trans ?_
    refine (tq_iload_n i_L_flatIsGood_72 rfl rfl).trans ?_
    exact c_L_ask i_L_flatIsGood_73 (ltd d_L_flatIsGood (by decide)) (isA_ref _) stOk_0 rfl
theorem i_L_flatIsGood_76 : am_i m_L_flatIsGood 76 = some (76, .bipush 7, 2, [], 7) := rfl
theorem i_L_flatIsGood_78 : am_i m_L_flatIsGood 78 = some (78, .if_icmp .ne 16, 3, [], 0) := rfl
theorem i_L_flatIsGood_81 : am_i m_L_flatIsGood 81 = some (81, .aload_n 3, 1, [], 0) := rfl
theorem i_L_flatIsGood_82 : am_i m_L_flatIsGood 82 = some (82, .bipush 105, 2, [], 105) := rfl
theorem i_L_flatIsGood_84 : am_i m_L_flatIsGood 84 = some (84, .iconst 0, 1, [], 0) := rfl
theorem i_L_flatIsGood_85 : am_i m_L_flatIsGood 85 = some (85, .iconst 0, 1, [], 0) := rfl
theorem i_L_flatIsGood_86 : am_i m_L_flatIsGood 86 = some (86, .invokestatic 167, 3, [145], 0) := rfl
theorem b_L_flatIsGood_76 {x0 x1 x2 xs0 xs0' : Int} {a3 : Nat} {v4 v5 v6 : Value} {h : am_H} (ws0 : wr xs0 = xs0') : rn m_L_flatIsGood 76 [.int (mI x0), .int (mI x1), .int (mI x2), .ref a3, v4, v5, v6] [.int (mI xs0)] h = if ¬ xs0' = 7 then some (.inl (some (.int (mI 0))), h) else cl m_L_flatIsGood 89 [.int (mI x0), .int (mI x1), .int (mI x2), .ref a3, v4, v5, v6] [] (rn m_L_code 0 [.ref a3, .int (mI 105), .int (mI 0), .int (mI 0), am_J] [] h) := by
  refine (tq_bipush i_L_flatIsGood_76 rfl).trans ?_
  refine (tq_icmp_ne (pt := 94) i_L_flatIsGood_78 ws0 w_7 (by decide) rfl).trans ?_
  refine ite_congr rfl (fun c1 => ?_) (fun c1 => ?_)
  · refine (tq_iconst i_L_flatIsGood_94 rfl).trans ?_
    exact tq_ireturn i_L_flatIsGood_95 r_L_flatIsGood (okB w_0 (by decide))
  · refine (tq_aload_n i_L_flatIsGood_81 rfl (isA_ref _) rfl).trans ?_
    refine (tq_bipush i_L_flatIsGood_82 rfl).trans ?_
    refine (tq_iconst i_L_flatIsGood_84 rfl).trans ?_
    refine (tq_iconst i_L_flatIsGood_85 rfl).trans ?_
    exact c_L_code i_L_flatIsGood_86 (ltd d_L_flatIsGood (by decide)) (isA_ref _) stOk_0 rfl
theorem i_L_flatIsGood_89 : am_i m_L_flatIsGood 89 = some (89, .bipush 32, 2, [], 32) := rfl
theorem i_L_flatIsGood_91 : am_i m_L_flatIsGood 91 = some (91, .if_icmp .ge 5, 3, [], 0) := rfl
theorem i_L_flatIsGood_96 : am_i m_L_flatIsGood 96 = some (96, .iload_n 1, 1, [], 0) := rfl
theorem i_L_flatIsGood_97 : am_i m_L_flatIsGood 97 = some (97, .iconst 4, 1, [], 4) := rfl
theorem i_L_flatIsGood_98 : am_i m_L_flatIsGood 98 = some (98, .idiv, 1, [], 0) := rfl
theorem i_L_flatIsGood_99 : am_i m_L_flatIsGood 99 = some (99, .iconst 1, 1, [], 1) := rfl
theorem i_L_flatIsGood_100 : am_i m_L_flatIsGood 100 = some (100, .iadd, 1, [], 0) := rfl
theorem i_L_flatIsGood_101 : am_i m_L_flatIsGood 101 = some (101, .istore 5, 2, [], 0) := rfl
theorem i_L_flatIsGood_103 : am_i m_L_flatIsGood 103 = some (103, .iconst 0, 1, [], 0) := rfl
theorem i_L_flatIsGood_104 : am_i m_L_flatIsGood 104 = some (104, .istore 6, 2, [], 0) := rfl
theorem b_L_flatIsGood_89 {x0 x1 x2 xs0 x1' xs0' : Int} {a3 : Nat} {v4 v5 v6 : Value} {h : am_H} (w1 : wr x1 = x1') (ws0 : wr xs0 = xs0') : rn m_L_flatIsGood 89 [.int (mI x0), .int (mI x1), .int (mI x2), .ref a3, v4, v5, v6] [.int (mI xs0)] h = if 32 ≤ xs0' then rn m_L_flatIsGood 106 [.int (mI x0), .int (mI x1), .int (mI x2), .ref a3, (am_k1 v4), .int (mI ((Int.tdiv x1' 4) + 1)), .int (mI 0)] [] h else some (.inl (some (.int (mI 0))), h) := by
  refine (tq_bipush i_L_flatIsGood_89 rfl).trans ?_
  refine (tq_icmp_ge (pt := 96) i_L_flatIsGood_91 ws0 w_32 (by decide) rfl).trans ?_
  refine ite_congr rfl (fun c1 => ?_) (fun c1 => ?_)
  · refine (tq_iload_n i_L_flatIsGood_96 rfl rfl).trans ?_
    refine (tq_iconst i_L_flatIsGood_97 rfl).trans ?_
    refine (tq_idiv i_L_flatIsGood_98 w1 w_4 (by decide) rfl).trans ?_
    refine (tq_iconst i_L_flatIsGood_99 rfl).trans ?_
    refine (tq_iadd i_L_flatIsGood_100 rfl).trans ?_
    refine (tq_istore (L' := [.int (mI x0), .int (mI x1), .int (mI x2), .ref a3, (am_k1 v4), .int (mI ((Int.tdiv x1' 4) + 1)), v6]) i_L_flatIsGood_101 rfl rfl).trans ?_
    refine (tq_iconst i_L_flatIsGood_103 rfl).trans ?_
    refine (tq_istore (L' := [.int (mI x0), .int (mI x1), .int (mI x2), .ref a3, (am_k1 v4), .int (mI ((Int.tdiv x1' 4) + 1)), .int (mI 0)]) i_L_flatIsGood_104 rfl rfl).trans ?_
    rfl
  · refine (tq_iconst i_L_flatIsGood_94 rfl).trans ?_
    exact tq_ireturn i_L_flatIsGood_95 r_L_flatIsGood (okB w_0 (by decide))
theorem i_L_flatIsGood_106 : am_i m_L_flatIsGood 106 = some (106, .iload 6, 2, [], 0) := rfl
theorem i_L_flatIsGood_108 : am_i m_L_flatIsGood 108 = some (108, .sipush 256, 3, [], 256) := rfl
theorem i_L_flatIsGood_111 : am_i m_L_flatIsGood 111 = some (111, .if_icmp .ge 54, 3, [], 0) := rfl
theorem i_L_flatIsGood_114 : am_i m_L_flatIsGood 114 = some (114, .aload_n 3, 1, [], 0) := rfl
theorem i_L_flatIsGood_115 : am_i m_L_flatIsGood 115 = some (115, .bipush 98, 2, [], 98) := rfl
theorem i_L_flatIsGood_117 : am_i m_L_flatIsGood 117 = some (117, .iconst 0, 1, [], 0) := rfl
theorem i_L_flatIsGood_118 : am_i m_L_flatIsGood 118 = some (118, .iload 6, 2, [], 0) := rfl
theorem i_L_flatIsGood_120 : am_i m_L_flatIsGood 120 = some (120, .bipush 16, 2, [], 16) := rfl
theorem i_L_flatIsGood_122 : am_i m_L_flatIsGood 122 = some (122, .irem, 1, [], 0) := rfl
theorem i_L_flatIsGood_123 : am_i m_L_flatIsGood 123 = some (123, .iload 6, 2, [], 0) := rfl
theorem i_L_flatIsGood_125 : am_i m_L_flatIsGood 125 = some (125, .bipush 16, 2, [], 16) := rfl
theorem i_L_flatIsGood_127 : am_i m_L_flatIsGood 127 = some (127, .idiv, 1, [], 0) := rfl
theorem i_L_flatIsGood_128 : am_i m_L_flatIsGood 128 = some (128, .invokestatic 137, 3, [141], 0) := rfl
theorem i_L_flatIsGood_165 : am_i m_L_flatIsGood 165 = some (165, .aload_n 3, 1, [], 0) := rfl
theorem i_L_flatIsGood_166 : am_i m_L_flatIsGood 166 = some (166, .bipush 112, 2, [], 112) := rfl
theorem i_L_flatIsGood_168 : am_i m_L_flatIsGood 168 = some (168, .iconst 0, 1, [], 0) := rfl
theorem i_L_flatIsGood_169 : am_i m_L_flatIsGood 169 = some (169, .iconst 0, 1, [], 0) := rfl
theorem i_L_flatIsGood_170 : am_i m_L_flatIsGood 170 = some (170, .invokestatic 167, 3, [145], 0) := rfl
theorem b_L_flatIsGood_106 {x0 x2 x5 x6 x6' : Int} {v1 v4 : Value} {a3 : Nat} {h : am_H} (w6 : wr x6 = x6') : rn m_L_flatIsGood 106 [.int (mI x0), v1, .int (mI x2), .ref a3, v4, .int (mI x5), .int (mI x6)] [] h = if 256 ≤ x6' then cl m_L_flatIsGood 173 [.int (mI x0), v1, .int (mI x2), .ref a3, v4, .int (mI x5), .int (mI x6)] [] (rn m_L_code 0 [.ref a3, .int (mI 112), .int (mI 0), .int (mI 0), am_J] [] h) else cl m_L_flatIsGood 131 [.int (mI x0), v1, .int (mI x2), .ref a3, v4, .int (mI x5), .int (mI x6)] [] (rn m_L_pixel 0 [.ref a3, .int (mI 98), .int (mI 0), .int (mI (Int.tmod x6' 16)), .int (mI (Int.tdiv x6' 16)), am_J] [] h) := by
  refine (tq_iload i_L_flatIsGood_106 rfl rfl).trans ?_
  refine (tq_sipush i_L_flatIsGood_108 rfl).trans ?_
  refine (tq_icmp_ge (pt := 165) i_L_flatIsGood_111 w6 w_256 (by decide) rfl).trans ?_
  refine ite_congr rfl (fun c1 => ?_) (fun c1 => ?_)
  · refine (tq_aload_n i_L_flatIsGood_165 rfl (isA_ref _) rfl).trans ?_
    refine (tq_bipush i_L_flatIsGood_166 rfl).trans ?_
    refine (tq_iconst i_L_flatIsGood_168 rfl).trans ?_
    refine (tq_iconst i_L_flatIsGood_169 rfl).trans ?_
    exact c_L_code i_L_flatIsGood_170 (ltd d_L_flatIsGood (by decide)) (isA_ref _) stOk_0 rfl
  · refine (tq_aload_n i_L_flatIsGood_114 rfl (isA_ref _) rfl).trans ?_
    refine (tq_bipush i_L_flatIsGood_115 rfl).trans ?_
    refine (tq_iconst i_L_flatIsGood_117 rfl).trans ?_
    refine (tq_iload i_L_flatIsGood_118 rfl rfl).trans ?_
    refine (tq_bipush i_L_flatIsGood_120 rfl).trans ?_
    refine (tq_irem i_L_flatIsGood_122 w6 w_16 (by decide) rfl).trans ?_
    refine (tq_iload i_L_flatIsGood_123 rfl rfl).trans ?_
    refine (tq_bipush i_L_flatIsGood_125 rfl).trans ?_
    refine (tq_idiv i_L_flatIsGood_127 w6 w_16 (by decide) rfl).trans ?_
    exact c_L_pixel i_L_flatIsGood_128 (ltd d_L_flatIsGood (by decide)) (isA_ref _) stOk_0 rfl
theorem i_L_flatIsGood_131 : am_i m_L_flatIsGood 131 = some (131, .iload_n 0, 1, [], 0) := rfl
theorem i_L_flatIsGood_132 : am_i m_L_flatIsGood 132 = some (132, .isub, 1, [], 0) := rfl
theorem i_L_flatIsGood_133 : am_i m_L_flatIsGood 133 = some (133, .invokestatic 170, 3, [0, 0], 0) := rfl
theorem i_L_flatIsGood_136 : am_i m_L_flatIsGood 136 = some (136, .iload 5, 2, [], 0) := rfl
theorem i_L_flatIsGood_138 : am_i m_L_flatIsGood 138 = some (138, .iload_n 2, 1, [], 0) := rfl
theorem i_L_flatIsGood_139 : am_i m_L_flatIsGood 139 = some (139, .iconst 2, 1, [], 2) := rfl
theorem i_L_flatIsGood_140 : am_i m_L_flatIsGood 140 = some (140, .idiv, 1, [], 0) := rfl
theorem i_L_flatIsGood_141 : am_i m_L_flatIsGood 141 = some (141, .iconst 2, 1, [], 2) := rfl
theorem i_L_flatIsGood_142 : am_i m_L_flatIsGood 142 = some (142, .irem, 1, [], 0) := rfl
theorem i_L_flatIsGood_143 : am_i m_L_flatIsGood 143 = some (143, .iconst 1, 1, [], 1) := rfl
theorem i_L_flatIsGood_144 : am_i m_L_flatIsGood 144 = some (144, .if_icmp .ne 8, 3, [], 0) := rfl
theorem i_L_flatIsGood_147 : am_i m_L_flatIsGood 147 = some (147, .iload 5, 2, [], 0) := rfl
theorem i_L_flatIsGood_149 : am_i m_L_flatIsGood 149 = some (149, .goto 4, 3, [], 0) := rfl
theorem i_L_flatIsGood_152 : am_i m_L_flatIsGood 152 = some (152, .iconst 0, 1, [], 0) := rfl
theorem i_L_flatIsGood_153 : am_i m_L_flatIsGood 153 = some (153, .iadd, 1, [], 0) := rfl
theorem i_L_flatIsGood_154 : am_i m_L_flatIsGood 154 = some (154, .if_icmp .le 5, 3, [], 0) := rfl
theorem i_L_flatIsGood_157 : am_i m_L_flatIsGood 157 = some (157, .iconst 0, 1, [], 0) := rfl
theorem i_L_flatIsGood_158 : am_i m_L_flatIsGood 158 = some (158, .ireturn, 1, [], 0) := rfl
theorem i_L_flatIsGood_159 : am_i m_L_flatIsGood 159 = some (159, .iinc 6 1, 3, [], 0) := rfl
theorem i_L_flatIsGood_162 : am_i m_L_flatIsGood 162 = some (162, .goto (-56), 3, [], 0) := rfl
theorem b_L_flatIsGood_131 {x0 x2 x5 x6 xs0 x2' : Int} {v1 v4 : Value} {a3 : Nat} {h : am_H} (w2 : wr x2 = x2') : rn m_L_flatIsGood 131 [.int (mI x0), v1, .int (mI x2), .ref a3, v4, .int (mI x5), .int (mI x6)] [.int (mI xs0)] h = if (wr (max (wr (xs0 - x0)) (-(wr (xs0 - x0))))) ≤ (wr (x5 + (if ¬ (wr (Int.tmod (wr (Int.tdiv x2' 2)) 2)) = 1 then (0 : Int) else x5))) then rn m_L_flatIsGood 106 [.int (mI x0), v1, .int (mI x2), .ref a3, v4, .int (mI x5), .int (mI (x6 + 1))] [] h else some (.inl (some (.int (mI 0))), h) := by
  refine (tq_iload_n i_L_flatIsGood_131 rfl rfl).trans ?_
  refine (tq_isub i_L_flatIsGood_132 rfl).trans ?_
  refine (tq_abs i_L_flatIsGood_133 rfl (Nat.le_of_ble_eq_true rfl) rfl).trans ?_
  refine (tq_iload i_L_flatIsGood_136 rfl rfl).trans ?_
  refine (tq_iload_n i_L_flatIsGood_138 rfl rfl).trans ?_
  refine (tq_iconst i_L_flatIsGood_139 rfl).trans ?_
  refine (tq_idiv i_L_flatIsGood_140 w2 w_2 (by decide) rfl).trans ?_
  refine (tq_iconst i_L_flatIsGood_141 rfl).trans ?_
  refine (tq_irem i_L_flatIsGood_142 rfl w_2 (by decide) rfl).trans ?_
  refine (tq_iconst i_L_flatIsGood_143 rfl).trans ?_
  refine (tq_icmp_ne (pt := 152) i_L_flatIsGood_144 rfl w_1 (by decide) rfl).trans ?_
  refine Eq.trans (b := if ¬ (wr (Int.tmod (wr (Int.tdiv x2' 2)) 2)) = 1 then rn m_L_flatIsGood 153 [.int (mI x0), v1, .int (mI x2), .ref a3, v4, .int (mI x5), .int (mI x6)] [.int (mI 0), .int (mI x5), .int (mI (max (wr (xs0 - x0)) (-(wr (xs0 - x0)))))] h else rn m_L_flatIsGood 153 [.int (mI x0), v1, .int (mI x2), .ref a3, v4, .int (mI x5), .int (mI x6)] [.int (mI x5), .int (mI x5), .int (mI (max (wr (xs0 - x0)) (-(wr (xs0 - x0)))))] h) (ite_congr rfl (fun c1 => ?_) (fun c1 => ?_)) ?_
  · refine (tq_iconst i_L_flatIsGood_152 rfl).trans ?_
    rfl
  · refine (tq_iload i_L_flatIsGood_147 rfl rfl).trans ?_
    refine (tq_goto (pc' := 153) i_L_flatIsGood_149 (by decide)).trans ?_
    rfl
  refine Eq.trans ite_I ?_
  refine (tq_iadd i_L_flatIsGood_153 rfl).trans ?_
  refine (tq_icmp_le (pt := 159) i_L_flatIsGood_154 rfl rfl (by decide) rfl).trans ?_
  refine ite_congr rfl (fun c2 => ?_) (fun c2 => ?_)
  · refine (tq_iinc (L' := [.int (mI x0), v1, .int (mI x2), .ref a3, v4, .int (mI x5), .int (mI (x6 + 1))]) i_L_flatIsGood_159 rfl rfl rfl).trans ?_
    refine (tq_goto (pc' := 106) i_L_flatIsGood_162 (by decide)).trans ?_
    rfl
  · refine (tq_iconst i_L_flatIsGood_157 rfl).trans ?_
    exact tq_ireturn i_L_flatIsGood_158 r_L_flatIsGood (okB w_0 (by decide))
theorem i_L_flatIsGood_173 : am_i m_L_flatIsGood 173 = some (173, .istore 6, 2, [], 0) := rfl
theorem i_L_flatIsGood_175 : am_i m_L_flatIsGood 175 = some (175, .iload 6, 2, [], 0) := rfl
theorem i_L_flatIsGood_177 : am_i m_L_flatIsGood 177 = some (177, .ifCond .le 55, 3, [], 0) := rfl
theorem i_L_flatIsGood_180 : am_i m_L_flatIsGood 180 = some (180, .aload_n 3, 1, [], 0) := rfl
theorem i_L_flatIsGood_181 : am_i m_L_flatIsGood 181 = some (181, .bipush 112, 2, [], 112) := rfl
theorem i_L_flatIsGood_183 : am_i m_L_flatIsGood 183 = some (183, .iconst 1, 1, [], 1) := rfl
theorem i_L_flatIsGood_184 : am_i m_L_flatIsGood 184 = some (184, .iconst 0, 1, [], 0) := rfl
theorem i_L_flatIsGood_185 : am_i m_L_flatIsGood 185 = some (185, .iconst 0, 1, [], 0) := rfl
theorem i_L_flatIsGood_186 : am_i m_L_flatIsGood 186 = some (186, .invokestatic 137, 3, [141], 0) := rfl
theorem i_L_flatIsGood_232 : am_i m_L_flatIsGood 232 = some (232, .iconst 0, 1, [], 0) := rfl
theorem i_L_flatIsGood_233 : am_i m_L_flatIsGood 233 = some (233, .ireturn, 1, [], 0) := rfl
theorem b_L_flatIsGood_173 {v0 v1 v2 v4 v5 v6 : Value} {a3 : Nat} {xs0 xs0' : Int} {h : am_H} (ws0 : wr xs0 = xs0') : rn m_L_flatIsGood 173 [v0, v1, v2, .ref a3, v4, v5, v6] [.int (mI xs0)] h = if xs0' ≤ 0 then some (.inl (some (.int (mI 0))), h) else cl m_L_flatIsGood 189 [v0, v1, v2, .ref a3, v4, (am_k1 v5), .int (mI xs0)] [] (rn m_L_pixel 0 [.ref a3, .int (mI 112), .int (mI 1), .int (mI 0), .int (mI 0), am_J] [] h) := by
  refine (tq_istore (L' := [v0, v1, v2, .ref a3, v4, (am_k1 v5), .int (mI xs0)]) i_L_flatIsGood_173 rfl rfl).trans ?_
  refine (tq_iload i_L_flatIsGood_175 rfl rfl).trans ?_
  refine (tq_if_le (pt := 232) i_L_flatIsGood_177 ws0 (by decide) rfl).trans ?_
  refine ite_congr rfl (fun c1 => ?_) (fun c1 => ?_)
  · refine (tq_iconst i_L_flatIsGood_232 rfl).trans ?_
    exact tq_ireturn i_L_flatIsGood_233 r_L_flatIsGood (okB w_0 (by decide))
  · refine (tq_aload_n i_L_flatIsGood_180 rfl (isA_ref _) rfl).trans ?_
    refine (tq_bipush i_L_flatIsGood_181 rfl).trans ?_
    refine (tq_iconst i_L_flatIsGood_183 rfl).trans ?_
    refine (tq_iconst i_L_flatIsGood_184 rfl).trans ?_
    refine (tq_iconst i_L_flatIsGood_185 rfl).trans ?_
    exact c_L_pixel i_L_flatIsGood_186 (ltd d_L_flatIsGood (by decide)) (isA_ref _) stOk_0 rfl
theorem i_L_flatIsGood_189 : am_i m_L_flatIsGood 189 = some (189, .bipush 8, 2, [], 8) := rfl
theorem i_L_flatIsGood_191 : am_i m_L_flatIsGood 191 = some (191, .if_icmp .ne 41, 3, [], 0) := rfl
theorem i_L_flatIsGood_194 : am_i m_L_flatIsGood 194 = some (194, .aload_n 3, 1, [], 0) := rfl
theorem i_L_flatIsGood_195 : am_i m_L_flatIsGood 195 = some (195, .bipush 100, 2, [], 100) := rfl
theorem i_L_flatIsGood_197 : am_i m_L_flatIsGood 197 = some (197, .iconst 0, 1, [], 0) := rfl
theorem i_L_flatIsGood_198 : am_i m_L_flatIsGood 198 = some (198, .invokestatic 163, 3, [144], 0) := rfl
theorem b_L_flatIsGood_189 {v0 v1 v2 v4 v5 v6 : Value} {a3 : Nat} {xs0 xs0' : Int} {h : am_H} (ws0 : wr xs0 = xs0') : rn m_L_flatIsGood 189 [v0, v1, v2, .ref a3, v4, v5, v6] [.int (mI xs0)] h = if ¬ xs0' = 8 then some (.inl (some (.int (mI 0))), h) else cl m_L_flatIsGood 201 [v0, v1, v2, .ref a3, v4, v5, v6] [] (rn m_L_ask 0 [.ref a3, .int (mI 100), .int (mI 0), am_J] [] h) := by
  refine (tq_bipush i_L_flatIsGood_189 rfl).trans ?_
  refine (tq_icmp_ne (pt := 232) i_L_flatIsGood_191 ws0 w_8 (by decide) rfl).trans ?_
  refine ite_congr rfl (fun c1 => ?_) (fun c1 => ?_)
  · refine (tq_iconst i_L_flatIsGood_232 rfl).trans ?_
    exact tq_ireturn i_L_flatIsGood_233 r_L_flatIsGood (okB w_0 (by decide))
  · refine (tq_aload_n i_L_flatIsGood_194 rfl (isA_ref _) rfl).trans ?_
    refine (tq_bipush i_L_flatIsGood_195 rfl).trans ?_
    refine (tq_iconst i_L_flatIsGood_197 rfl).trans ?_
    exact c_L_ask i_L_flatIsGood_198 (ltd d_L_flatIsGood (by decide)) (isA_ref _) stOk_0 rfl
theorem i_L_flatIsGood_201 : am_i m_L_flatIsGood 201 = some (201, .bipush 99, 2, [], 99) := rfl
theorem i_L_flatIsGood_203 : am_i m_L_flatIsGood 203 = some (203, .if_icmp .ne 29, 3, [], 0) := rfl
theorem i_L_flatIsGood_206 : am_i m_L_flatIsGood 206 = some (206, .aload_n 3, 1, [], 0) := rfl
theorem i_L_flatIsGood_207 : am_i m_L_flatIsGood 207 = some (207, .bipush 100, 2, [], 100) := rfl
theorem i_L_flatIsGood_209 : am_i m_L_flatIsGood 209 = some (209, .iconst 0, 1, [], 0) := rfl
theorem i_L_flatIsGood_210 : am_i m_L_flatIsGood 210 = some (210, .invokestatic 163, 3, [144], 0) := rfl
theorem b_L_flatIsGood_201 {v0 v1 v2 v4 v5 v6 : Value} {a3 : Nat} {xs0 xs0' : Int} {h : am_H} (ws0 : wr xs0 = xs0') : rn m_L_flatIsGood 201 [v0, v1, v2, .ref a3, v4, v5, v6] [.int (mI xs0)] h = if ¬ xs0' = 99 then some (.inl (some (.int (mI 0))), h) else cl m_L_flatIsGood 213 [v0, v1, v2, .ref a3, v4, v5, v6] [] (rn m_L_ask 0 [.ref a3, .int (mI 100), .int (mI 0), am_J] [] h) := by
  refine (tq_bipush i_L_flatIsGood_201 rfl).trans ?_
  refine (tq_icmp_ne (pt := 232) i_L_flatIsGood_203 ws0 w_99 (by decide) rfl).trans ?_
  refine ite_congr rfl (fun c1 => ?_) (fun c1 => ?_)
  · refine (tq_iconst i_L_flatIsGood_232 rfl).trans ?_
    exact tq_ireturn i_L_flatIsGood_233 r_L_flatIsGood (okB w_0 (by decide))
  · refine (tq_aload_n i_L_flatIsGood_206 rfl (isA_ref _) rfl).trans ?_
    refine (tq_bipush i_L_flatIsGood_207 rfl).trans ?_
    refine (tq_iconst i_L_flatIsGood_209 rfl).trans ?_
    exact c_L_ask i_L_flatIsGood_210 (ltd d_L_flatIsGood (by decide)) (isA_ref _) stOk_0 rfl
theorem i_L_flatIsGood_213 : am_i m_L_flatIsGood 213 = some (213, .bipush 99, 2, [], 99) := rfl
theorem i_L_flatIsGood_215 : am_i m_L_flatIsGood 215 = some (215, .if_icmp .ne 17, 3, [], 0) := rfl
theorem i_L_flatIsGood_218 : am_i m_L_flatIsGood 218 = some (218, .aload_n 3, 1, [], 0) := rfl
theorem i_L_flatIsGood_219 : am_i m_L_flatIsGood 219 = some (219, .bipush 102, 2, [], 102) := rfl
theorem i_L_flatIsGood_221 : am_i m_L_flatIsGood 221 = some (221, .iconst 0, 1, [], 0) := rfl
theorem i_L_flatIsGood_222 : am_i m_L_flatIsGood 222 = some (222, .invokestatic 163, 3, [144], 0) := rfl
theorem b_L_flatIsGood_213 {v0 v1 v2 v4 v5 v6 : Value} {a3 : Nat} {xs0 xs0' : Int} {h : am_H} (ws0 : wr xs0 = xs0') : rn m_L_flatIsGood 213 [v0, v1, v2, .ref a3, v4, v5, v6] [.int (mI xs0)] h = if ¬ xs0' = 99 then some (.inl (some (.int (mI 0))), h) else cl m_L_flatIsGood 225 [v0, v1, v2, .ref a3, v4, v5, v6] [] (rn m_L_ask 0 [.ref a3, .int (mI 102), .int (mI 0), am_J] [] h) := by
  refine (tq_bipush i_L_flatIsGood_213 rfl).trans ?_
  refine (tq_icmp_ne (pt := 232) i_L_flatIsGood_215 ws0 w_99 (by decide) rfl).trans ?_
  refine ite_congr rfl (fun c1 => ?_) (fun c1 => ?_)
  · refine (tq_iconst i_L_flatIsGood_232 rfl).trans ?_
    exact tq_ireturn i_L_flatIsGood_233 r_L_flatIsGood (okB w_0 (by decide))
  · refine (tq_aload_n i_L_flatIsGood_218 rfl (isA_ref _) rfl).trans ?_
    refine (tq_bipush i_L_flatIsGood_219 rfl).trans ?_
    refine (tq_iconst i_L_flatIsGood_221 rfl).trans ?_
    exact c_L_ask i_L_flatIsGood_222 (ltd d_L_flatIsGood (by decide)) (isA_ref _) stOk_0 rfl
theorem i_L_flatIsGood_225 : am_i m_L_flatIsGood 225 = some (225, .ifCond .ne 7, 3, [], 0) := rfl
theorem i_L_flatIsGood_228 : am_i m_L_flatIsGood 228 = some (228, .iconst 1, 1, [], 1) := rfl
theorem i_L_flatIsGood_229 : am_i m_L_flatIsGood 229 = some (229, .goto 4, 3, [], 0) := rfl
theorem b_L_flatIsGood_225 {v0 v1 v2 v3 v4 v5 v6 : Value} {xs0 xs0' : Int} {h : am_H} (ws0 : wr xs0 = xs0') : rn m_L_flatIsGood 225 [v0, v1, v2, v3, v4, v5, v6] [.int (mI xs0)] h = some (.inl (some (.int (mI (bZ (¬ (¬ xs0' = 0)))))), h) := by
  refine (tq_if_ne (pt := 232) i_L_flatIsGood_225 ws0 (by decide) rfl).trans ?_
  refine Eq.trans (b := if ¬ xs0' = 0 then rn m_L_flatIsGood 233 [v0, v1, v2, v3, v4, v5, v6] [.int (mI 0)] h else rn m_L_flatIsGood 233 [v0, v1, v2, v3, v4, v5, v6] [.int (mI 1)] h) (ite_congr rfl (fun c1 => ?_) (fun c1 => ?_)) ?_
  · refine (tq_iconst i_L_flatIsGood_232 rfl).trans ?_
    rfl
  · refine (tq_iconst i_L_flatIsGood_228 rfl).trans ?_
    refine (tq_goto (pc' := 233) i_L_flatIsGood_229 (by decide)).trans ?_
    rfl
  refine Eq.trans ite_b01 ?_
  exact tq_ireturn i_L_flatIsGood_233 r_L_flatIsGood (okB (wr_bZ _) (bZ_01 _))
theorem sm_const (z : Int) : ∀ n : Nat, sm n (fun _ => z) = n * z
  | 0 => by simp [sm]
  | n + 1 => by
    simp only [sm]
    rw [sm_const z n, Int.natCast_add, Int.add_mul]
    simp
theorem flN_all {v : Int} : flN (fun _ => 0) 0 0 16 16 v 256 = if v = 0 then 0 else 256 := by
  unfold flN
  have e : sm (256 : Int).toNat (fun k => if ((0 ≤ k % 16 ∧ k % 16 < 0 + 16) ∧ 0 ≤ k / 16 ∧ k / 16 < 0 + 16) ∧ (0 : Int) ≠ v then (1 : Int) else 0) = sm 256 (fun _ => if v = 0 then 0 else 1) := sm_congr (n := 256) fun k k0 k1 => by
    by_cases q : v = 0
    · rw [if_neg (fun z => z.2 q.symm), if_pos q]
    · rw [if_pos ⟨⟨⟨by omega, by omega⟩, by omega, by omega⟩, fun z => q z.symm⟩, if_neg q]
  rw [e, sm_const]
  by_cases q : v = 0
  · rw [if_pos q, if_pos q]; rfl
  · rw [if_neg q, if_neg q]; rfl
section FL
variable {σ : St} {h h' : am_H} {D : Nat} {c : Int}
theorem stS_f {cv : Int} {P : Int → Int} (k : tpz σ (tz σ 9) 6 ≠ 0) : (tz (stS σ cv P) 7 = tz σ 7 ∧ tz (stS σ cv P) 9 = tz σ 9 + 1 ∧ tz (stS σ cv P) 10 = tz σ 9) ∧ (tpz (stS σ cv P) = tpz σ ∧ tpd (stS σ cv P) = tpd σ) ∧ tsp (stS σ cv P) = P ∧ tkp (stS σ cv P) 0 = P ∧ tkc (stS σ cv P) 0 = cv := by
  refine ⟨⟨rfl, rfl, rfl⟩, ⟨rfl, rfl⟩, rfl, ?_, ?_⟩
  · show (if tpz σ (tz σ 9) 6 = 0 then tkp σ 0 else if (0 : Int) = 0 then P else tkp σ (0 - 1)) = P
    rw [if_neg k, if_pos rfl]
  · show (if tpz σ (tz σ 9) 6 = 0 then tkc σ 0 else if (0 : Int) = 0 then cv else tkc σ (0 - 1)) = cv
    rw [if_neg k, if_pos rfl]
theorem stK_f {z : Nat → Int} {d : Nat → Int → Int} {bt q : Int} (k : z 6 ≠ 0) : (tz (stK σ z d bt q) 0 = q ∧ tz (stK σ z d bt q) 1 = tz σ 1 ∧ tz (stK σ z d bt q) 2 = tz σ 2 ∧ tz (stK σ z d bt q) 3 = tz σ 3 ∧ tz (stK σ z d bt q) 4 = tz σ 4) ∧ (tz (stK σ z d bt q) 7 = tz σ 7 + 1 ∧ tz (stK σ z d bt q) 8 = min (tz σ 8 + 1) 3 ∧ tz (stK σ z d bt q) 9 = tz σ 9) ∧ tc (stK σ z d bt q) = tc σ ∧ tk (stK σ z d bt q) 0 = tz σ 7 ∧ (tpz (stK σ z d bt q) (tz σ 7) = z ∧ tpd (stK σ z d bt q) (tz σ 7) = d) ∧ ∀ i, i ≠ tz σ 7 → tpz (stK σ z d bt q) i = tpz σ i ∧ tpd (stK σ z d bt q) i = tpd σ i := by
  refine ⟨⟨rfl, rfl, rfl, rfl, rfl⟩, ⟨rfl, ?_, rfl⟩, rfl, ?_, ⟨if_pos rfl, if_pos rfl⟩, fun i hi => ⟨if_neg hi, if_neg hi⟩⟩
  · show (if z 6 = 0 then tz σ 8 else min (tz σ 8 + 1) 3) = _
    rw [if_neg k]
  · show (if z 6 = 0 then tk σ 0 else if (0 : Int) = 0 then tz σ 7 else tk σ (0 - 1)) = _
    rw [if_neg k, if_pos rfl]
theorem F1_i {n : Int} (e : tpz σ n 0 = 105) : F1 σ n = fun _ => 128 := if_pos e
theorem F1_p {n : Int} (e : tpz σ n 0 = 112) : F1 σ n = tkp σ (tpz σ n 1) := if_neg (by rw [e]; decide)
theorem F2_i {n : Int} (e : tpz σ n 0 ≠ 98) : F2 σ n = fun _ => 128 := if_neg e
/-- two pictures, the second leaning on the first: both are shown clean, without drift -/
theorem flat_tail (j : CJ σ 0 h D) (n7 : tz σ 7 = 2) (n9 : tz σ 9 = 0) (z00 : tpz σ 0 0 = 105) (z10 : tpz σ 1 0 = 112) (z11 : tpz σ 1 1 = 0) (s0 : tpz σ 0 5 = 1) (s1 : tpz σ 1 5 = 1) (k0 : tpz σ 0 6 ≠ 0) (k1 : tpz σ 1 6 ≠ 0) {q t : Int} {f p0 p1 : Int → Int} (e03 : tpz σ 0 3 = q) (e13 : tpz σ 1 3 = q) (e04 : tpz σ 0 4 = t) (e14 : tpz σ 1 4 = t)
    (cod0 : ∀ s, 0 ≤ s → s < 16 → Cod f (fun _ => 128) (fun _ => 128) 105 t 1 q (tpd σ 0) p0 s) (cod1 : ∀ s, 0 ≤ s → s < 16 → Cod f (tpd σ 0 5) (fun _ => 128) 112 t 1 q (tpd σ 1) p1 s) (b0 : tpd σ 0 5 = smo q t 1 p0) (b1 : tpd σ 1 5 = smo q t 1 p1) (v0 v1 v2 v4 v5 v6 : Value) :
    ∃ h', rn m_L_flatIsGood 189 [v0, v1, v2, .ref 2, v4, v5, v6] [.int (mI 8)] h = some (.inl (some (.int (mI 1))), h') ∧ Fr (fun _ _ => True) 0 0 h h' := by
  -- the first one
  obtain ⟨h1, p', e1, pp1, dec, rc1, md1⟩ := c_send j.1 j.2.1 (by decide) (lost := 0) (wr_id (by decide) (by decide)) (by omega) ⟨by decide, by rw [n9, s0]; decide⟩
  have cv1 : cvS σ 0 = 1 := by
    unfold cvS clnv
    rw [n9, z00]
    exact if_pos ⟨rfl, Or.inl rfl, Or.inl (by decide)⟩
  rw [n9, F1_i z00, F2_i (by rw [z00]; decide), s0, e03] at dec
  rw [cv1, n9, s0, e03, e04] at rc1
  rw [cv1] at e1
  have same0 := dec_same rfl rfl cod0 dec
  have wf1 : WfS (stS σ 1 (smo q t 1 p')) (0 + 1) := WfS_s j.2.1 (by omega) (Or.inr rfl) (smo_pix pp1)
  obtain ⟨⟨m7, m9, m10⟩, ⟨mz, md⟩, msp, mkp, mkc⟩ := stS_f (σ := σ) (cv := 1) (P := smo q t 1 p') (by rw [n9]; exact k0)
  generalize stS σ 1 (smo q t 1 p') = σ1 at *
  -- the second one
  have n91 : tz σ1 9 = 1 := by rw [m9, n9]; rfl
  obtain ⟨h2, p2', e2, pp2, dec2, rc2, md2⟩ := c_send rc1 wf1 (by decide) (lost := 0) (wr_id (by decide) (by decide)) (by omega) ⟨by decide, by rw [n91, mz, s1]; decide⟩
  have cv2 : cvS σ1 0 = 1 := by
    unfold cvS clnv
    rw [n91, mz, z10, z11, mkc]
    exact if_pos ⟨rfl, Or.inr rfl, Or.inl (by decide)⟩
  have z10' : tpz σ1 1 0 = 112 := by rw [mz]; exact z10
  rw [n91, F1_p z10', F2_i (by rw [z10']; decide), mz, md, s1, e13, z11, mkp] at dec2
  rw [cv2, n91, mz, s1, e13, e14] at rc2
  rw [cv2] at e2
  have same1 := dec_same (f1 := tpd σ 0 5) (f2 := fun _ => 128) (hv_congr fun i i0 i1 => by rw [b0]; exact (smo_congr same0 i i0 i1).symm) rfl cod1 dec2
  have wf2 : WfS (stS σ1 1 (smo q t 1 p2')) (0 + 1 + 1) := WfS_s wf1 (by omega) (Or.inr rfl) (smo_pix pp2)
  obtain ⟨⟨r7, r9, r10⟩, ⟨rz, rd⟩, rsp, -, -⟩ := stS_f (σ := σ1) (cv := 1) (P := smo q t 1 p2') (by rw [n91, mz]; exact k1)
  generalize stS σ1 1 (smo q t 1 p2') = σ2 at *
  have n102 : tz σ2 10 = 1 := r10.trans n91
  have e3 := (q_drift rc2 wf2).1 (by omega)
  have d0 : dfs (tsp σ2) (tpd σ2 (tz σ2 10) 5) 256 = 0 := by
    rw [rsp, rd, n102, md, b1]
    exact dfs_same 256 fun i i0 i1 => smo_congr same1 i i0 (by omega)
  rw [d0] at e3
  refine ⟨h2, ?_, Fr_tr (md_fr md1) (md_fr md2) (fun _ _ _ _ => trivial) (fun _ _ _ _ => trivial)⟩
  rw [b_L_flatIsGood_189 (xs0' := 8) (wr_id (by decide) (by decide)), if_neg (fun z => z rfl), A_send j.1.1 e1, cl_v]
  rw [show (if (1 : Int) = 0 then (98 : Int) else 99) = 99 from rfl, b_L_flatIsGood_201 (xs0' := 99) (wr_id (by decide) (by decide)), if_neg (fun z => z rfl), A_send rc1.1 e2, cl_v]
  rw [show (if (1 : Int) = 0 then (98 : Int) else 99) = 99 from rfl, b_L_flatIsGood_213 (xs0' := 99) (wr_id (by decide) (by decide)), if_neg (fun z => z rfl), A_drift rc2.1 e3, cl_v]
  rw [b_L_flatIsGood_225 (xs0' := 0) (wr_id (by decide) (by decide))]
  rfl
theorem abs_le {a b v : Int} (h : v - b ≤ a ∧ a ≤ v + b) : max (a - v) (-(a - v)) ≤ b := by omega
/-- from the first coding on -/
theorem flat_mid (j : CJ σ 0 h D) {v q t : Int} (hv : 0 ≤ v ∧ v ≤ 255) (hq : 1 ≤ q ∧ q ≤ 40) (ht : 0 ≤ t ∧ t ≤ 7) (fl : ∀ i, 0 ≤ i → i < 256 → tc σ i = v) (t0 : tz σ 0 = q) (t1 : tz σ 1 = t) (t2 : tz σ 2 = 1) (t3 : tz σ 3 = 1) (t4 : tz σ 4 = 0) (t7 : tz σ 7 = 0) (t8 : tz σ 8 = 0) (t9 : tz σ 9 = 0) (v4 v5 v6 : Value) :
    ∃ h', rn m_L_flatIsGood 76 [.int (mI v), .int (mI q), .int (mI t), .ref 2, v4, v5, v6] [.int (mI 7)] h = some (.inl (some (.int (mI 1))), h') ∧ Fr (fun _ _ => True) 22 9128 h h' := by
  obtain ⟨pd, p, u, l, er, L0, L1, D1, h1, pp, cod, lb, e1, j1, hD, F1⟩ := CJ_code j (kd := 105) (a := 0) (b := 0) (wr_id (by decide) (by decide)) (wr_id (by decide) (by decide)) (wr_id (by decide) (by decide)) ⟨Or.inl rfl, fun q => absurd rfl q, fun q => absurd q (by decide)⟩ (by omega) t4
  have px : pixels (tc σ) := j.2.1.2.2.1
  have c128 : pixels (fun _ => 128) := px128
  have ec1 : CF1 σ 105 0 = fun _ => 128 := if_pos rfl
  have ec2 : CF2 σ 105 0 = fun _ => 128 := if_neg (by decide)
  rw [ec1, ec2, t0, t1, t2] at cod
  rw [t0, t1, t2] at j1
  have near := flat_near hq hv fl cod (fun s s0 s1 => (Cod_pdW (Or.inl rfl) px pp (fun _ => c128) (fun _ => c128) hq cod ⟨s0, s1⟩).1)
  have nears := smo_in (q := q) (tl := t) (sl := 1) near
  have z6 : zK σ 105 0 0 er L0 L1 6 ≠ 0 := by
    show tz σ 3 ≠ 0
    omega
  have zf : zK σ 105 0 0 er L0 L1 0 = 105 ∧ zK σ 105 0 0 er L0 L1 3 = q ∧ zK σ 105 0 0 er L0 L1 4 = t ∧ zK σ 105 0 0 er L0 L1 5 = 1 := ⟨rfl, t0, t1, t2⟩
  obtain ⟨⟨a0, a1, a2, a3, a4⟩, ⟨a7, a8, a9⟩, ac, ak, ⟨az, ad⟩, ao⟩ := stK_f (σ := σ) (z := zK σ 105 0 0 er L0 L1) (d := dK pd (smo q t 1 p) u l) (bt := tz σ 6) (q := q) z6
  rw [t7] at a7 ak az ad ao
  rw [t8] at a8
  rw [t1] at a1
  rw [t2] at a2
  rw [t3] at a3
  rw [t4] at a4
  rw [t9] at a9
  have a73 : tz (stK σ (zK σ 105 0 0 er L0 L1) (dK pd (smo q t 1 p) u l) (tz σ 6) q) 7 = 1 := a7
  have a83 : tz (stK σ (zK σ 105 0 0 er L0 L1) (dK pd (smo q t 1 p) u l) (tz σ 6) q) 8 = 1 := a8
  rw [← ac] at fl
  generalize zK σ 105 0 0 er L0 L1 = z at *
  generalize stK σ z (dK pd (smo q t 1 p) u l) (tz σ 6) q = σ1 at *
  have cod0 : ∀ s, 0 ≤ s → s < 16 → Cod (tc σ1) (fun _ => 128) (fun _ => 128) 105 t 1 q (tpd σ1 0) p s := fun s s0 s1 => by
    rw [ad, ac]
    exact cod s s0 s1
  have b0 : tpd σ1 0 5 = smo q t 1 p := by rw [ad]; rfl
  obtain ⟨pd2, p2, u2, l2, er2, M0, M1, D2, h2, pp2, cod2, lb2, e2, j2, hD2, F2⟩ := CJ_code j1 (kd := 112) (a := 0) (b := 0) (wr_id (by decide) (by decide)) (wr_id (by decide) (by decide)) (wr_id (by decide) (by decide)) ⟨Or.inr (Or.inl rfl), fun _ => by omega, fun q => absurd q (by decide)⟩ (by omega) a4
  have ed1 : CF1 σ1 112 0 = tpd σ1 0 5 := by
    have : CF1 σ1 112 0 = tpd σ1 (tk σ1 0) 5 := if_neg (by decide)
    rw [this, ak]
  have ed2 : CF2 σ1 112 0 = fun _ => 128 := if_neg (by decide)
  rw [ed1, ed2, a0, a1, a2] at cod2
  rw [a0, a1, a2] at j2
  have p8 := flat_8 (s := 0) hq hv fl (cod2 0 (by decide) (by decide))
  have y6 : zK σ1 112 0 0 er2 M0 M1 6 ≠ 0 := by
    show tz σ1 3 ≠ 0
    omega
  have yf : zK σ1 112 0 0 er2 M0 M1 0 = 112 ∧ zK σ1 112 0 0 er2 M0 M1 1 = 0 ∧ zK σ1 112 0 0 er2 M0 M1 3 = q ∧ zK σ1 112 0 0 er2 M0 M1 4 = t ∧ zK σ1 112 0 0 er2 M0 M1 5 = 1 := ⟨rfl, rfl, a0, a1, a2⟩
  obtain ⟨-, ⟨g7, -, g9⟩, -, -, ⟨gz, gd⟩, go⟩ := stK_f (σ := σ1) (z := zK σ1 112 0 0 er2 M0 M1) (d := dK pd2 (smo q t 1 p2) u2 l2) (bt := tz σ1 6) (q := q) y6
  rw [a73] at g7 gz gd go
  rw [a9] at g9
  generalize zK σ1 112 0 0 er2 M0 M1 = y at *
  generalize stK σ1 y (dK pd2 (smo q t 1 p2) u2 l2) (tz σ1 6) q = σ2 at *
  have go0 := go 0 (by decide)
  obtain ⟨h3, e3, F3⟩ := flat_tail (σ := σ2) (f := tc σ1) (p0 := p) (p1 := p2) (q := q) (t := t) j2 g7 g9 (by rw [go0.1, az]; exact zf.1) (by rw [gz]; exact yf.1) (by rw [gz]; exact yf.2.1) (by rw [go0.1, az]; exact zf.2.2.2) (by rw [gz]; exact yf.2.2.2.2) (by rw [go0.1, az]; exact z6) (by rw [gz]; exact y6) (by rw [go0.1, az]; exact zf.2.1) (by rw [gz]; exact yf.2.2.1) (by rw [go0.1, az]; exact zf.2.2.1) (by rw [gz]; exact yf.2.2.2.1)
    (fun s s0 s1 => by rw [go0.2]; exact cod0 s s0 s1) (fun s s0 s1 => by rw [go0.2, gd]; exact cod2 s s0 s1) (by rw [go0.2]; exact b0) (by rw [gd]; rfl) (.int (mI v)) (.int (mI q)) (.int (mI t)) (am_k1 v4) (am_k1 (.int (mI (q / 4 + 1)))) (.int (mI (8 * (M0 + M1))))
  have e8 : rn m_X11_partAt 0 [.ref 2, .int (mI 1), .int (mI 0), .int (mI 0), am_J] [] h2 = some (.inl (some (.int (mI 8))), h2) := by
    have := q_partAt j2.1 j2.2.1 (i := 1) (x := 0) (y := 0) (wr_id (by decide) (by decide)) (wr_id (by decide) (by decide)) (wr_id (by decide) (by decide)) ⟨by omega, by decide, by decide⟩
    rw [gd] at this
    rw [this]
    have : dK pd2 (smo q t 1 p2) u2 l2 0 (sq 0 0) = 8 := p8
    rw [this]
  refine ⟨h3, ?_, Fr_mono (Fr_tr (U := fun _ _ => True) F1 (Fr_tr (U := fun _ _ => True) F2 F3 (fun _ _ _ _ => trivial) (fun _ _ _ _ => trivial)) (fun _ _ _ _ => trivial) (fun _ _ _ _ => trivial)) (fun _ _ _ q => q) (by omega) (by omega)⟩
  have wq : wr q = q := wr_id (by omega) (by omega)
  rw [b_L_flatIsGood_76 (xs0' := 7) (wr_id (by decide) (by decide)), if_neg (fun z => z rfl), e1, cl_v, b_L_flatIsGood_89 (x1' := q) (xs0' := 8 * (L0 + L1)) wq (wr_id (by omega) (by omega)), if_pos (by omega), tdv (by omega)]
  refine lp (m := m_L_flatIsGood) (pc := 106) (L := fun k (_ : Unit) => [.int (mI v), .int (mI q), .int (mI t), .ref 2, am_k1 v4, .int (mI (q / 4 + 1)), .int (mI k)]) (N := 256) (P := fun r => r = some (.inl (some (.int (mI 1))), h3)) (fun k _ g => 0 ≤ k ∧ g = h1) ?_ ?_ 0 () h1 (by omega) ⟨by omega, rfl⟩
  · rintro k _ g hk ⟨k0, rfl⟩
    refine ⟨(), g, ?_, by omega, rfl⟩
    have nk := nears k k0 hk
    have ps := smo_pix (q := q) (tl := t) (sl := 1) pp k k0 hk
    have eb := q_built j1.1 j1.2.1 (i := 0) (x := k % 16) (y := k / 16) (wr_id (by decide) (by decide)) (wr_id (by omega) (by omega)) (wr_id (by omega) (by omega)) ⟨by omega, by omega, by omega⟩
    rw [b0, show 16 * (k / 16) + k % 16 = k by omega] at eb
    have t2' : Int.tdiv t 2 = t / 2 := tdv ht.1
    have t3' : Int.tmod (t / 2) 2 = t / 2 % 2 := tmd (by omega)
    rw [b_L_flatIsGood_106 (wr_id (by omega) (by omega)), if_neg (by omega), tmd k0, tdv k0, A_built j1.1.1 eb, cl_v, b_L_flatIsGood_131 (x2' := t) (wr_id (by omega) (by omega)), t2', wr_id (z := t / 2) (by omega) (by omega), t3', wr_id (z := t / 2 % 2) (by omega) (by omega), wr_id (z := smo q t 1 p k - v) (by omega) (by omega), if_pos]
    have ab := abs_le nk
    rw [wr_id (z := max (smo q t 1 p k - v) (-(smo q t 1 p k - v))) (by omega) (by omega)]
    by_cases c : ¬ t / 2 % 2 = 1
    · rw [if_pos c, wr_id (by omega) (by omega)]
      omega
    · rw [if_neg c, wr_id (by omega) (by omega)]
      omega
  · rintro _ g ⟨-, rfl⟩
    rw [b_L_flatIsGood_106 (wr_id (z := 256) (by omega) (by omega)), if_pos (by omega), e2, cl_v, b_L_flatIsGood_173 (xs0' := 8 * (M0 + M1)) (wr_id (by omega) (by omega)), if_neg (by omega), A_partAt j2.1.1 e8, cl_v]
    exact e3
/-- the whole of it, on a heap that holds only what comes from outside -/
theorem flat_ok {v q t : Int} (hh : hnx h = 2) (rw0 : RW h) (hv : 0 ≤ v ∧ v ≤ 255) (hq : 1 ≤ q ∧ q ≤ 40) (ht : 0 ≤ t ∧ t ≤ 7) : ∃ h', rn m_L_flatIsGood 0 [.int (mI v), .int (mI q), .int (mI t), am_J, am_J, am_J, am_J] [] h = some (.inl (some (.int (mI 1))), h') ∧ hcl h' ≤ hcl h + 72 ∧ hsl h' ≤ hsl h + 40000 := by
  obtain ⟨h2, e1, n2, F0, mk⟩ := new_ok hh rw0
  have wv : wr v = v := wr_id (by omega) (by omega)
  obtain ⟨⟨gn, gs, g0, g1, g2, g3, g4⟩, Fg⟩ := va5 (h := h2) (x0 := 0) (x1 := 0) (x2 := 16) (x3 := 16) (x4 := v) (wr_id (by decide) (by decide)) (wr_id (by decide) (by decide)) (wr_id (by decide) (by decide)) (wr_id (by decide) (by decide)) wv
  have nv : hnx (v5 h2 0 0 16 16 v) = 52 := by
    unfold v5
    rw [hnx_uZ, hnx_uZ, hnx_uZ, hnx_uZ, hnx_uZ, hnx_aI, n2]
  have j := mk Fg (fun _ _ _ q => q) (by omega)
  obtain ⟨h3, e3, md, z3⟩ := fill_ok j.1 (x := 0) (y := 0) (w := 16) (v := 16) (b := v) ⟨by decide, by decide, hv⟩
  have pT := px_fl j.2.1.2.2.1 (x := 0) (y := 0) (w := 16) (v := 16) (b := v) ⟨by decide, by decide, hv⟩
  have r3 := RC_cv md j.1
  rw [z3] at r3
  have w3 := WfS_cv j.2.1 pT
  have x3 : pixels (gZ h3 15) := by
    rw [md_Z md (by decide)]
    exact j.2.2
  have eN : flN (tc s0) 0 0 16 16 v 256 = if v = 0 then 0 else 256 := flN_all
  have fl3 : ∀ i, 0 ≤ i → i < 256 → flT (tc s0) 0 0 16 16 v 256 i = v := fun i i0 i1 => if_pos ⟨⟨i0, i1⟩, ⟨⟨by omega, by omega⟩, by omega, by omega⟩, i1⟩
  obtain ⟨h4, e4, r4, md4⟩ := (c_setCoarseness r3 (x := q) (wr_id (by omega) (by omega))).1 hq
  have w4 := WfS_0 w3 hq
  obtain ⟨h5, e5, r5, md5⟩ := (c_setTools r4 (x := t) (wr_id (by omega) (by omega))).1 ht
  have w5 := WfS_1 w4 ht
  have n15 : ¬ SC0 15 0 := by unfold SC0; omega
  have j5 : CJ (upz (upz (stc s0 (flT (tc s0) 0 0 16 16 v 256)) 0 q) 1 t) 0 h5 7 := ⟨r5, w5, by
    show pixels (gZ h5 15)
    rw [md_Z md5 n15, md_Z md4 n15]
    exact x3⟩
  obtain ⟨h6, e6, F6⟩ := flat_mid j5 hv hq ht fl3 rfl rfl rfl rfl rfl rfl rfl rfl (.int (mI (if v = 0 then 0 else 256))) am_J am_J
  have ea := A_fill j.1.1 gn gs g0 g1 g2 g3 g4 e3
  rw [n2] at ea
  unfold v5 at ea
  rw [n2, eN] at ea
  have F : Fr (fun _ _ => True) (49 + (1 + (0 + (0 + (0 + 22))))) _ h h6 := Fr_tr F0 (Fr_tr (U := fun _ _ => True) Fg (Fr_tr (U := fun _ _ => True) (md_fr md) (Fr_tr (U := fun _ _ => True) (md_fr md4) (Fr_tr (U := fun _ _ => True) (md_fr md5) F6 (fun _ _ _ _ => trivial) (fun _ _ _ _ => trivial)) (fun _ _ _ _ => trivial) (fun _ _ _ _ => trivial)) (fun _ _ _ _ => trivial) (fun _ _ _ _ => trivial)) (fun _ _ _ _ => trivial) (fun _ _ _ _ => trivial)) (fun _ _ _ _ => trivial) (fun _ _ _ _ => trivial)
  refine ⟨h6, ?_, ?_, ?_⟩
  · rw [b_L_flatIsGood_0, hh, b_L_flatIsGood_3, e1, cl_n, b_L_flatIsGood_7, n2, b_L_flatIsGood_14 (n_as0 := 5) (by rw [← n2]; exact gn_aI _ _ _) (by rw [← n2]; exact sh_aI (by decide)) (by omega) (by omega) (by omega) (by omega) (by omega), ea, cl_v]
    have wN : wr (if v = 0 then (0 : Int) else 256) = if v = 0 then 0 else 256 := by
      split
      · exact wr_id (by decide) (by decide)
      · exact wr_id (by decide) (by decide)
    rw [b_L_flatIsGood_39 wv wN, if_neg (fun z => z (by by_cases q : v = 0 <;> simp [q])), A_setCoarseness r3.1 e4, cl_v]
    have e8 : tz (stc s0 (flT (tc s0) 0 0 16 16 v 256)) 0 = 8 := rfl
    rw [e8, b_L_flatIsGood_64 (xs0' := 8) (wr_id (by decide) (by decide)), if_neg (fun z => z rfl), A_setTools r4.1 e5, cl_v]
    have e7 : tz (upz (stc s0 (flT (tc s0) 0 0 16 16 v 256)) 0 q) 1 = 7 := rfl
    rw [e7]
    exact e6
  · have := F.1.2.1
    omega
  · have := F.1.2.2.1
    omega
end FL
