/-! ===== the model's totals ===== -/
section MT2
variable {σ : St} {h h' : am_H} {D : Nat} {c : Int}
theorem i_X12_heaviest_0 : am_i m_X12_heaviest 0 = some (0, .aload_n 0, 1, [], 0) := rfl
theorem i_X12_heaviest_1 : am_i m_X12_heaviest 1 = some (1, .iload_n 1, 1, [], 0) := rfl
theorem i_X12_heaviest_2 : am_i m_X12_heaviest 2 = some (2, .iconst 0, 1, [], 0) := rfl
theorem i_X12_heaviest_3 : am_i m_X12_heaviest 3 = some (3, .aload_n 0, 1, [], 0) := rfl
theorem i_X12_heaviest_4 : am_i m_X12_heaviest 4 = some (4, .getfield 305, 3, [10, 9, 0], 0) := rfl
theorem i_X12_heaviest_7 : am_i m_X12_heaviest 7 = some (7, .iconst 1, 1, [], 1) := rfl
theorem i_X12_heaviest_8 : am_i m_X12_heaviest 8 = some (8, .isub, 1, [], 0) := rfl
theorem i_X12_heaviest_9 : am_i m_X12_heaviest 9 = some (9, .invokestatic 113, 3, [27], 0) := rfl
theorem i_X12_heaviest_12 : am_i m_X12_heaviest 12 = some (12, .ifCond .eq 7, 3, [], 0) := rfl
theorem i_X12_heaviest_15 : am_i m_X12_heaviest 15 = some (15, .iconst 0, 1, [], 0) := rfl
theorem i_X12_heaviest_16 : am_i m_X12_heaviest 16 = some (16, .goto 4, 3, [], 0) := rfl
theorem i_X12_heaviest_19 : am_i m_X12_heaviest 19 = some (19, .iconst 1, 1, [], 1) := rfl
theorem i_X12_heaviest_20 : am_i m_X12_heaviest 20 = some (20, .putfield 110, 3, [10, 0, 0], 0) := rfl
theorem i_X12_heaviest_23 : am_i m_X12_heaviest 23 = some (23, .iconst 0, 1, [], 0) := rfl
theorem i_X12_heaviest_24 : am_i m_X12_heaviest 24 = some (24, .istore_n 2, 1, [], 0) := rfl
theorem b_X12_heaviest_0 {a0 : Nat} {x1 x1' : Int} {h : am_H} (w1 : wr x1 = x1') (k1 : K10 h a0) : rn m_X12_heaviest 0 [.ref a0, .int (mI x1), am_J, am_J, am_J] [] h = rn m_X12_heaviest 25 [.ref a0, .int (mI x1), .int (mI 0), am_J, am_J] [] (uF 10 h a0 0 (.int (mI (bZ (¬ (¬ (x1' < 0) ∧ (¬ ((wr ((fZ h a0 9) - 1)) < x1')))))))) := by
  refine (tq_aload_n i_X12_heaviest_0 rfl (isA_ref _) rfl).trans ?_
  refine (tq_iload_n i_X12_heaviest_1 rfl rfl).trans ?_
  refine (tq_iconst i_X12_heaviest_2 rfl).trans ?_
  refine (tq_aload_n i_X12_heaviest_3 rfl (isA_ref _) rfl).trans ?_
  refine (tq_getfield i_X12_heaviest_4 (K10_s k1) (g_10_9 (K10_s k1)) (isV_I _) rfl).trans ?_
  refine (tq_iconst i_X12_heaviest_7 rfl).trans ?_
  refine (tq_isub i_X12_heaviest_8 rfl).trans ?_
  refine (c_X12_in i_X12_heaviest_9 (ltd d_X12_heaviest (by decide)) (stOk_1 _) rfl).trans ?_
  refine (congrArg (cl _ _ _ _) (b_X12_in_0 w1 w_0 rfl)).trans ?_
  refine (cl_v _ _ _ _ _ _).trans ?_
  refine (tq_ifb_eq (pt := 19) i_X12_heaviest_12 (by decide) rfl).trans ?_
  refine Eq.trans (b := if (¬ (x1' < 0) ∧ (¬ ((wr ((fZ h a0 9) - 1)) < x1'))) then rn m_X12_heaviest 20 [.ref a0, .int (mI x1), am_J, am_J, am_J] [.int (mI 0), .ref a0] h else rn m_X12_heaviest 20 [.ref a0, .int (mI x1), am_J, am_J, am_J] [.int (mI 1), .ref a0] h) (ite_congr rfl (fun c1 => ?_) (fun c1 => ?_)) ?_
  · refine (tq_iconst i_X12_heaviest_15 rfl).trans ?_
    refine (tq_goto (pc' := 20) i_X12_heaviest_16 (by decide)).trans ?_
    rfl
  · refine (tq_iconst i_X12_heaviest_19 rfl).trans ?_
    rfl
  refine Eq.trans ite_b01 ?_
  refine (tq_putfield i_X12_heaviest_20 (K10_s k1) (okf_10_0 _) rfl).trans ?_
  refine (tq_iconst i_X12_heaviest_23 rfl).trans ?_
  refine (tq_istore_n (L' := [.ref a0, .int (mI x1), .int (mI 0), am_J, am_J]) i_X12_heaviest_24 rfl rfl).trans ?_
  rfl
theorem i_X12_heaviest_25 : am_i m_X12_heaviest 25 = some (25, .iload_n 2, 1, [], 0) := rfl
theorem i_X12_heaviest_26 : am_i m_X12_heaviest 26 = some (26, .aload_n 0, 1, [], 0) := rfl
theorem i_X12_heaviest_27 : am_i m_X12_heaviest 27 = some (27, .getfield 305, 3, [10, 9, 0], 0) := rfl
theorem i_X12_heaviest_30 : am_i m_X12_heaviest 30 = some (30, .if_icmp .ge 89, 3, [], 0) := rfl
theorem i_X12_heaviest_33 : am_i m_X12_heaviest 33 = some (33, .aload_n 0, 1, [], 0) := rfl
theorem i_X12_heaviest_34 : am_i m_X12_heaviest 34 = some (34, .getfield 110, 3, [10, 0, 0], 0) := rfl
theorem i_X12_heaviest_37 : am_i m_X12_heaviest 37 = some (37, .ifCond .ne 82, 3, [], 0) := rfl
theorem i_X12_heaviest_40 : am_i m_X12_heaviest 40 = some (40, .iconst 0, 1, [], 0) := rfl
theorem i_X12_heaviest_41 : am_i m_X12_heaviest 41 = some (41, .istore_n 3, 1, [], 0) := rfl
theorem i_X12_heaviest_42 : am_i m_X12_heaviest 42 = some (42, .iconst 0, 1, [], 0) := rfl
theorem i_X12_heaviest_43 : am_i m_X12_heaviest 43 = some (43, .istore 4, 2, [], 0) := rfl
theorem i_X12_heaviest_119 : am_i m_X12_heaviest 119 = some (119, .iconst 0, 1, [], 0) := rfl
theorem i_X12_heaviest_120 : am_i m_X12_heaviest 120 = some (120, .ireturn, 1, [], 0) := rfl
theorem b_X12_heaviest_25 {a0 : Nat} {x1 x2 x2' : Int} {v3 v4 : Value} {h : am_H} (w2 : wr x2 = x2') (k1 : K10 h a0) : rn m_X12_heaviest 25 [.ref a0, .int (mI x1), .int (mI x2), v3, v4] [] h = if (fZ h a0 9) ≤ x2' then some (.inl (some (.int (mI 0))), h) else if ¬ (fZ h a0 0) = 0 then some (.inl (some (.int (mI 0))), h) else rn m_X12_heaviest 45 [.ref a0, .int (mI x1), .int (mI x2), .int (mI 0), .int (mI 0)] [] h := by
  refine (tq_iload_n i_X12_heaviest_25 rfl rfl).trans ?_
  refine (tq_aload_n i_X12_heaviest_26 rfl (isA_ref _) rfl).trans ?_
  refine (tq_getfield i_X12_heaviest_27 (K10_s k1) (g_10_9 (K10_s k1)) (isV_I _) rfl).trans ?_
  refine (tq_icmp_ge (pt := 119) i_X12_heaviest_30 w2 (wr_fZ _ _ _) (by decide) rfl).trans ?_
  refine ite_congr rfl (fun c1 => ?_) (fun c1 => ?_)
  · refine (tq_iconst i_X12_heaviest_119 rfl).trans ?_
    exact tq_ireturn i_X12_heaviest_120 r_X12_heaviest rfl
  · refine (tq_aload_n i_X12_heaviest_33 rfl (isA_ref _) rfl).trans ?_
    refine (tq_getfield i_X12_heaviest_34 (K10_s k1) (g_10_0 (K10_s k1)) (isV_I _) rfl).trans ?_
    refine (tq_if_ne (pt := 119) i_X12_heaviest_37 (wr_fZ _ _ _) (by decide) rfl).trans ?_
    refine ite_congr rfl (fun c2 => ?_) (fun c2 => ?_)
    · refine (tq_iconst i_X12_heaviest_119 rfl).trans ?_
      exact tq_ireturn i_X12_heaviest_120 r_X12_heaviest rfl
    · refine (tq_iconst i_X12_heaviest_40 rfl).trans ?_
      refine (tq_istore_n (L' := [.ref a0, .int (mI x1), .int (mI x2), .int (mI 0), v4]) i_X12_heaviest_41 rfl rfl).trans ?_
      refine (tq_iconst i_X12_heaviest_42 rfl).trans ?_
      refine (tq_istore (L' := [.ref a0, .int (mI x1), .int (mI x2), .int (mI 0), .int (mI 0)]) i_X12_heaviest_43 rfl rfl).trans ?_
      rfl
theorem i_X12_heaviest_45 : am_i m_X12_heaviest 45 = some (45, .iload 4, 2, [], 0) := rfl
theorem i_X12_heaviest_47 : am_i m_X12_heaviest 47 = some (47, .aload_n 0, 1, [], 0) := rfl
theorem i_X12_heaviest_48 : am_i m_X12_heaviest 48 = some (48, .getfield 305, 3, [10, 9, 0], 0) := rfl
theorem i_X12_heaviest_51 : am_i m_X12_heaviest 51 = some (51, .if_icmp .ge 55, 3, [], 0) := rfl
theorem i_X12_heaviest_54 : am_i m_X12_heaviest 54 = some (54, .iload_n 3, 1, [], 0) := rfl
theorem i_X12_heaviest_55 : am_i m_X12_heaviest 55 = some (55, .aload_n 0, 1, [], 0) := rfl
theorem i_X12_heaviest_56 : am_i m_X12_heaviest 56 = some (56, .getfield 62, 3, [10, 17, 0], 0) := rfl
theorem i_X12_heaviest_59 : am_i m_X12_heaviest 59 = some (59, .iload 4, 2, [], 0) := rfl
theorem i_X12_heaviest_61 : am_i m_X12_heaviest 61 = some (61, .iaload, 1, [], 0) := rfl
theorem i_X12_heaviest_62 : am_i m_X12_heaviest 62 = some (62, .aload_n 0, 1, [], 0) := rfl
theorem i_X12_heaviest_63 : am_i m_X12_heaviest 63 = some (63, .getfield 62, 3, [10, 17, 0], 0) := rfl
theorem i_X12_heaviest_66 : am_i m_X12_heaviest 66 = some (66, .iload_n 2, 1, [], 0) := rfl
theorem i_X12_heaviest_67 : am_i m_X12_heaviest 67 = some (67, .iaload, 1, [], 0) := rfl
theorem i_X12_heaviest_68 : am_i m_X12_heaviest 68 = some (68, .if_icmp .gt 25, 3, [], 0) := rfl
theorem i_X12_heaviest_71 : am_i m_X12_heaviest 71 = some (71, .aload_n 0, 1, [], 0) := rfl
theorem i_X12_heaviest_72 : am_i m_X12_heaviest 72 = some (72, .getfield 62, 3, [10, 17, 0], 0) := rfl
theorem i_X12_heaviest_75 : am_i m_X12_heaviest 75 = some (75, .iload 4, 2, [], 0) := rfl
theorem i_X12_heaviest_77 : am_i m_X12_heaviest 77 = some (77, .iaload, 1, [], 0) := rfl
theorem i_X12_heaviest_78 : am_i m_X12_heaviest 78 = some (78, .aload_n 0, 1, [], 0) := rfl
theorem i_X12_heaviest_79 : am_i m_X12_heaviest 79 = some (79, .getfield 62, 3, [10, 17, 0], 0) := rfl
theorem i_X12_heaviest_82 : am_i m_X12_heaviest 82 = some (82, .iload_n 2, 1, [], 0) := rfl
theorem i_X12_heaviest_83 : am_i m_X12_heaviest 83 = some (83, .iaload, 1, [], 0) := rfl
theorem i_X12_heaviest_84 : am_i m_X12_heaviest 84 = some (84, .if_icmp .ne 13, 3, [], 0) := rfl
theorem i_X12_heaviest_87 : am_i m_X12_heaviest 87 = some (87, .iload 4, 2, [], 0) := rfl
theorem i_X12_heaviest_89 : am_i m_X12_heaviest 89 = some (89, .iload_n 2, 1, [], 0) := rfl
theorem i_X12_heaviest_90 : am_i m_X12_heaviest 90 = some (90, .if_icmp .ge 7, 3, [], 0) := rfl
theorem i_X12_heaviest_93 : am_i m_X12_heaviest 93 = some (93, .iconst 1, 1, [], 1) := rfl
theorem i_X12_heaviest_94 : am_i m_X12_heaviest 94 = some (94, .goto 4, 3, [], 0) := rfl
theorem i_X12_heaviest_97 : am_i m_X12_heaviest 97 = some (97, .iconst 0, 1, [], 0) := rfl
theorem i_X12_heaviest_98 : am_i m_X12_heaviest 98 = some (98, .iadd, 1, [], 0) := rfl
theorem i_X12_heaviest_99 : am_i m_X12_heaviest 99 = some (99, .istore_n 3, 1, [], 0) := rfl
theorem i_X12_heaviest_100 : am_i m_X12_heaviest 100 = some (100, .iinc 4 1, 3, [], 0) := rfl
theorem i_X12_heaviest_103 : am_i m_X12_heaviest 103 = some (103, .goto (-58), 3, [], 0) := rfl
theorem i_X12_heaviest_106 : am_i m_X12_heaviest 106 = some (106, .iload_n 3, 1, [], 0) := rfl
theorem i_X12_heaviest_107 : am_i m_X12_heaviest 107 = some (107, .iload_n 1, 1, [], 0) := rfl
theorem i_X12_heaviest_108 : am_i m_X12_heaviest 108 = some (108, .if_icmp .ne 5, 3, [], 0) := rfl
theorem i_X12_heaviest_111 : am_i m_X12_heaviest 111 = some (111, .iload_n 2, 1, [], 0) := rfl
theorem i_X12_heaviest_112 : am_i m_X12_heaviest 112 = some (112, .ireturn, 1, [], 0) := rfl
theorem i_X12_heaviest_113 : am_i m_X12_heaviest 113 = some (113, .iinc 2 1, 3, [], 0) := rfl
theorem i_X12_heaviest_116 : am_i m_X12_heaviest 116 = some (116, .goto (-91), 3, [], 0) := rfl
theorem b_X12_heaviest_45 {a0 : Nat} {x1 x2 x3 x4 x1' x2' x3' x4' : Int} {h : am_H} (w1 : wr x1 = x1') (w2 : wr x2 = x2') (w3 : wr x3 = x3') (w4 : wr x4 = x4') (k1 : K10 h a0) (g2 : (¬ ((fZ h a0 9) ≤ x4')) → (0 ≤ x4' ∧ x4' < (12 : Int))) (g3 : (¬ ((fZ h a0 9) ≤ x4')) → (0 ≤ x2' ∧ x2' < (12 : Int))) : rn m_X12_heaviest 45 [.ref a0, .int (mI x1), .int (mI x2), .int (mI x3), .int (mI x4)] [] h = if (fZ h a0 9) ≤ x4' then if ¬ x3' = x1' then rn m_X12_heaviest 25 [.ref a0, .int (mI x1), .int (mI (x2 + 1)), .int (mI x3), .int (mI x4)] [] h else some (.inl (some (.int (mI x2))), h) else rn m_X12_heaviest 45 [.ref a0, .int (mI x1), .int (mI x2), .int (mI (x3 + (bZ (((gZ h (a0 + 9) x2') < (gZ h (a0 + 9) x4')) ∨ (¬ (¬ (gZ h (a0 + 9) x4') = (gZ h (a0 + 9) x2')) ∧ (¬ (x2' ≤ x4'))))))), .int (mI (x4 + 1))] [] h := by
  refine (tq_iload i_X12_heaviest_45 rfl rfl).trans ?_
  refine (tq_aload_n i_X12_heaviest_47 rfl (isA_ref _) rfl).trans ?_
  refine (tq_getfield i_X12_heaviest_48 (K10_s k1) (g_10_9 (K10_s k1)) (isV_I _) rfl).trans ?_
  refine (tq_icmp_ge (pt := 106) i_X12_heaviest_51 w4 (wr_fZ _ _ _) (by decide) rfl).trans ?_
  refine ite_congr rfl (fun c1 => ?_) (fun c1 => ?_)
  · refine (tq_iload_n i_X12_heaviest_106 rfl rfl).trans ?_
    refine (tq_iload_n i_X12_heaviest_107 rfl rfl).trans ?_
    refine (tq_icmp_ne (pt := 113) i_X12_heaviest_108 w3 w1 (by decide) rfl).trans ?_
    refine ite_congr rfl (fun c2 => ?_) (fun c2 => ?_)
    · refine (tq_iinc (L' := [.ref a0, .int (mI x1), .int (mI (x2 + 1)), .int (mI x3), .int (mI x4)]) i_X12_heaviest_113 rfl rfl rfl).trans ?_
      refine (tq_goto (pc' := 25) i_X12_heaviest_116 (by decide)).trans ?_
      rfl
    · refine (tq_iload_n i_X12_heaviest_111 rfl rfl).trans ?_
      exact tq_ireturn i_X12_heaviest_112 r_X12_heaviest rfl
  · refine (tq_iload_n i_X12_heaviest_54 rfl rfl).trans ?_
    refine (tq_aload_n i_X12_heaviest_55 rfl (isA_ref _) rfl).trans ?_
    refine (tq_getfield i_X12_heaviest_56 (K10_s k1) (gR (g_10_17 (K10_s k1)) (K10_e17 k1)) (isV_ref _) rfl).trans ?_
    refine (tq_iload i_X12_heaviest_59 rfl rfl).trans ?_
    refine (tq_iaload i_X12_heaviest_61 (K10_s17 k1) (by decide) w4 (g2 c1).1 (lt_gn (K10_n17 k1) (g2 c1).2) rfl).trans ?_
    refine (tq_aload_n i_X12_heaviest_62 rfl (isA_ref _) rfl).trans ?_
    refine (tq_getfield i_X12_heaviest_63 (K10_s k1) (gR (g_10_17 (K10_s k1)) (K10_e17 k1)) (isV_ref _) rfl).trans ?_
    refine (tq_iload_n i_X12_heaviest_66 rfl rfl).trans ?_
    refine (tq_iaload i_X12_heaviest_67 (K10_s17 k1) (by decide) w2 (g3 c1).1 (lt_gn (K10_n17 k1) (g3 c1).2) rfl).trans ?_
    refine (tq_icmp_gt (pt := 93) i_X12_heaviest_68 (wr_gZ _ _ _) (wr_gZ _ _ _) (by decide) rfl).trans ?_
    refine Eq.trans (b := if (gZ h (a0 + 9) x2') < (gZ h (a0 + 9) x4') then rn m_X12_heaviest 98 [.ref a0, .int (mI x1), .int (mI x2), .int (mI x3), .int (mI x4)] [.int (mI 1), .int (mI x3)] h else rn m_X12_heaviest 98 [.ref a0, .int (mI x1), .int (mI x2), .int (mI x3), .int (mI x4)] [.int (mI (bZ (¬ (¬ (gZ h (a0 + 9) x4') = (gZ h (a0 + 9) x2')) ∧ (¬ (x2' ≤ x4'))))), .int (mI x3)] h) (ite_congr rfl (fun c3 => ?_) (fun c3 => ?_)) ?_
    · refine (tq_iconst i_X12_heaviest_93 rfl).trans ?_
      refine (tq_goto (pc' := 98) i_X12_heaviest_94 (by decide)).trans ?_
      rfl
    · refine (tq_aload_n i_X12_heaviest_71 rfl (isA_ref _) rfl).trans ?_
      refine (tq_getfield i_X12_heaviest_72 (K10_s k1) (gR (g_10_17 (K10_s k1)) (K10_e17 k1)) (isV_ref _) rfl).trans ?_
      refine (tq_iload i_X12_heaviest_75 rfl rfl).trans ?_
      refine (tq_iaload i_X12_heaviest_77 (K10_s17 k1) (by decide) w4 (g2 c1).1 (lt_gn (K10_n17 k1) (g2 c1).2) rfl).trans ?_
      refine (tq_aload_n i_X12_heaviest_78 rfl (isA_ref _) rfl).trans ?_
      refine (tq_getfield i_X12_heaviest_79 (K10_s k1) (gR (g_10_17 (K10_s k1)) (K10_e17 k1)) (isV_ref _) rfl).trans ?_
      refine (tq_iload_n i_X12_heaviest_82 rfl rfl).trans ?_
      refine (tq_iaload i_X12_heaviest_83 (K10_s17 k1) (by decide) w2 (g3 c1).1 (lt_gn (K10_n17 k1) (g3 c1).2) rfl).trans ?_
      refine (tq_icmp_ne (pt := 97) i_X12_heaviest_84 (wr_gZ _ _ _) (wr_gZ _ _ _) (by decide) rfl).trans ?_
      refine Eq.trans (b := if ¬ (gZ h (a0 + 9) x4') = (gZ h (a0 + 9) x2') then rn m_X12_heaviest 98 [.ref a0, .int (mI x1), .int (mI x2), .int (mI x3), .int (mI x4)] [.int (mI 0), .int (mI x3)] h else rn m_X12_heaviest 98 [.ref a0, .int (mI x1), .int (mI x2), .int (mI x3), .int (mI x4)] [.int (mI (bZ (¬ (x2' ≤ x4')))), .int (mI x3)] h) (ite_congr rfl (fun c4 => ?_) (fun c4 => ?_)) ?_
      · refine (tq_iconst i_X12_heaviest_97 rfl).trans ?_
        rfl
      · refine (tq_iload i_X12_heaviest_87 rfl rfl).trans ?_
        refine (tq_iload_n i_X12_heaviest_89 rfl rfl).trans ?_
        refine (tq_icmp_ge (pt := 97) i_X12_heaviest_90 w4 w2 (by decide) rfl).trans ?_
        refine Eq.trans (b := if x2' ≤ x4' then rn m_X12_heaviest 98 [.ref a0, .int (mI x1), .int (mI x2), .int (mI x3), .int (mI x4)] [.int (mI 0), .int (mI x3)] h else rn m_X12_heaviest 98 [.ref a0, .int (mI x1), .int (mI x2), .int (mI x3), .int (mI x4)] [.int (mI 1), .int (mI x3)] h) (ite_congr rfl (fun c5 => ?_) (fun c5 => ?_)) ?_
        · refine (tq_iconst i_X12_heaviest_97 rfl).trans ?_
          rfl
        · refine (tq_iconst i_X12_heaviest_93 rfl).trans ?_
          refine (tq_goto (pc' := 98) i_X12_heaviest_94 (by decide)).trans ?_
          rfl
        exact ite_b01
      exact ite_b0p
    refine Eq.trans ite_b1p ?_
    refine (tq_iadd i_X12_heaviest_98 rfl).trans ?_
    refine (tq_istore_n (L' := [.ref a0, .int (mI x1), .int (mI x2), .int (mI (x3 + (bZ (((gZ h (a0 + 9) x2') < (gZ h (a0 + 9) x4')) ∨ (¬ (¬ (gZ h (a0 + 9) x4') = (gZ h (a0 + 9) x2')) ∧ (¬ (x2' ≤ x4'))))))), .int (mI x4)]) i_X12_heaviest_99 rfl rfl).trans ?_
    refine (tq_iinc (L' := [.ref a0, .int (mI x1), .int (mI x2), .int (mI (x3 + (bZ (((gZ h (a0 + 9) x2') < (gZ h (a0 + 9) x4')) ∨ (¬ (¬ (gZ h (a0 + 9) x4') = (gZ h (a0 + 9) x2')) ∧ (¬ (x2' ≤ x4'))))))), .int (mI (x4 + 1))]) i_X12_heaviest_100 rfl rfl rfl).trans ?_
    refine (tq_goto (pc' := 45) i_X12_heaviest_103 (by decide)).trans ?_
    rfl
theorem m_heaviest (rm : RM σ h D) (wf : WfS σ c) {r : Int} (w : wr r = r) : (0 ≤ r ∧ r < tz σ 7 → ∃ v, isHv σ r v ∧ MRs σ h D (rn m_X12_heaviest 0 [.ref 51, .int (mI r), am_J, am_J, am_J] [] h) (.int (mI v)) 0 0 0) ∧ (¬ (0 ≤ r ∧ r < tz σ 7) → MRs σ h D (rn m_X12_heaviest 0 [.ref 51, .int (mI r), am_J, am_J, am_J] [] h) (.int (mI 0)) 1 0 0) := by
  have n := WFn wf
  have en : fZ h 51 9 = tz σ 7 := rm.2.2.2.1.2.2.1
  have st := b_X12_heaviest_0 (a0 := 51) (x1 := r) (h := h) w rm.1
  rw [en, wr_id (z := tz σ 7 - 1) (by omega) (by omega), bZ_congr (q := ¬ (0 ≤ r ∧ r < tz σ 7)) (by omega)] at st
  refine ⟨fun g => ?_, fun g => ?_⟩
  · rw [bZ_f (fun q => q g)] at st
    obtain ⟨t1, t2, t3, tm⟩ := thr_ok (z := 0) rm (wr_id (by decide) (by decide))
    generalize uF 10 h 51 0 (.int (mI 0)) = h1 at *
    have en1 : fZ h1 51 9 = tz σ 7 := t1.2.2.2.1.2.2.1
    have eb : ∀ i, 0 ≤ i → i < tz σ 7 → gZ h1 60 i = bts σ i := fun i i0 i1 => (t1.2.2.2.2.2.1 i i0 i1).1.2.2.2.2.2.2.2.1
    have key : ∀ (m : Nat) (i : Int) (v3 v4 : Value), 0 ≤ i → i + m = tz σ 7 → (∀ p, 0 ≤ p → p < i → ahd σ p ≠ r) → ∃ v, isHv σ r v ∧ rn m_X12_heaviest 25 [.ref 51, .int (mI r), .int (mI i), v3, v4] [] h1 = some (.inl (some (.int (mI v))), h1) := by
      intro m
      induction m with
      | zero =>
        intro i v3 v4 i0 im hp
        have st2 := b_X12_heaviest_25 (a0 := 51) (x1 := r) (v3 := v3) (v4 := v4) (h := h1) (wr_id (z := i) (by omega) (by omega)) t1.1
        rw [en1, if_pos (by omega)] at st2
        exact ⟨0, Or.inr ⟨fun p p0 p1 => hp p p0 (by omega), rfl⟩, st2⟩
      | succ m ih =>
        intro i v3 v4 i0 im hp
        have wi : wr i = i := wr_id (by omega) (by omega)
        have st2 := b_X12_heaviest_25 (a0 := 51) (x1 := r) (v3 := v3) (v4 := v4) (h := h1) wi t1.1
        rw [en1, if_neg (by omega), t2, if_neg (by decide)] at st2
        have in1 := lp (m := m_X12_heaviest) (pc := 45) (L := fun j (x : Int) => [.ref 51, .int (mI r), .int (mI i), .int (mI x), .int (mI j)]) (N := tz σ 7) (P := fun q => q = if ¬ ahd σ i = r then rn m_X12_heaviest 25 [.ref 51, .int (mI r), .int (mI (i + 1)), .int (mI (ahd σ i)), .int (mI (tz σ 7))] [] h1 else some (.inl (some (.int (mI i))), h1)) (fun j x h' => 0 ≤ j ∧ h' = h1 ∧ x = sm j.toNat (fun q => bfr σ q i)) ?_ ?_ 0 0 h1 (by omega) ⟨by omega, rfl, rfl⟩
        · rw [in1] at st2
          by_cases q : ahd σ i = r
          · rw [if_neg (fun g => g q)] at st2
            exact ⟨i, Or.inl ⟨i, ⟨i0, by omega⟩, q, rfl⟩, st2⟩
          · rw [if_pos q] at st2
            obtain ⟨v, v1, v2⟩ := ih (i + 1) (.int (mI (ahd σ i))) (.int (mI (tz σ 7))) (by omega) (by omega) (fun p p0 p1 => by
              by_cases e : p = i
              · rw [e]; exact q
              · exact hp p p0 (by omega))
            exact ⟨v, v1, st2.trans v2⟩
        · intro j x h' hj ⟨j0, e1, ex⟩
          subst e1
          have ab := sm_01 (f := fun q => bfr σ q i) j.toNat (fun q _ _ => bfr_01 σ q i)
          have st3 := b_X12_heaviest_45 (a0 := 51) (x1 := r) (x2 := i) (x3 := x) (h := h') w wi (wr_id (z := x) (by omega) (by omega)) (wr_id (z := j) (by omega) (by omega)) t1.1 (fun _ => ⟨j0, by omega⟩) (fun _ => ⟨i0, by omega⟩)
          simp only [Nat.reduceAdd] at st3
          have e3 : bZ (bts σ i < bts σ j ∨ (¬ (¬ bts σ j = bts σ i) ∧ ¬ i ≤ j)) = bfr σ j i := by
            unfold bfr
            by_cases q : bts σ i < bts σ j ∨ (bts σ j = bts σ i ∧ j < i)
            · rw [if_pos q, bZ_t (by omega)]
            · rw [if_neg q, bZ_f (by omega)]
          rw [en1, if_neg (by omega), eb i i0 (by omega), eb j j0 hj, e3] at st3
          exact ⟨_, h', st3, by omega, rfl, by rw [sm_succ j0, ← ex]⟩
        · intro x h' ⟨j0, e1, ex⟩
          subst e1
          have ab := sm_01 (f := fun q => bfr σ q i) (tz σ 7).toNat (fun q _ _ => bfr_01 σ q i)
          have ex' : x = ahd σ i := ex
          have st3 := b_X12_heaviest_45 (a0 := 51) (x1 := r) (x2 := i) (x3 := x) (x4 := tz σ 7) (h := h') w wi (wr_id (z := x) (by omega) (by omega)) (wr_id (by omega) (by omega)) t1.1 (fun q => absurd (by rw [en1]; omega) q) (fun q => absurd (by rw [en1]; omega) q)
          rw [en1, if_pos (by omega), ex'] at st3
          rw [ex']
          exact st3
    obtain ⟨v, v1, v2⟩ := key (tz σ 7).toNat 0 am_J am_J (by omega) (by omega) (fun p p0 p1 => by omega)
    exact ⟨v, v1, h1, st.trans v2, t1, t2, t3⟩
  · rw [bZ_t g] at st
    obtain ⟨t1, t2, t3, tm⟩ := thr_ok (z := 1) rm (wr_id (by decide) (by decide))
    have en1 : fZ (uF 10 h 51 0 (.int (mI 1))) 51 9 = tz σ 7 := t1.2.2.2.1.2.2.1
    have st2 := b_X12_heaviest_25 (a0 := 51) (x1 := r) (x2 := 0) (v3 := am_J) (v4 := am_J) (h := uF 10 h 51 0 (.int (mI 1))) (wr_id (by decide) (by decide)) t1.1
    rw [en1, t2] at st2
    refine ⟨_, st.trans (st2.trans ?_), t1, t2, t3⟩
    by_cases q : tz σ 7 ≤ 0
    · rw [if_pos q]
    · rw [if_neg q, if_pos (by decide)]
/-! how many parts a mode has: by rows and by squares -/
theorem sm16 (f : Int → Int) : sm 16 f = 0 + f 0 + f 1 + f 2 + f 3 + f 4 + f 5 + f 6 + f 7 + f 8 + f 9 + f 10 + f 11 + f 12 + f 13 + f 14 + f 15 := rfl
theorem sm_rs {f g : Int → Int} (e : ∀ s, 0 ≤ s → s < 16 → g (rs s) = f s) : sm 16 g = sm 16 f := by
  have e0 : g 0 = f 0 := e 0 (by decide) (by decide)
  have e1 : g 1 = f 1 := e 1 (by decide) (by decide)
  have e2 : g 4 = f 2 := e 2 (by decide) (by decide)
  have e3 : g 5 = f 3 := e 3 (by decide) (by decide)
  have e4 : g 2 = f 4 := e 4 (by decide) (by decide)
  have e5 : g 3 = f 5 := e 5 (by decide) (by decide)
  have e6 : g 6 = f 6 := e 6 (by decide) (by decide)
  have e7 : g 7 = f 7 := e 7 (by decide) (by decide)
  have e8 : g 8 = f 8 := e 8 (by decide) (by decide)
  have e9 : g 9 = f 9 := e 9 (by decide) (by decide)
  have e10 : g 12 = f 10 := e 10 (by decide) (by decide)
  have e11 : g 13 = f 11 := e 11 (by decide) (by decide)
  have e12 : g 10 = f 12 := e 12 (by decide) (by decide)
  have e13 : g 11 = f 13 := e 13 (by decide) (by decide)
  have e14 : g 14 = f 14 := e 14 (by decide) (by decide)
  have e15 : g 15 = f 15 := e 15 (by decide) (by decide)
  rw [sm16, sm16]
  omega
theorem rs_ev {s : Int} (hs : 0 ≤ s ∧ s < 16) : ((rs s) % 2 = 0 ∧ (rs s) / 4 % 2 = 0) ↔ s % 4 = 0 := by
  have : s = 0 ∨ s = 1 ∨ s = 2 ∨ s = 3 ∨ s = 4 ∨ s = 5 ∨ s = 6 ∨ s = 7 ∨ s = 8 ∨ s = 9 ∨ s = 10 ∨ s = 11 ∨ s = 12 ∨ s = 13 ∨ s = 14 ∨ s = 15 := by omega
  rcases this with rfl | rfl | rfl | rfl | rfl | rfl | rfl | rfl | rfl | rfl | rfl | rfl | rfl | rfl | rfl | rfl <;> decide
/-- by rows: what stands in the arrays of sizes and modes -/
def pir (h : am_H) (Z O : Nat) (m : Int) : Nat → Int := fun n => sm n (fun k => if (gZ h Z k = 4 ∨ (k % 2 = 0 ∧ k / 4 % 2 = 0)) ∧ gZ h O k = m then 1 else 0)
theorem pir_pim {h : am_H} {Z O : Nat} {d : Nat → Int → Int} (m : Int) (hz : ∀ s, 0 ≤ s → s < 16 → gZ h Z (rs s) = d 0 s) (ho : ∀ s, 0 ≤ s → s < 16 → gZ h O (rs s) = d 1 s) : pir h Z O m 16 = pim d m 16 := by
  unfold pir pim
  refine sm_rs fun s s0 s1 => ?_
  have ev := rs_ev ⟨s0, s1⟩
  simp only [hz s s0 s1, ho s s0 s1]
  by_cases q : (s % 4 = 0 ∨ d 0 s = 4) ∧ d 1 s = m
  · have qq : d 0 s = 4 ∨ (rs s % 2 = 0 ∧ rs s / 4 % 2 = 0) := by
      rcases q.1 with a | a
      · exact Or.inr (ev.mpr a)
      · exact Or.inl a
    rw [if_pos q, if_pos ⟨qq, q.2⟩]
  · rw [if_neg q, if_neg]
    intro w
    refine q ⟨?_, w.2⟩
    rcases w.1 with a | a
    · exact Or.inr a
    · exact Or.inl (ev.mp a)
theorem pir_b (h : am_H) (Z O : Nat) (m : Int) (n : Nat) : 0 ≤ pir h Z O m n ∧ pir h Z O m n ≤ n := sm_01 n fun i _ _ => by split <;> simp
theorem rs_on {k : Int} (hk : 0 ≤ k ∧ k < 16) : ∃ s, (0 ≤ s ∧ s < 16) ∧ rs s = k := by
  have : k = 0 ∨ k = 1 ∨ k = 2 ∨ k = 3 ∨ k = 4 ∨ k = 5 ∨ k = 6 ∨ k = 7 ∨ k = 8 ∨ k = 9 ∨ k = 10 ∨ k = 11 ∨ k = 12 ∨ k = 13 ∨ k = 14 ∨ k = 15 := by omega
  rcases this with rfl | rfl | rfl | rfl | rfl | rfl | rfl | rfl | rfl | rfl | rfl | rfl | rfl | rfl | rfl | rfl
  · exact ⟨0, by decide, by decide⟩
  · exact ⟨1, by decide, by decide⟩
  · exact ⟨4, by decide, by decide⟩
  · exact ⟨5, by decide, by decide⟩
  · exact ⟨2, by decide, by decide⟩
  · exact ⟨3, by decide, by decide⟩
  · exact ⟨6, by decide, by decide⟩
  · exact ⟨7, by decide, by decide⟩
  · exact ⟨8, by decide, by decide⟩
  · exact ⟨9, by decide, by decide⟩
  · exact ⟨12, by decide, by decide⟩
  · exact ⟨13, by decide, by decide⟩
  · exact ⟨10, by decide, by decide⟩
  · exact ⟨11, by decide, by decide⟩
  · exact ⟨14, by decide, by decide⟩
  · exact ⟨15, by decide, by decide⟩
theorem i_X12_commonest_0 : am_i m_X12_commonest 0 = some (0, .aload_n 0, 1, [], 0) := rfl
theorem i_X12_commonest_1 : am_i m_X12_commonest 1 = some (1, .aload_n 0, 1, [], 0) := rfl
theorem i_X12_commonest_2 : am_i m_X12_commonest 2 = some (2, .getfield 305, 3, [10, 9, 0], 0) := rfl
theorem i_X12_commonest_5 : am_i m_X12_commonest 5 = some (5, .ifCond .ne 7, 3, [], 0) := rfl
theorem i_X12_commonest_8 : am_i m_X12_commonest 8 = some (8, .iconst 1, 1, [], 1) := rfl
theorem i_X12_commonest_9 : am_i m_X12_commonest 9 = some (9, .goto 4, 3, [], 0) := rfl
theorem i_X12_commonest_12 : am_i m_X12_commonest 12 = some (12, .iconst 0, 1, [], 0) := rfl
theorem i_X12_commonest_13 : am_i m_X12_commonest 13 = some (13, .putfield 110, 3, [10, 0, 0], 0) := rfl
theorem i_X12_commonest_16 : am_i m_X12_commonest 16 = some (16, .bipush 7, 2, [], 7) := rfl
theorem i_X12_commonest_18 : am_i m_X12_commonest 18 = some (18, .newarray .int, 2, [], 0) := rfl
theorem b_X12_commonest_0 {a0 : Nat} {h : am_H} (k1 : K10 h a0) : rn m_X12_commonest 0 [.ref a0, am_J, am_J, am_J, am_J] [] h = rn m_X12_commonest 20 [.ref a0, am_J, am_J, am_J, am_J] [.ref (hnx (uF 10 h a0 0 (.int (mI (bZ (¬ (¬ (fZ h a0 9) = 0)))))))] (aI 0 7 (uF 10 h a0 0 (.int (mI (bZ (¬ (¬ (fZ h a0 9) = 0))))))) := by
  refine (tq_aload_n i_X12_commonest_0 rfl (isA_ref _) rfl).trans ?_
  refine (tq_aload_n i_X12_commonest_1 rfl (isA_ref _) rfl).trans ?_
  refine (tq_getfield i_X12_commonest_2 (K10_s k1) (g_10_9 (K10_s k1)) (isV_I _) rfl).trans ?_
  refine (tq_if_ne (pt := 12) i_X12_commonest_5 (wr_fZ _ _ _) (by decide) rfl).trans ?_
  refine Eq.trans (b := if ¬ (fZ h a0 9) = 0 then rn m_X12_commonest 13 [.ref a0, am_J, am_J, am_J, am_J] [.int (mI 0), .ref a0] h else rn m_X12_commonest 13 [.ref a0, am_J, am_J, am_J, am_J] [.int (mI 1), .ref a0] h) (ite_congr rfl (fun c1 => ?_) (fun c1 => ?_)) ?_
  · refine (tq_iconst i_X12_commonest_12 rfl).trans ?_
    rfl
  · refine (tq_iconst i_X12_commonest_8 rfl).trans ?_
    refine (tq_goto (pc' := 13) i_X12_commonest_9 (by decide)).trans ?_
    rfl
  refine Eq.trans ite_b01 ?_
  refine (tq_putfield i_X12_commonest_13 (K10_s k1) (okf_10_0 _) rfl).trans ?_
  refine (tq_bipush i_X12_commonest_16 rfl).trans ?_
  exact tq_newI (n := 7) (t := 0) i_X12_commonest_18 w_7 (by decide) rfl (by decide) rfl rfl
theorem i_X12_commonest_20 : am_i m_X12_commonest 20 = some (20, .astore_n 1, 1, [], 0) := rfl
theorem i_X12_commonest_21 : am_i m_X12_commonest 21 = some (21, .iconst 0, 1, [], 0) := rfl
theorem i_X12_commonest_22 : am_i m_X12_commonest 22 = some (22, .istore_n 2, 1, [], 0) := rfl
theorem b_X12_commonest_20 {a0 as0 : Nat} {v1 v2 v3 v4 : Value} {h : am_H} : rn m_X12_commonest 20 [.ref a0, v1, v2, v3, v4] [.ref as0] h = rn m_X12_commonest 23 [.ref a0, .ref as0, .int (mI 0), v3, v4] [] h := by
  refine (tq_astore_n (L' := [.ref a0, .ref as0, v2, v3, v4]) i_X12_commonest_20 (isA_ref _) rfl rfl).trans ?_
  refine (tq_iconst i_X12_commonest_21 rfl).trans ?_
  refine (tq_istore_n (L' := [.ref a0, .ref as0, .int (mI 0), v3, v4]) i_X12_commonest_22 rfl rfl).trans ?_
  rfl
theorem i_X12_commonest_23 : am_i m_X12_commonest 23 = some (23, .iload_n 2, 1, [], 0) := rfl
theorem i_X12_commonest_24 : am_i m_X12_commonest 24 = some (24, .aload_n 0, 1, [], 0) := rfl
theorem i_X12_commonest_25 : am_i m_X12_commonest 25 = some (25, .getfield 305, 3, [10, 9, 0], 0) := rfl
theorem i_X12_commonest_28 : am_i m_X12_commonest 28 = some (28, .if_icmp .ge 79, 3, [], 0) := rfl
theorem i_X12_commonest_31 : am_i m_X12_commonest 31 = some (31, .iconst 0, 1, [], 0) := rfl
theorem i_X12_commonest_32 : am_i m_X12_commonest 32 = some (32, .istore_n 3, 1, [], 0) := rfl
theorem i_X12_commonest_107 : am_i m_X12_commonest 107 = some (107, .iconst 0, 1, [], 0) := rfl
theorem i_X12_commonest_108 : am_i m_X12_commonest 108 = some (108, .istore_n 2, 1, [], 0) := rfl
theorem i_X12_commonest_109 : am_i m_X12_commonest 109 = some (109, .iconst 1, 1, [], 1) := rfl
theorem i_X12_commonest_110 : am_i m_X12_commonest 110 = some (110, .istore_n 3, 1, [], 0) := rfl
theorem b_X12_commonest_23 {a0 a1 : Nat} {x2 x2' : Int} {v3 v4 : Value} {h : am_H} (w2 : wr x2 = x2') (k1 : K10 h a0) : rn m_X12_commonest 23 [.ref a0, .ref a1, .int (mI x2), v3, v4] [] h = if (fZ h a0 9) ≤ x2' then rn m_X12_commonest 111 [.ref a0, .ref a1, .int (mI 0), .int (mI 1), v4] [] h else rn m_X12_commonest 33 [.ref a0, .ref a1, .int (mI x2), .int (mI 0), v4] [] h := by
  refine (tq_iload_n i_X12_commonest_23 rfl rfl).trans ?_
  refine (tq_aload_n i_X12_commonest_24 rfl (isA_ref _) rfl).trans ?_
  refine (tq_getfield i_X12_commonest_25 (K10_s k1) (g_10_9 (K10_s k1)) (isV_I _) rfl).trans ?_
  refine (tq_icmp_ge (pt := 107) i_X12_commonest_28 w2 (wr_fZ _ _ _) (by decide) rfl).trans ?_
  refine ite_congr rfl (fun c1 => ?_) (fun c1 => ?_)
  · refine (tq_iconst i_X12_commonest_107 rfl).trans ?_
    refine (tq_istore_n (L' := [.ref a0, .ref a1, .int (mI 0), v3, v4]) i_X12_commonest_108 rfl rfl).trans ?_
    refine (tq_iconst i_X12_commonest_109 rfl).trans ?_
    refine (tq_istore_n (L' := [.ref a0, .ref a1, .int (mI 0), .int (mI 1), v4]) i_X12_commonest_110 rfl rfl).trans ?_
    rfl
  · refine (tq_iconst i_X12_commonest_31 rfl).trans ?_
    refine (tq_istore_n (L' := [.ref a0, .ref a1, .int (mI x2), .int (mI 0), v4]) i_X12_commonest_32 rfl rfl).trans ?_
    rfl
theorem i_X12_commonest_33 : am_i m_X12_commonest 33 = some (33, .iload_n 3, 1, [], 0) := rfl
theorem i_X12_commonest_34 : am_i m_X12_commonest 34 = some (34, .bipush 16, 2, [], 16) := rfl
theorem i_X12_commonest_36 : am_i m_X12_commonest 36 = some (36, .if_icmp .ge 65, 3, [], 0) := rfl
theorem i_X12_commonest_39 : am_i m_X12_commonest 39 = some (39, .aload_n 0, 1, [], 0) := rfl
theorem i_X12_commonest_40 : am_i m_X12_commonest 40 = some (40, .getfield 80, 3, [10, 22, 0], 0) := rfl
theorem i_X12_commonest_43 : am_i m_X12_commonest 43 = some (43, .iload_n 2, 1, [], 0) := rfl
theorem i_X12_commonest_44 : am_i m_X12_commonest 44 = some (44, .aaload, 1, [], 0) := rfl
theorem i_X12_commonest_45 : am_i m_X12_commonest 45 = some (45, .iload_n 3, 1, [], 0) := rfl
theorem i_X12_commonest_46 : am_i m_X12_commonest 46 = some (46, .iaload, 1, [], 0) := rfl
theorem i_X12_commonest_47 : am_i m_X12_commonest 47 = some (47, .iconst 4, 1, [], 4) := rfl
theorem i_X12_commonest_48 : am_i m_X12_commonest 48 = some (48, .if_icmp .eq 17, 3, [], 0) := rfl
theorem i_X12_commonest_51 : am_i m_X12_commonest 51 = some (51, .iload_n 3, 1, [], 0) := rfl
theorem i_X12_commonest_52 : am_i m_X12_commonest 52 = some (52, .iconst 2, 1, [], 2) := rfl
theorem i_X12_commonest_53 : am_i m_X12_commonest 53 = some (53, .irem, 1, [], 0) := rfl
theorem i_X12_commonest_54 : am_i m_X12_commonest 54 = some (54, .ifCond .ne 15, 3, [], 0) := rfl
theorem i_X12_commonest_57 : am_i m_X12_commonest 57 = some (57, .iload_n 3, 1, [], 0) := rfl
theorem i_X12_commonest_58 : am_i m_X12_commonest 58 = some (58, .iconst 4, 1, [], 4) := rfl
theorem i_X12_commonest_59 : am_i m_X12_commonest 59 = some (59, .idiv, 1, [], 0) := rfl
theorem i_X12_commonest_60 : am_i m_X12_commonest 60 = some (60, .iconst 2, 1, [], 2) := rfl
theorem i_X12_commonest_61 : am_i m_X12_commonest 61 = some (61, .irem, 1, [], 0) := rfl
theorem i_X12_commonest_62 : am_i m_X12_commonest 62 = some (62, .ifCond .ne 7, 3, [], 0) := rfl
theorem i_X12_commonest_65 : am_i m_X12_commonest 65 = some (65, .iconst 1, 1, [], 1) := rfl
theorem i_X12_commonest_66 : am_i m_X12_commonest 66 = some (66, .goto 4, 3, [], 0) := rfl
theorem i_X12_commonest_69 : am_i m_X12_commonest 69 = some (69, .iconst 0, 1, [], 0) := rfl
theorem i_X12_commonest_70 : am_i m_X12_commonest 70 = some (70, .istore 4, 2, [], 0) := rfl
theorem i_X12_commonest_72 : am_i m_X12_commonest 72 = some (72, .aload_n 1, 1, [], 0) := rfl
theorem i_X12_commonest_73 : am_i m_X12_commonest 73 = some (73, .aload_n 0, 1, [], 0) := rfl
theorem i_X12_commonest_74 : am_i m_X12_commonest 74 = some (74, .getfield 83, 3, [10, 23, 0], 0) := rfl
theorem i_X12_commonest_77 : am_i m_X12_commonest 77 = some (77, .iload_n 2, 1, [], 0) := rfl
theorem i_X12_commonest_78 : am_i m_X12_commonest 78 = some (78, .aaload, 1, [], 0) := rfl
theorem i_X12_commonest_79 : am_i m_X12_commonest 79 = some (79, .iload_n 3, 1, [], 0) := rfl
theorem i_X12_commonest_80 : am_i m_X12_commonest 80 = some (80, .iaload, 1, [], 0) := rfl
theorem i_X12_commonest_81 : am_i m_X12_commonest 81 = some (81, .dup2, 1, [], 0) := rfl
theorem i_X12_commonest_82 : am_i m_X12_commonest 82 = some (82, .iaload, 1, [], 0) := rfl
theorem i_X12_commonest_83 : am_i m_X12_commonest 83 = some (83, .iload 4, 2, [], 0) := rfl
theorem i_X12_commonest_85 : am_i m_X12_commonest 85 = some (85, .ifCond .eq 7, 3, [], 0) := rfl
theorem i_X12_commonest_88 : am_i m_X12_commonest 88 = some (88, .iconst 1, 1, [], 1) := rfl
theorem i_X12_commonest_89 : am_i m_X12_commonest 89 = some (89, .goto 4, 3, [], 0) := rfl
theorem i_X12_commonest_92 : am_i m_X12_commonest 92 = some (92, .iconst 0, 1, [], 0) := rfl
theorem i_X12_commonest_93 : am_i m_X12_commonest 93 = some (93, .iadd, 1, [], 0) := rfl
theorem i_X12_commonest_94 : am_i m_X12_commonest 94 = some (94, .iastore, 1, [], 0) := rfl
theorem i_X12_commonest_95 : am_i m_X12_commonest 95 = some (95, .iinc 3 1, 3, [], 0) := rfl
theorem i_X12_commonest_98 : am_i m_X12_commonest 98 = some (98, .goto (-65), 3, [], 0) := rfl
theorem i_X12_commonest_101 : am_i m_X12_commonest 101 = some (101, .iinc 2 1, 3, [], 0) := rfl
theorem i_X12_commonest_104 : am_i m_X12_commonest 104 = some (104, .goto (-81), 3, [], 0) := rfl
theorem b_X12_commonest_33 {a0 a1 b_44 n_b_44 b_78 n_b_78 n_a1 : Nat} {x2 x3 x2' x3' : Int} {v4 : Value} {h : am_H} (w2 : wr x2 = x2') (w3 : wr x3 = x3') (k1 : K10 h a0) (g2 : (¬ (16 ≤ x3')) → (0 ≤ x2' ∧ x2' < (12 : Int))) (e3 : (¬ (16 ≤ x3')) → (gA h (a0 + 14) x2' = some b_44)) (n4 : (¬ (16 ≤ x3')) → (gn h b_44 = n_b_44)) (s5 : (¬ (16 ≤ x3')) → (sh h b_44 = (1, 0))) (g6 : (¬ (16 ≤ x3')) → (0 ≤ x3' ∧ x3' < (n_b_44 : Int))) (e7 : (¬ (16 ≤ x3')) → (gA h (a0 + 15) x2' = some b_78)) (n8 : (¬ (16 ≤ x3')) → (gn h b_78 = n_b_78)) (s9 : (¬ (16 ≤ x3')) → (sh h b_78 = (1, 0))) (g10 : (¬ (16 ≤ x3')) → (0 ≤ x3' ∧ x3' < (n_b_78 : Int))) (n11 : gn h a1 = n_a1) (s12 : sh h a1 = (1, 0)) (g13 : (¬ (16 ≤ x3')) → (0 ≤ gZ h b_78 x3' ∧ gZ h b_78 x3' < (n_a1 : Int))) : rn m_X12_commonest 33 [.ref a0, .ref a1, .int (mI x2), .int (mI x3), v4] [] h = if 16 ≤ x3' then rn m_X12_commonest 23 [.ref a0, .ref a1, .int (mI (x2 + 1)), .int (mI x3), v4] [] h else rn m_X12_commonest 33 [.ref a0, .ref a1, .int (mI x2), .int (mI (x3 + 1)), .int (mI (bZ (((gZ h b_44 x3') = 4) ∨ (¬ (¬ (wr (Int.tmod x3' 2)) = 0) ∧ (¬ (¬ (wr (Int.tmod (wr (Int.tdiv x3' 4)) 2)) = 0))))))] [] (uZ h a1 (gZ h b_78 x3') ((gZ h a1 (gZ h b_78 x3')) + (bZ ((((gZ h b_44 x3') = 4) ∨ (¬ (¬ (wr (Int.tmod x3' 2)) = 0) ∧ (¬ (¬ (wr (Int.tmod (wr (Int.tdiv x3' 4)) 2)) = 0)))))))) := by
  refine (tq_iload_n i_X12_commonest_33 rfl rfl).trans ?_
  refine (tq_bipush i_X12_commonest_34 rfl).trans ?_
  refine (tq_icmp_ge (pt := 101) i_X12_commonest_36 w3 w_16 (by decide) rfl).trans ?_
  refine ite_congr rfl (fun c1 => ?_) (fun c1 => ?_)
  · refine (tq_iinc (L' := [.ref a0, .ref a1, .int (mI (x2 + 1)), .int (mI x3), v4]) i_X12_commonest_101 rfl rfl rfl).trans ?_
    refine (tq_goto (pc' := 23) i_X12_commonest_104 (by decide)).trans ?_
    rfl
  · refine (tq_aload_n i_X12_commonest_39 rfl (isA_ref _) rfl).trans ?_
    refine (tq_getfield i_X12_commonest_40 (K10_s k1) (gR (g_10_22 (K10_s k1)) (K10_e22 k1)) (isV_ref _) rfl).trans ?_
    refine (tq_iload_n i_X12_commonest_43 rfl rfl).trans ?_
    refine (tq_aaload i_X12_commonest_44 (K10_s22 k1) w2 (g2 c1).1 (lt_gn (K10_n22 k1) (g2 c1).2) rfl).trans ?_
    rw [(e3 c1)]
    simp only [am_rv]
    refine (tq_iload_n i_X12_commonest_45 rfl rfl).trans ?_
    refine (tq_iaload i_X12_commonest_46 (s5 c1) (by decide) w3 (g6 c1).1 (lt_gn (n4 c1) (g6 c1).2) rfl).trans ?_
    refine (tq_iconst i_X12_commonest_47 rfl).trans ?_
    refine (tq_icmp_eq (pt := 65) i_X12_commonest_48 (wr_gZ _ _ _) w_4 (by decide) rfl).trans ?_
    refine Eq.trans (b := if (gZ h b_44 x3') = 4 then rn m_X12_commonest 70 [.ref a0, .ref a1, .int (mI x2), .int (mI x3), v4] [.int (mI 1)] h else rn m_X12_commonest 70 [.ref a0, .ref a1, .int (mI x2), .int (mI x3), v4] [.int (mI (bZ (¬ (¬ (wr (Int.tmod x3' 2)) = 0) ∧ (¬ (¬ (wr (Int.tmod (wr (Int.tdiv x3' 4)) 2)) = 0)))))] h) (ite_congr rfl (fun c2 => ?_) (fun c2 => ?_)) ?_
    · refine (tq_iconst i_X12_commonest_65 rfl).trans ?_
      refine (tq_goto (pc' := 70) i_X12_commonest_66 (by decide)).trans ?_
      rfl
    · refine (tq_iload_n i_X12_commonest_51 rfl rfl).trans ?_
      refine (tq_iconst i_X12_commonest_52 rfl).trans ?_
      refine (tq_irem i_X12_commonest_53 w3 w_2 (by decide) rfl).trans ?_
      refine (tq_if_ne (pt := 69) i_X12_commonest_54 rfl (by decide) rfl).trans ?_
      refine Eq.trans (b := if ¬ (wr (Int.tmod x3' 2)) = 0 then rn m_X12_commonest 70 [.ref a0, .ref a1, .int (mI x2), .int (mI x3), v4] [.int (mI 0)] h else rn m_X12_commonest 70 [.ref a0, .ref a1, .int (mI x2), .int (mI x3), v4] [.int (mI (bZ (¬ (¬ (wr (Int.tmod (wr (Int.tdiv x3' 4)) 2)) = 0))))] h) (ite_congr rfl (fun c3 => ?_) (fun c3 => ?_)) ?_
      · refine (tq_iconst i_X12_commonest_69 rfl).trans ?_
        rfl
      · refine (tq_iload_n i_X12_commonest_57 rfl rfl).trans ?_
        refine (tq_iconst i_X12_commonest_58 rfl).trans ?_
        refine (tq_idiv i_X12_commonest_59 w3 w_4 (by decide) rfl).trans ?_
        refine (tq_iconst i_X12_commonest_60 rfl).trans ?_
        refine (tq_irem i_X12_commonest_61 rfl w_2 (by decide) rfl).trans ?_
        refine (tq_if_ne (pt := 69) i_X12_commonest_62 rfl (by decide) rfl).trans ?_
        refine Eq.trans (b := if ¬ (wr (Int.tmod (wr (Int.tdiv x3' 4)) 2)) = 0 then rn m_X12_commonest 70 [.ref a0, .ref a1, .int (mI x2), .int (mI x3), v4] [.int (mI 0)] h else rn m_X12_commonest 70 [.ref a0, .ref a1, .int (mI x2), .int (mI x3), v4] [.int (mI 1)] h) (ite_congr rfl (fun c4 => ?_) (fun c4 => ?_)) ?_
        · refine (tq_iconst i_X12_commonest_69 rfl).trans ?_
          rfl
        · refine (tq_iconst i_X12_commonest_65 rfl).trans ?_
          refine (tq_goto (pc' := 70) i_X12_commonest_66 (by decide)).trans ?_
          rfl
        exact ite_b01
      exact ite_b0p
    refine Eq.trans ite_b1p ?_
    refine (tq_istore (L' := [.ref a0, .ref a1, .int (mI x2), .int (mI x3), .int (mI (bZ (((gZ h b_44 x3') = 4) ∨ (¬ (¬ (wr (Int.tmod x3' 2)) = 0) ∧ (¬ (¬ (wr (Int.tmod (wr (Int.tdiv x3' 4)) 2)) = 0))))))]) i_X12_commonest_70 rfl rfl).trans ?_
    refine (tq_aload_n i_X12_commonest_72 rfl (isA_ref _) rfl).trans ?_
    refine (tq_aload_n i_X12_commonest_73 rfl (isA_ref _) rfl).trans ?_
    refine (tq_getfield i_X12_commonest_74 (K10_s k1) (gR (g_10_23 (K10_s k1)) (K10_e23 k1)) (isV_ref _) rfl).trans ?_
    refine (tq_iload_n i_X12_commonest_77 rfl rfl).trans ?_
    refine (tq_aaload i_X12_commonest_78 (K10_s23 k1) w2 (g2 c1).1 (lt_gn (K10_n23 k1) (g2 c1).2) rfl).trans ?_
    rw [(e7 c1)]
    simp only [am_rv]
    refine (tq_iload_n i_X12_commonest_79 rfl rfl).trans ?_
    refine (tq_iaload i_X12_commonest_80 (s9 c1) (by decide) w3 (g10 c1).1 (lt_gn (n8 c1) (g10 c1).2) rfl).trans ?_
    refine (tq_dup2 i_X12_commonest_81 rfl rfl rfl).trans ?_
    refine (tq_iaload i_X12_commonest_82 s12 (by decide) (wr_gZ _ _ _) (g13 c1).1 (lt_gn n11 (g13 c1).2) rfl).trans ?_
    refine (tq_iload i_X12_commonest_83 rfl rfl).trans ?_
    refine (tq_ifb_eq (pt := 92) i_X12_commonest_85 (by decide) rfl).trans ?_
    refine Eq.trans (b := if (((gZ h b_44 x3') = 4) ∨ (¬ (¬ (wr (Int.tmod x3' 2)) = 0) ∧ (¬ (¬ (wr (Int.tmod (wr (Int.tdiv x3' 4)) 2)) = 0)))) then rn m_X12_commonest 93 [.ref a0, .ref a1, .int (mI x2), .int (mI x3), .int (mI (bZ (((gZ h b_44 x3') = 4) ∨ (¬ (¬ (wr (Int.tmod x3' 2)) = 0) ∧ (¬ (¬ (wr (Int.tmod (wr (Int.tdiv x3' 4)) 2)) = 0))))))] [.int (mI 1), .int (mI (gZ h a1 (gZ h b_78 x3'))), .int (mI (gZ h b_78 x3')), .ref a1] h else rn m_X12_commonest 93 [.ref a0, .ref a1, .int (mI x2), .int (mI x3), .int (mI (bZ (((gZ h b_44 x3') = 4) ∨ (¬ (¬ (wr (Int.tmod x3' 2)) = 0) ∧ (¬ (¬ (wr (Int.tmod (wr (Int.tdiv x3' 4)) 2)) = 0))))))] [.int (mI 0), .int (mI (gZ h a1 (gZ h b_78 x3'))), .int (mI (gZ h b_78 x3')), .ref a1] h) (ite_congr rfl (fun c5 => ?_) (fun c5 => ?_)) ?_
    · refine (tq_iconst i_X12_commonest_88 rfl).trans ?_
      refine (tq_goto (pc' := 93) i_X12_commonest_89 (by decide)).trans ?_
      rfl
    · refine (tq_iconst i_X12_commonest_92 rfl).trans ?_
      rfl
    refine Eq.trans ite_b10 ?_
    refine (tq_iadd i_X12_commonest_93 rfl).trans ?_
    refine (tq_iastore i_X12_commonest_94 s12 (wr_gZ _ _ _) (g13 c1).1 (lt_gn n11 (g13 c1).2) rfl).trans ?_
    refine (tq_iinc (L' := [.ref a0, .ref a1, .int (mI x2), .int (mI (x3 + 1)), .int (mI (bZ (((gZ h b_44 x3') = 4) ∨ (¬ (¬ (wr (Int.tmod x3' 2)) = 0) ∧ (¬ (¬ (wr (Int.tmod (wr (Int.tdiv x3' 4)) 2)) = 0))))))]) i_X12_commonest_95 rfl rfl rfl).trans ?_
    refine (tq_goto (pc' := 33) i_X12_commonest_98 (by decide)).trans ?_
    rfl
theorem i_X12_commonest_111 : am_i m_X12_commonest 111 = some (111, .iload_n 3, 1, [], 0) := rfl
theorem i_X12_commonest_112 : am_i m_X12_commonest 112 = some (112, .bipush 7, 2, [], 7) := rfl
theorem i_X12_commonest_114 : am_i m_X12_commonest 114 = some (114, .if_icmp .ge 24, 3, [], 0) := rfl
theorem i_X12_commonest_117 : am_i m_X12_commonest 117 = some (117, .aload_n 1, 1, [], 0) := rfl
theorem i_X12_commonest_118 : am_i m_X12_commonest 118 = some (118, .iload_n 3, 1, [], 0) := rfl
theorem i_X12_commonest_119 : am_i m_X12_commonest 119 = some (119, .iaload, 1, [], 0) := rfl
theorem i_X12_commonest_120 : am_i m_X12_commonest 120 = some (120, .aload_n 1, 1, [], 0) := rfl
theorem i_X12_commonest_121 : am_i m_X12_commonest 121 = some (121, .iload_n 2, 1, [], 0) := rfl
theorem i_X12_commonest_122 : am_i m_X12_commonest 122 = some (122, .iaload, 1, [], 0) := rfl
theorem i_X12_commonest_123 : am_i m_X12_commonest 123 = some (123, .if_icmp .le 7, 3, [], 0) := rfl
theorem i_X12_commonest_126 : am_i m_X12_commonest 126 = some (126, .iload_n 3, 1, [], 0) := rfl
theorem i_X12_commonest_127 : am_i m_X12_commonest 127 = some (127, .goto 4, 3, [], 0) := rfl
theorem i_X12_commonest_130 : am_i m_X12_commonest 130 = some (130, .iload_n 2, 1, [], 0) := rfl
theorem i_X12_commonest_131 : am_i m_X12_commonest 131 = some (131, .istore_n 2, 1, [], 0) := rfl
theorem i_X12_commonest_132 : am_i m_X12_commonest 132 = some (132, .iinc 3 1, 3, [], 0) := rfl
theorem i_X12_commonest_135 : am_i m_X12_commonest 135 = some (135, .goto (-24), 3, [], 0) := rfl
theorem i_X12_commonest_138 : am_i m_X12_commonest 138 = some (138, .aload_n 0, 1, [], 0) := rfl
theorem i_X12_commonest_139 : am_i m_X12_commonest 139 = some (139, .getfield 110, 3, [10, 0, 0], 0) := rfl
theorem i_X12_commonest_142 : am_i m_X12_commonest 142 = some (142, .ifCond .ne 7, 3, [], 0) := rfl
theorem i_X12_commonest_145 : am_i m_X12_commonest 145 = some (145, .iload_n 2, 1, [], 0) := rfl
theorem i_X12_commonest_146 : am_i m_X12_commonest 146 = some (146, .goto 4, 3, [], 0) := rfl
theorem i_X12_commonest_149 : am_i m_X12_commonest 149 = some (149, .iconst 0, 1, [], 0) := rfl
theorem i_X12_commonest_150 : am_i m_X12_commonest 150 = some (150, .ireturn, 1, [], 0) := rfl
theorem b_X12_commonest_111 {a0 a1 n_a1 : Nat} {x2 x3 x2' x3' : Int} {v4 : Value} {h : am_H} (w2 : wr x2 = x2') (w3 : wr x3 = x3') (k1 : K10 h a0) (n2 : gn h a1 = n_a1) (s3 : sh h a1 = (1, 0)) (g4 : (¬ (7 ≤ x3')) → (0 ≤ x3' ∧ x3' < (n_a1 : Int))) (g5 : (¬ (7 ≤ x3')) → (0 ≤ x2' ∧ x2' < (n_a1 : Int))) : rn m_X12_commonest 111 [.ref a0, .ref a1, .int (mI x2), .int (mI x3), v4] [] h = if 7 ≤ x3' then some (.inl (some (.int (mI (if ¬ (fZ h a0 0) = 0 then (0 : Int) else x2)))), h) else rn m_X12_commonest 111 [.ref a0, .ref a1, .int (mI (if (gZ h a1 x3') ≤ (gZ h a1 x2') then (x2 : Int) else x3)), .int (mI (x3 + 1)), v4] [] h := by
  refine (tq_iload_n i_X12_commonest_111 rfl rfl).trans ?_
  refine (tq_bipush i_X12_commonest_112 rfl).trans ?_
  refine (tq_icmp_ge (pt := 138) i_X12_commonest_114 w3 w_7 (by decide) rfl).trans ?_
  refine ite_congr rfl (fun c1 => ?_) (fun c1 => ?_)
  · refine (tq_aload_n i_X12_commonest_138 rfl (isA_ref _) rfl).trans ?_
    refine (tq_getfield i_X12_commonest_139 (K10_s k1) (g_10_0 (K10_s k1)) (isV_I _) rfl).trans ?_
    refine (tq_if_ne (pt := 149) i_X12_commonest_142 (wr_fZ _ _ _) (by decide) rfl).trans ?_
    refine Eq.trans (b := if ¬ (fZ h a0 0) = 0 then rn m_X12_commonest 150 [.ref a0, .ref a1, .int (mI x2), .int (mI x3), v4] [.int (mI 0)] h else rn m_X12_commonest 150 [.ref a0, .ref a1, .int (mI x2), .int (mI x3), v4] [.int (mI x2)] h) (ite_congr rfl (fun c2 => ?_) (fun c2 => ?_)) ?_
    · refine (tq_iconst i_X12_commonest_149 rfl).trans ?_
      rfl
    · refine (tq_iload_n i_X12_commonest_145 rfl rfl).trans ?_
      refine (tq_goto (pc' := 150) i_X12_commonest_146 (by decide)).trans ?_
      rfl
    refine Eq.trans ite_I ?_
    exact tq_ireturn i_X12_commonest_150 r_X12_commonest rfl
  · refine (tq_aload_n i_X12_commonest_117 rfl (isA_ref _) rfl).trans ?_
    refine (tq_iload_n i_X12_commonest_118 rfl rfl).trans ?_
    refine (tq_iaload i_X12_commonest_119 s3 (by decide) w3 (g4 c1).1 (lt_gn n2 (g4 c1).2) rfl).trans ?_
    refine (tq_aload_n i_X12_commonest_120 rfl (isA_ref _) rfl).trans ?_
    refine (tq_iload_n i_X12_commonest_121 rfl rfl).trans ?_
    refine (tq_iaload i_X12_commonest_122 s3 (by decide) w2 (g5 c1).1 (lt_gn n2 (g5 c1).2) rfl).trans ?_
    refine (tq_icmp_le (pt := 130) i_X12_commonest_123 (wr_gZ _ _ _) (wr_gZ _ _ _) (by decide) rfl).trans ?_
    refine Eq.trans (b := if (gZ h a1 x3') ≤ (gZ h a1 x2') then rn m_X12_commonest 131 [.ref a0, .ref a1, .int (mI x2), .int (mI x3), v4] [.int (mI x2)] h else rn m_X12_commonest 131 [.ref a0, .ref a1, .int (mI x2), .int (mI x3), v4] [.int (mI x3)] h) (ite_congr rfl (fun c3 => ?_) (fun c3 => ?_)) ?_
    · refine (tq_iload_n i_X12_commonest_130 rfl rfl).trans ?_
      rfl
    · refine (tq_iload_n i_X12_commonest_126 rfl rfl).trans ?_
      refine (tq_goto (pc' := 131) i_X12_commonest_127 (by decide)).trans ?_
      rfl
    refine Eq.trans ite_I ?_
    refine (tq_istore_n (L' := [.ref a0, .ref a1, .int (mI (if (gZ h a1 x3') ≤ (gZ h a1 x2') then (x2 : Int) else x3)), .int (mI x3), v4]) i_X12_commonest_131 rfl rfl).trans ?_
    refine (tq_iinc (L' := [.ref a0, .ref a1, .int (mI (if (gZ h a1 x3') ≤ (gZ h a1 x2') then (x2 : Int) else x3)), .int (mI (x3 + 1)), v4]) i_X12_commonest_132 rfl rfl rfl).trans ?_
    refine (tq_goto (pc' := 111) i_X12_commonest_135 (by decide)).trans ?_
    rfl
theorem m_commonest (rm : RM σ h D) (wf : WfS σ c) : (tz σ 7 ≠ 0 → MRs σ h D (rn m_X12_commonest 0 [.ref 51, am_J, am_J, am_J, am_J] [] h) (.int (mI (fgr (fun m => tpm σ m (tz σ 7).toNat) 7))) 0 1 7) ∧ (tz σ 7 = 0 → MRs σ h D (rn m_X12_commonest 0 [.ref 51, am_J, am_J, am_J, am_J] [] h) (.int (mI 0)) 1 1 7) := by
  have n := WFn wf
  have en : fZ h 51 9 = tz σ 7 := rm.2.2.2.1.2.2.1
  have st := b_X12_commonest_0 (a0 := 51) (h := h) rm.1
  rw [en, bZ_congr (q := tz σ 7 = 0) (by omega)] at st
  obtain ⟨t1, t2, t3, tm⟩ := thr_ok (z := bZ (tz σ 7 = 0)) rm (wr_bZ _)
  generalize uF 10 h 51 0 (.int (mI (bZ (tz σ 7 = 0)))) = h1 at *
  have al := t1.2.1
  have frA : Fr (fun _ _ => False) 1 7 h1 (aI 0 7 h1) := Fr_alc _ _ _
  have sA : sh (aI 0 7 h1) (hnx h1) = (1, 0) := sh_aI (by decide)
  have nA : gn (aI 0 7 h1) (hnx h1) = 7 := gn_aI _ _ _
  have zA : ∀ j, gZ (aI 0 7 h1) (hnx h1) j = 0 := fun j => gZ_aI _ _ _ _
  have tA : RM σ (aI 0 7 h1) D := RM_own frA (fun _ _ q => q.elim) t1
  have thA : fZ (aI 0 7 h1) 51 0 = bZ (tz σ 7 = 0) := (frA.1.fZ1 (by omega) (fun q => q)).trans t2
  have nxA : hnx (aI 0 7 h1) = hnx h1 + 1 := hnx_aI _ _ _
  have fin : ∀ h', Md (fun c _ => c = hnx h1) (aI 0 7 h1) h' → Fr (fun _ _ => False) 1 7 h1 h' := fun h' m => fr_new m
  generalize hnx h1 = A at *
  generalize aI 0 7 h1 = hA at *
  have enA : fZ hA 51 9 = tz σ 7 := tA.2.2.2.1.2.2.1
  have main : ∃ h', rn m_X12_commonest 20 [.ref 51, am_J, am_J, am_J, am_J] [.ref A] hA = some (.inl (some (.int (mI (if ¬ bZ (tz σ 7 = 0) = 0 then 0 else fgr (fun m => tpm σ m (tz σ 7).toNat) 7)))), h') ∧ Md (fun c _ => c = A) hA h' := by
    rw [b_X12_commonest_20]
    refine lp (m := m_X12_commonest) (pc := 23) (L := fun i (x : Value × Value) => [.ref 51, .ref A, .int (mI i), x.1, x.2]) (N := tz σ 7) (P := fun q => ∃ h', q = some (.inl (some (.int (mI (if ¬ bZ (tz σ 7 = 0) = 0 then 0 else fgr (fun m => tpm σ m (tz σ 7).toNat) 7)))), h') ∧ Md (fun c _ => c = A) hA h') (fun i _ h' => 0 ≤ i ∧ Md (fun c _ => c = A) hA h' ∧ ∀ m, 0 ≤ m → m < 7 → gZ h' A m = tpm σ m i.toNat) ?_ ?_ 0 (am_J, am_J) hA (by omega) ⟨by omega, Md_rf _ _, fun m _ _ => zA m⟩
    · intro i x h' hi ⟨i0, md, hh⟩
      have k2 := K10_sm md.1 tA.1
      have wi : wr i = i := wr_id (by omega) (by omega)
      have en2 : fZ h' 51 9 = tz σ 7 := (md_fZ md (by omega)).trans enA
      have st2 := b_X12_commonest_23 (a0 := 51) (a1 := A) (v3 := x.1) (v4 := x.2) (h := h') wi k2
      rw [en2, if_neg (by omega)] at st2
      obtain ⟨-, ⟨Z, z1, z2, z3, z4⟩, ⟨O, o1, o2, o3, o4⟩, -⟩ := (tA.2.2.2.2.2.1 i i0 hi).2.2.1
      have pw := wf.2.2.2.1 i i0 hi
      have mO : ∀ k, 0 ≤ k → k < 16 → 0 ≤ gZ hA O k ∧ gZ hA O k < 7 := fun k k0 k1 => by
        obtain ⟨s, s1, s2⟩ := rs_on ⟨k0, k1⟩
        have pW := pw.2.2.2.2.2.2.2.2.2.2.2.1 s s1.1 s1.2
        rw [← s2, o4 s s1.1 s1.2]
        have := pW.2.2.2.1
        have := (nmo_b pw.1).1
        omega
      have zA' : Z ≠ A := fun e => by rw [e, nA] at z3; exact absurd z3.2 (by decide)
      have oA' : O ≠ A := fun e => by rw [e, nA] at o3; exact absurd o3.2 (by decide)
      have in1 := lp (m := m_X12_commonest) (pc := 33) (L := fun j (v : Value) => [.ref 51, .ref A, .int (mI i), .int (mI j), v]) (N := 16) (P := fun q => ∃ (v : Value) (h2 : am_H), q = rn m_X12_commonest 23 [.ref 51, .ref A, .int (mI (i + 1)), .int (mI 16), v] [] h2 ∧ Md (fun c _ => c = A) hA h2 ∧ ∀ m, 0 ≤ m → m < 7 → gZ h2 A m = tpm σ m i.toNat + pir hA Z O m 16) (fun j _ h2 => 0 ≤ j ∧ Md (fun c _ => c = A) hA h2 ∧ ∀ m, 0 ≤ m → m < 7 → gZ h2 A m = tpm σ m i.toNat + pir hA Z O m j.toNat) ?_ ?_ 0 x.2 h' (by omega) ⟨by omega, md, fun m m0 m1 => by rw [hh m m0 m1]; show _ = _ + 0; omega⟩
      · obtain ⟨v, h2, e2, md2, hh2⟩ := in1
        refine ⟨(.int (mI 16), v), h2, st2.trans e2, by omega, md2, fun m m0 m1 => ?_⟩
        rw [hh2 m m0 m1, pir_pim m z4 o4]
        show _ = sm (i + 1).toNat _
        rw [sm_succ i0]
        rfl
      · intro j v h2 hj ⟨j0, md2, hh2⟩
        have k3 := K10_sm md2.1 tA.1
        have gOj : gZ h2 O j = gZ hA O j := md_gZ md2 oA' j
        have gZj : gZ h2 Z j = gZ hA Z j := md_gZ md2 zA' j
        have bO := mO j j0 hj
        have st3 := b_X12_commonest_33 (a0 := 51) (a1 := A) (b_44 := Z) (n_b_44 := 16) (b_78 := O) (n_b_78 := 16) (n_a1 := 7) (x2 := i) (v4 := v) (h := h2) wi (wr_id (z := j) (by omega) (by omega)) k3 (fun _ => ⟨i0, by omega⟩) (fun _ => by rw [md_gA md2 (by omega)]; exact z1) (fun _ => (md_gn md2 _).trans z3.2) (fun _ => (md_sh md2 _).trans z3.1) (fun _ => ⟨j0, hj⟩) (fun _ => by rw [md_gA md2 (by omega)]; exact o1) (fun _ => (md_gn md2 _).trans o3.2) (fun _ => (md_sh md2 _).trans o3.1) (fun _ => ⟨j0, hj⟩) ((md_gn md2 _).trans nA) ((md_sh md2 _).trans sA) (fun _ => by rw [gOj]; exact bO)
        have ev : bZ ((gZ hA Z j = 4) ∨ (¬ (¬ (wr (Int.tmod j 2)) = 0) ∧ (¬ (¬ (wr (Int.tmod (wr (Int.tdiv j 4)) 2)) = 0)))) = bZ (gZ hA Z j = 4 ∨ (j % 2 = 0 ∧ j / 4 % 2 = 0)) := by
          rw [tmd j0, tdv j0, wr_id (z := j / 4) (by omega) (by omega), tmd (by omega), wr_id (z := j % 2) (by omega) (by omega), wr_id (z := j / 4 % 2) (by omega) (by omega)]
          exact bZ_congr (by omega)
        rw [if_neg (by omega), gOj, gZj, ev, hh2 _ bO.1 bO.2] at st3
        refine ⟨_, _, st3, by omega, Md_tr md2 (Md_uZ _ _ _ _), fun m m0 m1 => ?_⟩
        rw [gZ_uZ' (sh1 ((md_sh md2 _).trans sA))]
        have sx : pir hA Z O m (j + 1).toNat = pir hA Z O m j.toNat + (if (gZ hA Z j = 4 ∨ (j % 2 = 0 ∧ j / 4 % 2 = 0)) ∧ gZ hA O j = m then 1 else 0) := by unfold pir; rw [sm_succ j0]
        have b1 := tpm_b σ m i.toNat
        have b2 := pir_b hA Z O m j.toNat
        by_cases e : m = gZ hA O j
        · subst e
          rw [if_pos rfl, sx]
          by_cases q : gZ hA Z j = 4 ∨ (j % 2 = 0 ∧ j / 4 % 2 = 0)
          · rw [bZ_t q, if_pos ⟨q, rfl⟩, wr_id (by omega) (by omega)]
            omega
          · rw [bZ_f q, if_neg (fun w => q w.1), wr_id (by omega) (by omega)]
            omega
        · rw [if_neg e, sx, if_neg (fun w => e w.2.symm), Int.add_zero]
          exact hh2 m m0 m1
      · intro v h2 ⟨j0, md2, hh2⟩
        have k3 := K10_sm md2.1 tA.1
        have st3 := b_X12_commonest_33 (a0 := 51) (a1 := A) (b_44 := 0) (n_b_44 := 16) (b_78 := 0) (n_b_78 := 16) (n_a1 := 7) (x2 := i) (x3 := 16) (v4 := v) (h := h2) wi (wr_id (by decide) (by decide)) k3 (fun q => absurd (by decide) q) (fun q => absurd (by decide) q) (fun q => absurd (by decide) q) (fun q => absurd (by decide) q) (fun q => absurd (by decide) q) (fun q => absurd (by decide) q) (fun q => absurd (by decide) q) (fun q => absurd (by decide) q) (fun q => absurd (by decide) q) ((md_gn md2 _).trans nA) ((md_sh md2 _).trans sA) (fun q => absurd (by decide) q)
        rw [if_pos (by decide)] at st3
        exact ⟨v, h2, st3, md2, hh2⟩
    · intro x h' ⟨i0, md, hh⟩
      have k2 := K10_sm md.1 tA.1
      have en2 : fZ h' 51 9 = tz σ 7 := (md_fZ md (by omega)).trans enA
      have th2 : fZ h' 51 0 = bZ (tz σ 7 = 0) := (md_fZ md (by omega)).trans thA
      have st2 := b_X12_commonest_23 (a0 := 51) (a1 := A) (x2 := tz σ 7) (v3 := x.1) (v4 := x.2) (h := h') (wr_id (by omega) (by omega)) k2
      rw [en2, if_pos (by omega)] at st2
      have fb := fun k => fgr_b (fun m => tpm σ m (tz σ 7).toNat) k
      have in1 := lp (m := m_X12_commonest) (pc := 111) (L := fun j (y : Int) => [.ref 51, .ref A, .int (mI y), .int (mI j), x.2]) (N := 7) (P := fun q => q = some (.inl (some (.int (mI (if ¬ bZ (tz σ 7 = 0) = 0 then 0 else fgr (fun m => tpm σ m (tz σ 7).toNat) 7)))), h')) (fun j y h2 => 1 ≤ j ∧ h2 = h' ∧ y = fgr (fun m => tpm σ m (tz σ 7).toNat) j.toNat) ?_ ?_ 1 0 h' (by omega) ⟨by omega, rfl, ?_⟩
      · exact ⟨h', st2.trans in1, md⟩
      · intro j y h2 hj ⟨j0, e2, ey⟩
        subst e2
        have fj := fb j.toNat
        have st3 := b_X12_commonest_111 (a0 := 51) (a1 := A) (n_a1 := 7) (x2 := y) (v4 := x.2) (h := h2) (wr_id (z := y) (by omega) (by omega)) (wr_id (z := j) (by omega) (by omega)) k2 ((md_gn md _).trans nA) ((md_sh md _).trans sA) (fun _ => by omega) (fun _ => by omega)
        rw [if_neg (by omega), hh j (by omega) hj, hh y (by omega) (by omega)] at st3
        refine ⟨_, h2, st3, by omega, rfl, ?_⟩
        rw [show (j + 1).toNat = j.toNat + 1 by omega]
        unfold fgr
        rw [← ey, show ((j.toNat : Nat) : Int) = j by omega]
        by_cases q : tpm σ j (tz σ 7).toNat ≤ tpm σ y (tz σ 7).toNat
        · rw [if_pos q, if_neg (by omega)]
        · rw [if_neg q, if_pos (by omega)]
      · intro y h2 ⟨j0, e2, ey⟩
        subst e2
        have fj := fb 7
        have ey' : y = fgr (fun m => tpm σ m (tz σ 7).toNat) 7 := ey
        have st3 := b_X12_commonest_111 (a0 := 51) (a1 := A) (n_a1 := 7) (x2 := y) (x3 := 7) (v4 := x.2) (h := h2) (wr_id (z := y) (by omega) (by omega)) (wr_id (by decide) (by decide)) k2 ((md_gn md _).trans nA) ((md_sh md _).trans sA) (fun q => absurd (by decide) q) (fun q => absurd (by decide) q)
        rw [if_pos (by decide), th2] at st3
        rw [← ey']
        exact st3
      · show (0 : Int) = fgr _ 1
        unfold fgr
        split <;> rfl
  obtain ⟨h', e, md⟩ := main
  have F := fin h' md
  have rm' : RM σ h' D := RM_own F (fun _ _ q => q.elim) t1
  have th' : fZ h' 51 0 = bZ (tz σ 7 = 0) := (md_fZ md (by omega)).trans thA
  have frr : Fr SMl2 1 7 h h' := Fr_mono (Fr_tr (U := SMl2) t3 F (fun _ _ _ q => q) (fun _ _ _ q => q.elim)) (fun _ _ _ q => q) (by omega) (by omega)
  refine ⟨fun g => ?_, fun g => ?_⟩
  · rw [bZ_f g] at e th'
    rw [if_neg (by decide)] at e
    exact ⟨h', st.trans e, rm', th', frr⟩
  · rw [bZ_t g] at e th'
    rw [if_pos (by decide)] at e
    exact ⟨h', st.trans e, rm', th', frr⟩
end MT2
