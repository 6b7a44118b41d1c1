/-! ===== the model codes a picture; its smoothing ===== -/
theorem i_X12_codesParts_0 : am_i m_X12_codesParts 0 = some (0, .bipush 16, 2, [], 16) := rfl
theorem i_X12_codesParts_2 : am_i m_X12_codesParts 2 = some (2, .newarray .int, 2, [], 0) := rfl
theorem b_X12_codesParts_0 {a0 : Nat} {h : am_H} : rn m_X12_codesParts 0 [.ref a0, am_J, am_J, am_J, am_J, am_J, am_J] [] h = rn m_X12_codesParts 4 [.ref a0, am_J, am_J, am_J, am_J, am_J, am_J] [.ref (hnx h)] (aI 0 16 h) := by
  refine (tq_bipush i_X12_codesParts_0 rfl).trans ?_
  exact tq_newI (n := 16) (t := 0) i_X12_codesParts_2 w_16 (by decide) rfl (by decide) rfl rfl
theorem i_X12_codesParts_4 : am_i m_X12_codesParts 4 = some (4, .astore_n 1, 1, [], 0) := rfl
theorem i_X12_codesParts_5 : am_i m_X12_codesParts 5 = some (5, .iconst 0, 1, [], 0) := rfl
theorem i_X12_codesParts_6 : am_i m_X12_codesParts 6 = some (6, .istore_n 2, 1, [], 0) := rfl
theorem b_X12_codesParts_4 {a0 as0 : Nat} {v1 v2 v3 v4 v5 v6 : Value} {h : am_H} : rn m_X12_codesParts 4 [.ref a0, v1, v2, v3, v4, v5, v6] [.ref as0] h = rn m_X12_codesParts 7 [.ref a0, .ref as0, .int (mI 0), v3, v4, v5, v6] [] h := by
  refine (tq_astore_n (L' := [.ref a0, .ref as0, v2, v3, v4, v5, v6]) i_X12_codesParts_4 (isA_ref _) rfl rfl).trans ?_
  refine (tq_iconst i_X12_codesParts_5 rfl).trans ?_
  refine (tq_istore_n (L' := [.ref a0, .ref as0, .int (mI 0), v3, v4, v5, v6]) i_X12_codesParts_6 rfl rfl).trans ?_
  rfl
theorem i_X12_codesParts_7 : am_i m_X12_codesParts 7 = some (7, .iload_n 2, 1, [], 0) := rfl
theorem i_X12_codesParts_8 : am_i m_X12_codesParts 8 = some (8, .iconst 4, 1, [], 4) := rfl
theorem i_X12_codesParts_9 : am_i m_X12_codesParts 9 = some (9, .if_icmp .ge 130, 3, [], 0) := rfl
theorem i_X12_codesParts_12 : am_i m_X12_codesParts 12 = some (12, .iload_n 2, 1, [], 0) := rfl
theorem i_X12_codesParts_13 : am_i m_X12_codesParts 13 = some (13, .iconst 2, 1, [], 2) := rfl
theorem i_X12_codesParts_14 : am_i m_X12_codesParts 14 = some (14, .irem, 1, [], 0) := rfl
theorem i_X12_codesParts_15 : am_i m_X12_codesParts 15 = some (15, .bipush 8, 2, [], 8) := rfl
theorem i_X12_codesParts_17 : am_i m_X12_codesParts 17 = some (17, .imul, 1, [], 0) := rfl
theorem i_X12_codesParts_18 : am_i m_X12_codesParts 18 = some (18, .istore_n 3, 1, [], 0) := rfl
theorem i_X12_codesParts_19 : am_i m_X12_codesParts 19 = some (19, .iload_n 2, 1, [], 0) := rfl
theorem i_X12_codesParts_20 : am_i m_X12_codesParts 20 = some (20, .iconst 2, 1, [], 2) := rfl
theorem i_X12_codesParts_21 : am_i m_X12_codesParts 21 = some (21, .idiv, 1, [], 0) := rfl
theorem i_X12_codesParts_22 : am_i m_X12_codesParts 22 = some (22, .bipush 8, 2, [], 8) := rfl
theorem i_X12_codesParts_24 : am_i m_X12_codesParts 24 = some (24, .imul, 1, [], 0) := rfl
theorem i_X12_codesParts_25 : am_i m_X12_codesParts 25 = some (25, .istore 4, 2, [], 0) := rfl
theorem i_X12_codesParts_27 : am_i m_X12_codesParts 27 = some (27, .aload_n 0, 1, [], 0) := rfl
theorem i_X12_codesParts_28 : am_i m_X12_codesParts 28 = some (28, .iload_n 3, 1, [], 0) := rfl
theorem i_X12_codesParts_29 : am_i m_X12_codesParts 29 = some (29, .iload 4, 2, [], 0) := rfl
theorem i_X12_codesParts_31 : am_i m_X12_codesParts 31 = some (31, .invokevirtual 293, 3, [81, 10], 0) := rfl
theorem i_X12_codesParts_139 : am_i m_X12_codesParts 139 = some (139, .aload_n 1, 1, [], 0) := rfl
theorem i_X12_codesParts_140 : am_i m_X12_codesParts 140 = some (140, .areturn, 1, [], 0) := rfl
theorem b_X12_codesParts_7 {a0 a1 : Nat} {x2 x2' : Int} {v3 v4 v5 v6 : Value} {h : am_H} (w2 : wr x2 = x2') (k1 : K10 h a0) : rn m_X12_codesParts 7 [.ref a0, .ref a1, .int (mI x2), v3, v4, v5, v6] [] h = if 4 ≤ x2' then some (.inl (some (.ref a1)), h) else cl m_X12_codesParts 34 [.ref a0, .ref a1, .int (mI x2), .int (mI ((Int.tmod x2' 2) * 8)), .int (mI ((Int.tdiv x2' 2) * 8)), v5, v6] [] (rn m_X12_isSplit 0 [.ref a0, .int (mI ((Int.tmod x2' 2) * 8)), .int (mI ((Int.tdiv x2' 2) * 8)), am_J, am_J, am_J, am_J] [] h) := by
  refine (tq_iload_n i_X12_codesParts_7 rfl rfl).trans ?_
  refine (tq_iconst i_X12_codesParts_8 rfl).trans ?_
  refine (tq_icmp_ge (pt := 139) i_X12_codesParts_9 w2 w_4 (by decide) rfl).trans ?_
  refine ite_congr rfl (fun c1 => ?_) (fun c1 => ?_)
  · refine (tq_aload_n i_X12_codesParts_139 rfl (isA_ref _) rfl).trans ?_
    exact tq_areturn i_X12_codesParts_140 (isA_ref _) r_X12_codesParts rfl
  · refine (tq_iload_n i_X12_codesParts_12 rfl rfl).trans ?_
    refine (tq_iconst i_X12_codesParts_13 rfl).trans ?_
    refine (tq_irem i_X12_codesParts_14 w2 w_2 (by decide) rfl).trans ?_
    refine (tq_bipush i_X12_codesParts_15 rfl).trans ?_
    refine (tq_imul i_X12_codesParts_17 rfl).trans ?_
    refine (tq_istore_n (L' := [.ref a0, .ref a1, .int (mI x2), .int (mI ((Int.tmod x2' 2) * 8)), v4, v5, v6]) i_X12_codesParts_18 rfl rfl).trans ?_
    refine (tq_iload_n i_X12_codesParts_19 rfl rfl).trans ?_
    refine (tq_iconst i_X12_codesParts_20 rfl).trans ?_
    refine (tq_idiv i_X12_codesParts_21 w2 w_2 (by decide) rfl).trans ?_
    refine (tq_bipush i_X12_codesParts_22 rfl).trans ?_
    refine (tq_imul i_X12_codesParts_24 rfl).trans ?_
    refine (tq_istore (L' := [.ref a0, .ref a1, .int (mI x2), .int (mI ((Int.tmod x2' 2) * 8)), .int (mI ((Int.tdiv x2' 2) * 8)), v5, v6]) i_X12_codesParts_25 rfl rfl).trans ?_
    refine (tq_aload_n i_X12_codesParts_27 rfl (isA_ref _) rfl).trans ?_
    refine (tq_iload_n i_X12_codesParts_28 rfl rfl).trans ?_
    refine (tq_iload i_X12_codesParts_29 rfl rfl).trans ?_
    exact c_X12_isSplit i_X12_codesParts_31 (K10_s k1) (ltd d_X12_codesParts (by decide)) stOk_0 rfl
theorem i_X12_codesParts_34 : am_i m_X12_codesParts 34 = some (34, .ifCond .eq 7, 3, [], 0) := rfl
theorem i_X12_codesParts_37 : am_i m_X12_codesParts 37 = some (37, .iconst 4, 1, [], 4) := rfl
theorem i_X12_codesParts_38 : am_i m_X12_codesParts 38 = some (38, .goto 5, 3, [], 0) := rfl
theorem i_X12_codesParts_41 : am_i m_X12_codesParts 41 = some (41, .bipush 8, 2, [], 8) := rfl
theorem i_X12_codesParts_43 : am_i m_X12_codesParts 43 = some (43, .istore 5, 2, [], 0) := rfl
theorem i_X12_codesParts_45 : am_i m_X12_codesParts 45 = some (45, .iconst 0, 1, [], 0) := rfl
theorem i_X12_codesParts_46 : am_i m_X12_codesParts 46 = some (46, .istore 6, 2, [], 0) := rfl
theorem b_X12_codesParts_34 {a0 a1 : Nat} {x2 x3 x4 xs0 xs0' : Int} {v5 v6 : Value} {h : am_H} (ws0 : wr xs0 = xs0') : rn m_X12_codesParts 34 [.ref a0, .ref a1, .int (mI x2), .int (mI x3), .int (mI x4), v5, v6] [.int (mI xs0)] h = rn m_X12_codesParts 48 [.ref a0, .ref a1, .int (mI x2), .int (mI x3), .int (mI x4), .int (mI (if xs0' = 0 then (8 : Int) else 4)), .int (mI 0)] [] h := by
  refine (tq_if_eq (pt := 41) i_X12_codesParts_34 ws0 (by decide) rfl).trans ?_
  refine Eq.trans (b := if xs0' = 0 then rn m_X12_codesParts 43 [.ref a0, .ref a1, .int (mI x2), .int (mI x3), .int (mI x4), v5, v6] [.int (mI 8)] h else rn m_X12_codesParts 43 [.ref a0, .ref a1, .int (mI x2), .int (mI x3), .int (mI x4), v5, v6] [.int (mI 4)] h) (ite_congr rfl (fun c1 => ?_) (fun c1 => ?_)) ?_
  · refine (tq_bipush i_X12_codesParts_41 rfl).trans ?_
    rfl
  · refine (tq_iconst i_X12_codesParts_37 rfl).trans ?_
    refine (tq_goto (pc' := 43) i_X12_codesParts_38 (by decide)).trans ?_
    rfl
  refine Eq.trans ite_I ?_
  refine (tq_istore (L' := [.ref a0, .ref a1, .int (mI x2), .int (mI x3), .int (mI x4), .int (mI (if xs0' = 0 then (8 : Int) else 4)), v6]) i_X12_codesParts_43 rfl rfl).trans ?_
  refine (tq_iconst i_X12_codesParts_45 rfl).trans ?_
  refine (tq_istore (L' := [.ref a0, .ref a1, .int (mI x2), .int (mI x3), .int (mI x4), .int (mI (if xs0' = 0 then (8 : Int) else 4)), .int (mI 0)]) i_X12_codesParts_46 rfl rfl).trans ?_
  rfl
theorem i_X12_codesParts_48 : am_i m_X12_codesParts 48 = some (48, .iload 6, 2, [], 0) := rfl
theorem i_X12_codesParts_50 : am_i m_X12_codesParts 50 = some (50, .iconst 4, 1, [], 4) := rfl
theorem i_X12_codesParts_51 : am_i m_X12_codesParts 51 = some (51, .if_icmp .ge 33, 3, [], 0) := rfl
theorem i_X12_codesParts_54 : am_i m_X12_codesParts 54 = some (54, .aload_n 1, 1, [], 0) := rfl
theorem i_X12_codesParts_55 : am_i m_X12_codesParts 55 = some (55, .iconst 4, 1, [], 4) := rfl
theorem i_X12_codesParts_56 : am_i m_X12_codesParts 56 = some (56, .iload 4, 2, [], 0) := rfl
theorem i_X12_codesParts_58 : am_i m_X12_codesParts 58 = some (58, .iconst 4, 1, [], 4) := rfl
theorem i_X12_codesParts_59 : am_i m_X12_codesParts 59 = some (59, .idiv, 1, [], 0) := rfl
theorem i_X12_codesParts_60 : am_i m_X12_codesParts 60 = some (60, .iload 6, 2, [], 0) := rfl
theorem i_X12_codesParts_62 : am_i m_X12_codesParts 62 = some (62, .iconst 2, 1, [], 2) := rfl
theorem i_X12_codesParts_63 : am_i m_X12_codesParts 63 = some (63, .idiv, 1, [], 0) := rfl
theorem i_X12_codesParts_64 : am_i m_X12_codesParts 64 = some (64, .iadd, 1, [], 0) := rfl
theorem i_X12_codesParts_65 : am_i m_X12_codesParts 65 = some (65, .imul, 1, [], 0) := rfl
theorem i_X12_codesParts_66 : am_i m_X12_codesParts 66 = some (66, .iload_n 3, 1, [], 0) := rfl
theorem i_X12_codesParts_67 : am_i m_X12_codesParts 67 = some (67, .iconst 4, 1, [], 4) := rfl
theorem i_X12_codesParts_68 : am_i m_X12_codesParts 68 = some (68, .idiv, 1, [], 0) := rfl
theorem i_X12_codesParts_69 : am_i m_X12_codesParts 69 = some (69, .iadd, 1, [], 0) := rfl
theorem i_X12_codesParts_70 : am_i m_X12_codesParts 70 = some (70, .iload 6, 2, [], 0) := rfl
theorem i_X12_codesParts_72 : am_i m_X12_codesParts 72 = some (72, .iconst 2, 1, [], 2) := rfl
theorem i_X12_codesParts_73 : am_i m_X12_codesParts 73 = some (73, .irem, 1, [], 0) := rfl
theorem i_X12_codesParts_74 : am_i m_X12_codesParts 74 = some (74, .iadd, 1, [], 0) := rfl
theorem i_X12_codesParts_75 : am_i m_X12_codesParts 75 = some (75, .iload 5, 2, [], 0) := rfl
theorem i_X12_codesParts_77 : am_i m_X12_codesParts 77 = some (77, .iastore, 1, [], 0) := rfl
theorem i_X12_codesParts_78 : am_i m_X12_codesParts 78 = some (78, .iinc 6 1, 3, [], 0) := rfl
theorem i_X12_codesParts_81 : am_i m_X12_codesParts 81 = some (81, .goto (-33), 3, [], 0) := rfl
theorem i_X12_codesParts_84 : am_i m_X12_codesParts 84 = some (84, .iconst 0, 1, [], 0) := rfl
theorem i_X12_codesParts_85 : am_i m_X12_codesParts 85 = some (85, .istore 6, 2, [], 0) := rfl
theorem b_X12_codesParts_48 {a0 a1 n_a1 : Nat} {x2 x3 x4 x5 x6 x3' x4' x6' : Int} {h : am_H} (w3 : wr x3 = x3') (w4 : wr x4 = x4') (w6 : wr x6 = x6') (n1 : gn h a1 = n_a1) (s2 : sh h a1 = (1, 0)) (g3 : (¬ (4 ≤ x6')) → (0 ≤ wr (((4 * ((Int.tdiv x4' 4) + (Int.tdiv x6' 2))) + (Int.tdiv x3' 4)) + (Int.tmod x6' 2)) ∧ wr (((4 * ((Int.tdiv x4' 4) + (Int.tdiv x6' 2))) + (Int.tdiv x3' 4)) + (Int.tmod x6' 2)) < (n_a1 : Int))) : rn m_X12_codesParts 48 [.ref a0, .ref a1, .int (mI x2), .int (mI x3), .int (mI x4), .int (mI x5), .int (mI x6)] [] h = if 4 ≤ x6' then rn m_X12_codesParts 87 [.ref a0, .ref a1, .int (mI x2), .int (mI x3), .int (mI x4), .int (mI x5), .int (mI 0)] [] h else rn m_X12_codesParts 48 [.ref a0, .ref a1, .int (mI x2), .int (mI x3), .int (mI x4), .int (mI x5), .int (mI (x6 + 1))] [] (uZ h a1 (wr (((4 * ((Int.tdiv x4' 4) + (Int.tdiv x6' 2))) + (Int.tdiv x3' 4)) + (Int.tmod x6' 2))) x5) := by
  refine (tq_iload i_X12_codesParts_48 rfl rfl).trans ?_
  refine (tq_iconst i_X12_codesParts_50 rfl).trans ?_
  refine (tq_icmp_ge (pt := 84) i_X12_codesParts_51 w6 w_4 (by decide) rfl).trans ?_
  refine ite_congr rfl (fun c1 => ?_) (fun c1 => ?_)
  · refine (tq_iconst i_X12_codesParts_84 rfl).trans ?_
    refine (tq_istore (L' := [.ref a0, .ref a1, .int (mI x2), .int (mI x3), .int (mI x4), .int (mI x5), .int (mI 0)]) i_X12_codesParts_85 rfl rfl).trans ?_
    rfl
  · refine (tq_aload_n i_X12_codesParts_54 rfl (isA_ref _) rfl).trans ?_
    refine (tq_iconst i_X12_codesParts_55 rfl).trans ?_
    refine (tq_iload i_X12_codesParts_56 rfl rfl).trans ?_
    refine (tq_iconst i_X12_codesParts_58 rfl).trans ?_
    refine (tq_idiv i_X12_codesParts_59 w4 w_4 (by decide) rfl).trans ?_
    refine (tq_iload i_X12_codesParts_60 rfl rfl).trans ?_
    refine (tq_iconst i_X12_codesParts_62 rfl).trans ?_
    refine (tq_idiv i_X12_codesParts_63 w6 w_2 (by decide) rfl).trans ?_
    refine (tq_iadd i_X12_codesParts_64 rfl).trans ?_
    refine (tq_imul i_X12_codesParts_65 rfl).trans ?_
    refine (tq_iload_n i_X12_codesParts_66 rfl rfl).trans ?_
    refine (tq_iconst i_X12_codesParts_67 rfl).trans ?_
    refine (tq_idiv i_X12_codesParts_68 w3 w_4 (by decide) rfl).trans ?_
    refine (tq_iadd i_X12_codesParts_69 rfl).trans ?_
    refine (tq_iload i_X12_codesParts_70 rfl rfl).trans ?_
    refine (tq_iconst i_X12_codesParts_72 rfl).trans ?_
    refine (tq_irem i_X12_codesParts_73 w6 w_2 (by decide) rfl).trans ?_
    refine (tq_iadd i_X12_codesParts_74 rfl).trans ?_
    refine (tq_iload i_X12_codesParts_75 rfl rfl).trans ?_
    refine (tq_iastore i_X12_codesParts_77 s2 rfl (g3 c1).1 (lt_gn n1 (g3 c1).2) rfl).trans ?_
    refine (tq_iinc (L' := [.ref a0, .ref a1, .int (mI x2), .int (mI x3), .int (mI x4), .int (mI x5), .int (mI (x6 + 1))]) i_X12_codesParts_78 rfl rfl rfl).trans ?_
    refine (tq_goto (pc' := 48) i_X12_codesParts_81 (by decide)).trans ?_
    rfl
theorem i_X12_codesParts_87 : am_i m_X12_codesParts 87 = some (87, .iload 6, 2, [], 0) := rfl
theorem i_X12_codesParts_89 : am_i m_X12_codesParts 89 = some (89, .iload 5, 2, [], 0) := rfl
theorem i_X12_codesParts_91 : am_i m_X12_codesParts 91 = some (91, .bipush 8, 2, [], 8) := rfl
theorem i_X12_codesParts_93 : am_i m_X12_codesParts 93 = some (93, .if_icmp .ne 7, 3, [], 0) := rfl
theorem i_X12_codesParts_96 : am_i m_X12_codesParts 96 = some (96, .iconst 1, 1, [], 1) := rfl
theorem i_X12_codesParts_97 : am_i m_X12_codesParts 97 = some (97, .goto 4, 3, [], 0) := rfl
theorem i_X12_codesParts_100 : am_i m_X12_codesParts 100 = some (100, .iconst 4, 1, [], 4) := rfl
theorem i_X12_codesParts_101 : am_i m_X12_codesParts 101 = some (101, .if_icmp .ge 32, 3, [], 0) := rfl
theorem i_X12_codesParts_104 : am_i m_X12_codesParts 104 = some (104, .aload_n 0, 1, [], 0) := rfl
theorem i_X12_codesParts_105 : am_i m_X12_codesParts 105 = some (105, .iload_n 3, 1, [], 0) := rfl
theorem i_X12_codesParts_106 : am_i m_X12_codesParts 106 = some (106, .iload 6, 2, [], 0) := rfl
theorem i_X12_codesParts_108 : am_i m_X12_codesParts 108 = some (108, .iconst 2, 1, [], 2) := rfl
theorem i_X12_codesParts_109 : am_i m_X12_codesParts 109 = some (109, .irem, 1, [], 0) := rfl
theorem i_X12_codesParts_110 : am_i m_X12_codesParts 110 = some (110, .iconst 4, 1, [], 4) := rfl
theorem i_X12_codesParts_111 : am_i m_X12_codesParts 111 = some (111, .imul, 1, [], 0) := rfl
theorem i_X12_codesParts_112 : am_i m_X12_codesParts 112 = some (112, .iadd, 1, [], 0) := rfl
theorem i_X12_codesParts_113 : am_i m_X12_codesParts 113 = some (113, .iload 4, 2, [], 0) := rfl
theorem i_X12_codesParts_115 : am_i m_X12_codesParts 115 = some (115, .iload 6, 2, [], 0) := rfl
theorem i_X12_codesParts_117 : am_i m_X12_codesParts 117 = some (117, .iconst 2, 1, [], 2) := rfl
theorem i_X12_codesParts_118 : am_i m_X12_codesParts 118 = some (118, .idiv, 1, [], 0) := rfl
theorem i_X12_codesParts_119 : am_i m_X12_codesParts 119 = some (119, .iconst 4, 1, [], 4) := rfl
theorem i_X12_codesParts_120 : am_i m_X12_codesParts 120 = some (120, .imul, 1, [], 0) := rfl
theorem i_X12_codesParts_121 : am_i m_X12_codesParts 121 = some (121, .iadd, 1, [], 0) := rfl
theorem i_X12_codesParts_122 : am_i m_X12_codesParts 122 = some (122, .iload 5, 2, [], 0) := rfl
theorem i_X12_codesParts_124 : am_i m_X12_codesParts 124 = some (124, .invokevirtual 296, 3, [236, 10], 0) := rfl
theorem i_X12_codesParts_133 : am_i m_X12_codesParts 133 = some (133, .iinc 2 1, 3, [], 0) := rfl
theorem i_X12_codesParts_136 : am_i m_X12_codesParts 136 = some (136, .goto (-129), 3, [], 0) := rfl
theorem b_X12_codesParts_87 {a0 a1 : Nat} {x2 x3 x4 x5 x6 x5' x6' : Int} {h : am_H} (w5 : wr x5 = x5') (w6 : wr x6 = x6') (k1 : K10 h a0) : rn m_X12_codesParts 87 [.ref a0, .ref a1, .int (mI x2), .int (mI x3), .int (mI x4), .int (mI x5), .int (mI x6)] [] h = if (if ¬ x5' = 8 then (4 : Int) else 1) ≤ x6' then rn m_X12_codesParts 7 [.ref a0, .ref a1, .int (mI (x2 + 1)), .int (mI x3), .int (mI x4), .int (mI x5), .int (mI x6)] [] h else cl m_X12_codesParts 127 [.ref a0, .ref a1, .int (mI x2), .int (mI x3), .int (mI x4), .int (mI x5), .int (mI x6)] [] (rn m_X12_codesPart 0 [.ref a0, .int (mI (x3 + ((Int.tmod x6' 2) * 4))), .int (mI (x4 + ((Int.tdiv x6' 2) * 4))), .int (mI x5), am_J, am_J, am_J, am_J, am_J] [] h) := by
  refine (tq_iload i_X12_codesParts_87 rfl rfl).trans ?_
  refine (tq_iload i_X12_codesParts_89 rfl rfl).trans ?_
  refine (tq_bipush i_X12_codesParts_91 rfl).trans ?_
  refine (tq_icmp_ne (pt := 100) i_X12_codesParts_93 w5 w_8 (by decide) rfl).trans ?_
  refine Eq.trans (b := if ¬ x5' = 8 then rn m_X12_codesParts 101 [.ref a0, .ref a1, .int (mI x2), .int (mI x3), .int (mI x4), .int (mI x5), .int (mI x6)] [.int (mI 4), .int (mI x6)] h else rn m_X12_codesParts 101 [.ref a0, .ref a1, .int (mI x2), .int (mI x3), .int (mI x4), .int (mI x5), .int (mI x6)] [.int (mI 1), .int (mI x6)] h) (ite_congr rfl (fun c1 => ?_) (fun c1 => ?_)) ?_
  · refine (tq_iconst i_X12_codesParts_100 rfl).trans ?_
    rfl
  · refine (tq_iconst i_X12_codesParts_96 rfl).trans ?_
    refine (tq_goto (pc' := 101) i_X12_codesParts_97 (by decide)).trans ?_
    rfl
  refine Eq.trans ite_I ?_
  refine (tq_icmp_ge (pt := 133) i_X12_codesParts_101 w6 (wr_ite w_4 w_1) (by decide) rfl).trans ?_
  refine ite_congr rfl (fun c2 => ?_) (fun c2 => ?_)
  · refine (tq_iinc (L' := [.ref a0, .ref a1, .int (mI (x2 + 1)), .int (mI x3), .int (mI x4), .int (mI x5), .int (mI x6)]) i_X12_codesParts_133 rfl rfl rfl).trans ?_
    refine (tq_goto (pc' := 7) i_X12_codesParts_136 (by decide)).trans ?_
    rfl
  · refine (tq_aload_n i_X12_codesParts_104 rfl (isA_ref _) rfl).trans ?_
    refine (tq_iload_n i_X12_codesParts_105 rfl rfl).trans ?_
    refine (tq_iload i_X12_codesParts_106 rfl rfl).trans ?_
    refine (tq_iconst i_X12_codesParts_108 rfl).trans ?_
    refine (tq_irem i_X12_codesParts_109 w6 w_2 (by decide) rfl).trans ?_
    refine (tq_iconst i_X12_codesParts_110 rfl).trans ?_
    refine (tq_imul i_X12_codesParts_111 rfl).trans ?_
    refine (tq_iadd i_X12_codesParts_112 rfl).trans ?_
    refine (tq_iload i_X12_codesParts_113 rfl rfl).trans ?_
    refine (tq_iload i_X12_codesParts_115 rfl rfl).trans ?_
    refine (tq_iconst i_X12_codesParts_117 rfl).trans ?_
    refine (tq_idiv i_X12_codesParts_118 w6 w_2 (by decide) rfl).trans ?_
    refine (tq_iconst i_X12_codesParts_119 rfl).trans ?_
    refine (tq_imul i_X12_codesParts_120 rfl).trans ?_
    refine (tq_iadd i_X12_codesParts_121 rfl).trans ?_
    refine (tq_iload i_X12_codesParts_122 rfl rfl).trans ?_
    exact c_X12_codesPart i_X12_codesParts_124 (K10_s k1) (ltd d_X12_codesParts (by decide)) stOk_0 rfl
theorem i_X12_codesParts_127 : am_i m_X12_codesParts 127 = some (127, .iinc 6 1, 3, [], 0) := rfl
theorem i_X12_codesParts_130 : am_i m_X12_codesParts 130 = some (130, .goto (-43), 3, [], 0) := rfl
theorem b_X12_codesParts_127 {a0 a1 : Nat} {x2 x3 x4 x5 x6 : Int} {h : am_H} : rn m_X12_codesParts 127 [.ref a0, .ref a1, .int (mI x2), .int (mI x3), .int (mI x4), .int (mI x5), .int (mI x6)] [] h = rn m_X12_codesParts 87 [.ref a0, .ref a1, .int (mI x2), .int (mI x3), .int (mI x4), .int (mI x5), .int (mI (x6 + 1))] [] h := by
  refine (tq_iinc (L' := [.ref a0, .ref a1, .int (mI x2), .int (mI x3), .int (mI x4), .int (mI x5), .int (mI (x6 + 1))]) i_X12_codesParts_127 rfl rfl rfl).trans ?_
  refine (tq_goto (pc' := 87) i_X12_codesParts_130 (by decide)).trans ?_
  rfl
/-- cells and slots of a picture's parts -/
theorem codesParts_ok {h : am_H} {M N : Nat} {c f1 f2 : Int → Int} {kd tl sl q : Int} (y : My M N c kd tl sl q) (x : Mx h M N c f1 f2 kd tl sl q) (nN : N + 3 < hnx h) (hp : pixels (gZ h N)) (lb : levB q (gZ h (N + 3))) : ∃ h', rn m_X12_codesParts 0 [.ref M, am_J, am_J, am_J, am_J, am_J, am_J] [] h = some (.inl (some (.ref (hnx h))), h') ∧ Fr (SPa N) 97 9232 h h' ∧ hnx h < hnx h' ∧ sh h' (hnx h) = (1, 0) ∧ gn h' (hnx h) = 16 ∧ levB q (gZ h' (N + 3)) ∧ pixels (gZ h' N) ∧ ∀ s, 0 ≤ s → s < 16 → CodM c f1 f2 kd tl sl q h' N (hnx h) s := by
  have y0 := y
  obtain ⟨y1, y4, y5, y6, y7, y8⟩ := y
  rw [b_X12_codesParts_0, b_X12_codesParts_4]
  generalize hW : hnx h = W at *
  have sW : sh (aI 0 16 h) W = (1, 0) := by rw [← hW]; exact sh_aI (by decide)
  have nW : gn (aI 0 16 h) W = 16 := by rw [← hW]; exact gn_aI _ _ _
  have frA : Fr (fun _ _ => False) 1 16 h (aI 0 16 h) := Fr_alc _ _ _
  have nxA : hnx (aI 0 16 h) = W + 1 := by rw [hnx_aI, hW]
  have hpA : pixels (gZ (aI 0 16 h) N) := by rw [frZ frA (by omega) (fun q => q)]; exact hp
  have lbA : levB q (gZ (aI 0 16 h) (N + 3)) := by rw [frZ frA (by omega) (fun q => q)]; exact lb
  have xA := Mx_fr y0 frA (fun _ _ _ q => q) (by omega) x
  generalize aI 0 16 h = hA at *
  let S : Nat → Nat → Prop := fun c k => SPa N c k ∨ c = W
  have hS : ∀ c k, c < N → ¬ S c k := fun c k hc e => by simp only [S] at e; unfold SPa at e; omega
  let I : Int → am_H → Prop := fun i h' => Fr S (6 * i.toNat) (576 * i.toNat) hA h' ∧ levB q (gZ h' (N + 3)) ∧ pixels (gZ h' N) ∧ ∀ s, 0 ≤ s → s < i → CodM c f1 f2 kd tl sl q h' N W s
  have xI : ∀ i h', I i h' → Mx h' M N c f1 f2 kd tl sl q := fun i h' hi => Mx_fr y0 hi.1 hS (by omega) xA
  refine lp (m := m_X12_codesParts) (pc := 7) (L := fun b (z : (Value × Value) × (Value × Value)) => [.ref M, .ref W, .int (mI b), z.1.1, z.1.2, z.2.1, z.2.2]) (N := 4) (P := fun r => ∃ h', r = some (.inl (some (.ref W)), h') ∧ Fr (SPa N) 97 9232 h h' ∧ W < hnx h' ∧ sh h' W = (1, 0) ∧ gn h' W = 16 ∧ levB q (gZ h' (N + 3)) ∧ pixels (gZ h' N) ∧ ∀ s, 0 ≤ s → s < 16 → CodM c f1 f2 kd tl sl q h' N W s) (fun b z h' => 0 ≤ b ∧ I (4 * b) h') ?_ ?_ 0 ((am_J, am_J), (am_J, am_J)) hA (by omega) ⟨by omega, Fr_rf _ _, lbA, hpA, fun s _ _ => by omega⟩
  · intro b z h' hb ⟨b0, hi⟩
    obtain ⟨⟨z1, z2⟩, z3, z4⟩ := z
    have x' := xI _ _ hi
    obtain ⟨fr, lb', hp', cd⟩ := hi
    have nx' := fr.1.nx
    have eX : (Int.tmod b 2) * 8 = b % 2 * 8 := by rw [tmd b0]
    have eY : (Int.tdiv b 2) * 8 = b / 2 * 8 := by rw [tdv b0]
    have st := b_X12_codesParts_7 (a0 := M) (a1 := W) (v3 := z1) (v4 := z2) (v5 := z3) (v6 := z4) (h := h') (wr_id (z := b) (by omega) (by omega)) x'.1
    rw [if_neg (by omega), eX, eY, isSplit12_ok x'.1 (by rw [x'.2.2.2.1]; exact y4) x'.2.2.2.2.1.2.1 x'.2.2.2.2.1.2.2.1 y6 y8 (by omega) (by omega), cl_v, b_X12_codesParts_34 (wr_bZ _), x'.2.2.2.1] at st
    have eZ : (if bZ (splitB c tl q (b % 2 * 8) (b / 2 * 8)) = 0 then (8 : Int) else 4) = if splitB c tl q (b % 2 * 8) (b / 2 * 8) then 4 else 8 := by
      by_cases cs : splitB c tl q (b % 2 * 8) (b / 2 * 8)
      · rw [bZ_t cs, if_pos cs, if_neg (by decide)]
      · rw [bZ_f cs, if_neg cs, if_pos rfl]
    obtain ⟨Z, hZe⟩ : ∃ Z : Int, Z = if splitB c tl q (b % 2 * 8) (b / 2 * 8) then 4 else 8 := ⟨_, rfl⟩
    rw [eZ, ← hZe] at st
    have hZ8 : Z = 4 ∨ Z = 8 := by rw [hZe]; split <;> simp
    have geo : ∀ k, 0 ≤ k → k < 4 → cx (4 * b + k) = b % 2 * 8 + k % 2 * 4 ∧ cy (4 * b + k) = b / 2 * 8 + k / 2 * 4 ∧ (4 * b + k) / 4 % 2 = b % 2 ∧ (4 * b + k) / 8 % 2 = b / 2 := fun k k0 k1 => by unfold cx cy; omega
    -- the sizes
    have sizes : ∃ (h2 : am_H), rn m_X12_codesParts 48 [.ref M, .ref W, .int (mI b), .int (mI (b % 2 * 8)), .int (mI (b / 2 * 8)), .int (mI Z), .int (mI 0)] [] h' = rn m_X12_codesParts 87 [.ref M, .ref W, .int (mI b), .int (mI (b % 2 * 8)), .int (mI (b / 2 * 8)), .int (mI Z), .int (mI 0)] [] h2 ∧ Md (fun c _ => c = W) h' h2 ∧ (∀ k, 0 ≤ k → k < 4 → gZ h2 W (rs (4 * b + k)) = Z) ∧ ∀ s, 0 ≤ s → s < 16 → (s < 4 * b ∨ 4 * b + 4 ≤ s) → gZ h2 W (rs s) = gZ h' W (rs s) := by
      refine lp (m := m_X12_codesParts) (pc := 48) (L := fun k (_ : Unit) => [.ref M, .ref W, .int (mI b), .int (mI (b % 2 * 8)), .int (mI (b / 2 * 8)), .int (mI Z), .int (mI k)]) (N := 4) (P := fun r => ∃ (h2 : am_H), r = rn m_X12_codesParts 87 [.ref M, .ref W, .int (mI b), .int (mI (b % 2 * 8)), .int (mI (b / 2 * 8)), .int (mI Z), .int (mI 0)] [] h2 ∧ Md (fun c _ => c = W) h' h2 ∧ (∀ k, 0 ≤ k → k < 4 → gZ h2 W (rs (4 * b + k)) = Z) ∧ ∀ s, 0 ≤ s → s < 16 → (s < 4 * b ∨ 4 * b + 4 ≤ s) → gZ h2 W (rs s) = gZ h' W (rs s)) (fun k _ h2 => 0 ≤ k ∧ Md (fun c _ => c = W) h' h2 ∧ (∀ j, 0 ≤ j → j < k → gZ h2 W (rs (4 * b + j)) = Z) ∧ ∀ s, 0 ≤ s → s < 16 → (s < 4 * b ∨ 4 * b + 4 ≤ s) → gZ h2 W (rs s) = gZ h' W (rs s)) ?_ ?_ 0 () h' (by omega) ⟨by omega, Md_rf _ _, fun j j0 j1 => by omega, fun _ _ _ _ => rfl⟩
      · intro k _ h2 hk ⟨k0, md, d1, d2⟩
        have sW2 : sh h2 W = (1, 0) := (md_sh md _).trans ((fr.1.sh1 (by omega)).trans sW)
        have nW2 : gn h2 W = 16 := (md_gn md _).trans ((fr.1.gn1 (by omega)).trans nW)
        have ers : 4 * (b / 2 * 8 / 4 + k / 2) + b % 2 * 8 / 4 + k % 2 = rs (4 * b + k) := by
          obtain ⟨g1, g2, -⟩ := geo k k0 hk
          unfold rs
          rw [g1, g2]
          omega
        have rb := rs_b (4 * b + k)
        have st := b_X12_codesParts_48 (a0 := M) (a1 := W) (n_a1 := 16) (x2 := b) (x5 := Z) (h := h2) (wr_id (z := b % 2 * 8) (by omega) (by omega)) (wr_id (z := b / 2 * 8) (by omega) (by omega)) (wr_id (z := k) (by omega) (by omega)) nW2 sW2
        rw [tdv (x := b / 2 * 8) (by omega), tdv (x := b % 2 * 8) (by omega), tdv (x := k) k0, tmd k0, ers, wr_id (z := rs (4 * b + k)) (by omega) (by omega)] at st
        have st := st (fun _ => by omega)
        rw [if_neg (by omega)] at st
        refine ⟨(), _, st, by omega, Md_tr md (Md_uZ _ _ _ _), fun j j0 j1 => ?_, fun s s0 s1 hs => ?_⟩
        · rw [gZ_uZ' (sh1 sW2), wr_id (z := Z) (by omega) (by omega)]
          by_cases e : j = k
          · rw [if_pos (by rw [e])]
          · rw [if_neg (fun q => e (by have := rs_inj (s := 4 * b + j) (t := 4 * b + k) (by omega) (by omega) q; omega))]
            exact d1 j j0 (by omega)
        · rw [gZ_uZ_nj _ (sh1 sW2) (fun q => by have := rs_inj (s := s) (t := 4 * b + k) ⟨s0, s1⟩ (by omega) q; omega)]
          exact d2 s s0 s1 hs
      · intro _ h2 ⟨k0, md, d1, d2⟩
        have sW2 : sh h2 W = (1, 0) := (md_sh md _).trans ((fr.1.sh1 (by omega)).trans sW)
        have nW2 : gn h2 W = 16 := (md_gn md _).trans ((fr.1.gn1 (by omega)).trans nW)
        have st := b_X12_codesParts_48 (a0 := M) (a1 := W) (n_a1 := 16) (x2 := b) (x5 := Z) (h := h2) (wr_id (z := b % 2 * 8) (by omega) (by omega)) (wr_id (z := b / 2 * 8) (by omega) (by omega)) (wr_id (z := 4) (by omega) (by omega)) nW2 sW2 (fun _ => by omega)
        rw [if_pos (by omega)] at st
        exact ⟨h2, st, md, d1, d2⟩
    obtain ⟨h2, e2, m2, d1, d2⟩ := sizes
    have frB : Fr S (6 * (4 * b).toNat) (576 * (4 * b).toNat) hA h2 := Fr_mono (Fr_tr (U := S) fr (md_fr m2) (fun _ _ _ q => q) (fun a k ha q => Or.inr q)) (fun _ _ _ q => q) (by omega) (by omega)
    have cd2 : ∀ s, 0 ≤ s → s < 4 * b → CodM c f1 f2 kd tl sl q h2 N W s := fun s s0 s1 => by
      refine ⟨?_, VB_md (md_Z m2 (by omega)) (md_Z m2 (by omega)) (cd s s0 s1).2⟩
      refine Cod_agr (i := 4 * b) (fun t t0 t1 => ⟨⟨(d2 t t0 (by omega) (Or.inl t1)).symm, (md_gZ m2 (by omega) _).symm, ?_, ?_⟩, fun k k0 k1 => ⟨(md_gZ m2 (by omega) _).symm, (md_gZ m2 (by omega) _).symm⟩⟩) ⟨s0, by omega⟩ s1 (cd s s0 s1).1
      · show used1 _ _ = used1 _ _
        rw [md_gZ m2 (by omega), md_gZ m2 (by omega), md_gZ m2 (by omega)]
      · show used2 _ _ = used2 _ _
        rw [md_gZ m2 (by omega), md_gZ m2 (by omega), md_gZ m2 (by omega)]
    -- one part
    have part : ∀ (k : Int) (h3 : am_H) (cc ss : Nat), 0 ≤ k → k < 4 → (Z = 8 → k = 0) → Fr S cc ss hA h3 → levB q (gZ h3 (N + 3)) → pixels (gZ h3 N) → (∀ s, 0 ≤ s → s < 4 * b + k → CodM c f1 f2 kd tl sl q h3 N W s) → (∀ k, 0 ≤ k → k < 4 → gZ h3 W (rs (4 * b + k)) = Z) → ∃ h4, rn m_X12_codesPart 0 [.ref M, .int (mI (b % 2 * 8 + k % 2 * 4)), .int (mI (b / 2 * 8 + k / 2 * 4)), .int (mI Z), am_J, am_J, am_J, am_J, am_J] [] h3 = some (.inl none, h4) ∧ Fr S (cc + (2 + 4 * (side Z * side Z).toNat)) (ss + (512 + 64 * (side Z * side Z).toNat)) hA h4 ∧ levB q (gZ h4 (N + 3)) ∧ pixels (gZ h4 N) ∧ (∀ s, 0 ≤ s → s < (if Z = 4 then 4 * b + k + 1 else 4 * b + 4) → CodM c f1 f2 kd tl sl q h4 N W s) ∧ (∀ k, 0 ≤ k → k < 4 → gZ h4 W (rs (4 * b + k)) = Z) := by
      intro k h3 cc ss k0 k1 hk fr3 lb3 hp3 cd3 z3
      have x3 := Mx_fr y0 fr3 hS (by omega) xA
      have nx3 := fr3.1.nx
      obtain ⟨g1, g2, g3, g4⟩ := geo k k0 k1
      have li : lies (b % 2 * 8 + k % 2 * 4) (b / 2 * 8 + k / 2 * 4) Z (tp sl (b / 2 * 8 + k / 2 * 4)) := by
        refine ⟨?_, (tp_b _ _).1⟩
        rcases hZ8 with rfl | rfl
        · left; omega
        · have := hk rfl
          right; omega
      obtain ⟨h4, e4, fr4, lb4, hp4, dn⟩ := codesPart_ok (p := gZ h3 N) y0 x3 (by omega) rfl hp3 lb3 li
      have w4 : ∀ j, gZ h4 W j = gZ h3 W j := fun j => fr4.1.gZ1 _ (by omega) (by unfold SPa; omega)
      have inp : ∀ s, 0 ≤ s → s < 16 → (inPart (b % 2 * 8 + k % 2 * 4) (b / 2 * 8 + k / 2 * 4) Z s ↔ 4 * b + k ≤ s ∧ s < (if Z = 4 then 4 * b + k + 1 else 4 * b + 4)) := by
        intro s s0 s1
        unfold inPart
        rcases hZ8 with rfl | rfl
        · rw [if_pos rfl]
          constructor
          · intro qq
            have a := cx_b s
            have d := cy_b s
            have := c_inj (s := s) (t := 4 * b + k) ⟨s0, s1⟩ (by omega) (by omega) (by omega)
            omega
          · intro qq
            have : s = 4 * b + k := by omega
            subst this
            omega
        · rw [if_neg (by decide)]
          have := hk rfl
          subst this
          unfold cx cy
          omega
      refine ⟨h4, e4, Fr_tr (U := S) fr3 fr4 (fun _ _ _ q => q) (fun a k ha q => Or.inl q), lb4, hp4, fun s s0 s1 => ?_, fun k k0 k1 => by rw [w4]; exact z3 k k0 k1⟩
      have s16 : s < 16 := by split at s1 <;> omega
      have smm : ∀ t, 0 ≤ t → t < 16 → ¬ inPart (b % 2 * 8 + k % 2 * 4) (b / 2 * 8 + k / 2 * 4) Z t → partSame h3 h4 N t := fun t t0 t1 => (dn t t0 t1).2
      by_cases q : s < 4 * b + k
      · refine ⟨Cod_agr (i := 4 * b + k) (partSame_agr (by omega) w4 fun t t0 t1 => smm t t0 (by omega) fun qq => ?_) ⟨s0, s16⟩ q (cd3 s s0 q).1, VB_same (smm s s0 s16 fun qq => ?_) (cd3 s s0 q).2⟩
        · have := (inp t t0 (by omega)).mp qq
          omega
        · have := (inp s s0 s16).mp qq
          omega
      · have hin := (inp s s0 s16).mpr ⟨by omega, s1⟩
        have hs4 : ∃ j, (0 ≤ j ∧ j < 4) ∧ s = 4 * b + j := ⟨s - 4 * b, by split at s1 <;> omega, by omega⟩
        obtain ⟨j, hj, ej⟩ := hs4
        obtain ⟨g5, g6, g7, g8⟩ := geo j hj.1 hj.2
        refine ⟨?_, VB_done y5 ((dn s s0 s16).1 hin)⟩
        refine partDone_cod y5 rfl ⟨s0, s16⟩ li hin (by rw [w4, ej]; exact z3 j hj.1 hj.2) ?_ smm ((dn s s0 s16).1 hin)
        rw [ej, g7, g8, hZe, show 8 * (b % 2) = b % 2 * 8 by omega, show 8 * (b / 2) = b / 2 * 8 by omega]
    -- the parts of the block
    have wZ : wr Z = Z := wr_id (by omega) (by omega)
    have blk := fun (u : Int) (hu : 0 ≤ u ∧ u ≤ 4) (h3 : am_H) (kk : K10 h3 M) => b_X12_codesParts_87 (a0 := M) (a1 := W) (x2 := b) (x3 := b % 2 * 8) (x4 := b / 2 * 8) (h := h3) wZ (wr_id (z := u) (by omega) (by omega)) kk
    by_cases cz : Z = 8
    · have b0' := blk 0 (by omega) h2 (Mx_fr y0 frB hS (by omega) xA).1
      rw [show (if ¬ Z = 8 then (4 : Int) else 1) = 1 by rw [if_neg (fun q => q cz)], if_neg (by omega), show Int.tmod (0 : Int) 2 = 0 % 2 by decide, show Int.tdiv (0 : Int) 2 = 0 / 2 by decide] at b0'
      obtain ⟨h4, e4, fr4, lb4, hp4, cd4, z4⟩ := part 0 h2 _ _ (by omega) (by omega) (fun _ => rfl) frB (by rw [md_Z m2 (by omega)]; exact lb') (by rw [md_Z m2 (by omega)]; exact hp') (fun s s0 s1 => cd2 s s0 (by omega)) d1
      rw [e4, cl_n, b_X12_codesParts_127] at b0'
      have b1' := blk (0 + 1) (by omega) h4 (Mx_fr y0 fr4 hS (by omega) xA).1
      rw [show (if ¬ Z = 8 then (4 : Int) else 1) = 1 by rw [if_neg (fun q => q cz)], if_pos (by omega)] at b1'
      have sd : side Z = 2 := by rw [cz]; decide
      rw [sd] at fr4
      refine ⟨((_, _), (_, _)), h4, st.trans (e2.trans (b0'.trans b1')), by omega, Fr_mono fr4 (fun _ _ _ q => q) (by omega) (by omega), lb4, hp4, fun s s0 s1 => cd4 s s0 (by rw [if_neg (by omega)]; omega)⟩
    · have c4 : Z = 4 := by omega
      have sd : side Z = 1 := by rw [c4]; decide
      have := lp (m := m_X12_codesParts) (pc := 87) (L := fun k (_ : Unit) => [.ref M, .ref W, .int (mI b), .int (mI (b % 2 * 8)), .int (mI (b / 2 * 8)), .int (mI Z), .int (mI k)]) (N := 4) (P := fun r => ∃ (s' : (Value × Value) × (Value × Value)) (h'' : am_H), r = rn m_X12_codesParts 7 [.ref M, .ref W, .int (mI (b + 1)), s'.1.1, s'.1.2, s'.2.1, s'.2.2] [] h'' ∧ 0 ≤ b + 1 ∧ I (4 * (b + 1)) h'') (fun k _ h3 => 0 ≤ k ∧ I (4 * b + k) h3 ∧ ∀ k, 0 ≤ k → k < 4 → gZ h3 W (rs (4 * b + k)) = Z) ?_ ?_ 0 () h2 (by omega) ⟨by omega, by rw [Int.add_zero]; exact ⟨frB, by rw [md_Z m2 (by omega)]; exact lb', by rw [md_Z m2 (by omega)]; exact hp', cd2⟩, d1⟩
      · obtain ⟨s', h'', e3, r3⟩ := this
        exact ⟨s', h'', st.trans (e2.trans e3), r3⟩
      · intro k _ h3 hk ⟨k0, ⟨fr3, lb3, hp3, cd3⟩, z3⟩
        have b0' := blk k (by omega) h3 (Mx_fr y0 fr3 hS (by omega) xA).1
        rw [show (if ¬ Z = 8 then (4 : Int) else 1) = 4 by rw [if_pos cz], if_neg (by omega), tmd k0, tdv k0] at b0'
        obtain ⟨h4, e4, fr4, lb4, hp4, cd4, z4⟩ := part k h3 _ _ k0 hk (fun q => absurd q cz) fr3 lb3 hp3 cd3 z3
        rw [e4, cl_n, b_X12_codesParts_127] at b0'
        rw [sd] at fr4
        refine ⟨(), h4, b0', by omega, ⟨Fr_mono fr4 (fun _ _ _ q => q) (by omega) (by omega), lb4, hp4, fun s s0 s1 => cd4 s s0 (by rw [if_pos c4]; omega)⟩, z4⟩
      · intro _ h3 ⟨k0, ⟨fr3, lb3, hp3, cd3⟩, z3⟩
        have b1' := blk 4 (by omega) h3 (Mx_fr y0 fr3 hS (by omega) xA).1
        rw [show (if ¬ Z = 8 then (4 : Int) else 1) = 4 by rw [if_pos cz], if_pos (by omega)] at b1'
        exact ⟨((_, _), (_, _)), h3, b1', by omega, by rw [show 4 * (b + 1) = 4 * b + 4 by omega]; exact ⟨fr3, lb3, hp3, cd3⟩⟩
  · intro z h' ⟨b0, hi⟩
    obtain ⟨⟨z1, z2⟩, z3, z4⟩ := z
    have x' := xI _ _ hi
    obtain ⟨fr, lb', hp', cd⟩ := hi
    have st := b_X12_codesParts_7 (a0 := M) (a1 := W) (v3 := z1) (v4 := z2) (v5 := z3) (v6 := z4) (h := h') (wr_id (z := 4) (by omega) (by omega)) x'.1
    rw [if_pos (by omega)] at st
    refine ⟨h', st, Fr_mono (Fr_tr (U := SPa N) frA fr (fun _ _ _ q => q.elim) (fun a k ha q => q.elim id fun e => absurd e (by omega))) (fun _ _ _ q => q) (by decide) (by decide), by have := fr.1.nx; omega, (fr.1.sh1 (by omega)).trans sW, (fr.1.gn1 (by omega)).trans nW, lb', hp', cd⟩
theorem i_X12_meets_0 : am_i m_X12_meets 0 = some (0, .aload_n 0, 1, [], 0) := rfl
theorem i_X12_meets_1 : am_i m_X12_meets 1 = some (1, .iload_n 2, 1, [], 0) := rfl
theorem i_X12_meets_2 : am_i m_X12_meets 2 = some (2, .iaload, 1, [], 0) := rfl
theorem i_X12_meets_3 : am_i m_X12_meets 3 = some (3, .aload_n 0, 1, [], 0) := rfl
theorem i_X12_meets_4 : am_i m_X12_meets 4 = some (4, .iload_n 1, 1, [], 0) := rfl
theorem i_X12_meets_5 : am_i m_X12_meets 5 = some (5, .iaload, 1, [], 0) := rfl
theorem i_X12_meets_6 : am_i m_X12_meets 6 = some (6, .isub, 1, [], 0) := rfl
theorem i_X12_meets_7 : am_i m_X12_meets 7 = some (7, .istore 4, 2, [], 0) := rfl
theorem i_X12_meets_9 : am_i m_X12_meets 9 = some (9, .iload 4, 2, [], 0) := rfl
theorem i_X12_meets_11 : am_i m_X12_meets 11 = some (11, .invokestatic 175, 3, [0, 0], 0) := rfl
theorem i_X12_meets_14 : am_i m_X12_meets 14 = some (14, .iload_n 3, 1, [], 0) := rfl
theorem i_X12_meets_15 : am_i m_X12_meets 15 = some (15, .iconst 2, 1, [], 2) := rfl
theorem i_X12_meets_16 : am_i m_X12_meets 16 = some (16, .iadd, 1, [], 0) := rfl
theorem i_X12_meets_17 : am_i m_X12_meets 17 = some (17, .if_icmp .ge 23, 3, [], 0) := rfl
theorem i_X12_meets_20 : am_i m_X12_meets 20 = some (20, .aload_n 0, 1, [], 0) := rfl
theorem i_X12_meets_21 : am_i m_X12_meets 21 = some (21, .iload_n 1, 1, [], 0) := rfl
theorem i_X12_meets_22 : am_i m_X12_meets 22 = some (22, .dup2, 1, [], 0) := rfl
theorem i_X12_meets_23 : am_i m_X12_meets 23 = some (23, .iaload, 1, [], 0) := rfl
theorem i_X12_meets_24 : am_i m_X12_meets 24 = some (24, .iload 4, 2, [], 0) := rfl
theorem i_X12_meets_26 : am_i m_X12_meets 26 = some (26, .iconst 4, 1, [], 4) := rfl
theorem i_X12_meets_27 : am_i m_X12_meets 27 = some (27, .idiv, 1, [], 0) := rfl
theorem i_X12_meets_28 : am_i m_X12_meets 28 = some (28, .iadd, 1, [], 0) := rfl
theorem i_X12_meets_29 : am_i m_X12_meets 29 = some (29, .iastore, 1, [], 0) := rfl
theorem i_X12_meets_30 : am_i m_X12_meets 30 = some (30, .aload_n 0, 1, [], 0) := rfl
theorem i_X12_meets_31 : am_i m_X12_meets 31 = some (31, .iload_n 2, 1, [], 0) := rfl
theorem i_X12_meets_32 : am_i m_X12_meets 32 = some (32, .dup2, 1, [], 0) := rfl
theorem i_X12_meets_33 : am_i m_X12_meets 33 = some (33, .iaload, 1, [], 0) := rfl
theorem i_X12_meets_34 : am_i m_X12_meets 34 = some (34, .iload 4, 2, [], 0) := rfl
theorem i_X12_meets_36 : am_i m_X12_meets 36 = some (36, .iconst 4, 1, [], 4) := rfl
theorem i_X12_meets_37 : am_i m_X12_meets 37 = some (37, .idiv, 1, [], 0) := rfl
theorem i_X12_meets_38 : am_i m_X12_meets 38 = some (38, .isub, 1, [], 0) := rfl
theorem i_X12_meets_39 : am_i m_X12_meets 39 = some (39, .iastore, 1, [], 0) := rfl
theorem i_X12_meets_40 : am_i m_X12_meets 40 = some (40, .return_, 1, [], 0) := rfl
theorem b_X12_meets_0 {a0 n_a0 : Nat} {x1 x2 x3 x1' x2' : Int} {h : am_H} (w1 : wr x1 = x1') (w2 : wr x2 = x2') (n1 : gn h a0 = n_a0) (s2 : sh h a0 = (1, 0)) (g3 : 0 ≤ x2' ∧ x2' < (n_a0 : Int)) (g4 : 0 ≤ x1' ∧ x1' < (n_a0 : Int)) : rn m_X12_meets 0 [.ref a0, .int (mI x1), .int (mI x2), .int (mI x3), am_J] [] h = if (wr (x3 + 2)) ≤ (wr (max (wr ((gZ h a0 x2') - (gZ h a0 x1'))) (-(wr ((gZ h a0 x2') - (gZ h a0 x1')))))) then some (.inl none, h) else some (.inl none, uZ (uZ h a0 x1' ((gZ h a0 x1') + (Int.tdiv (wr ((gZ h a0 x2') - (gZ h a0 x1'))) 4))) a0 x2' ((gZ (uZ h a0 x1' ((gZ h a0 x1') + (Int.tdiv (wr ((gZ h a0 x2') - (gZ h a0 x1'))) 4))) a0 x2') - (Int.tdiv (wr ((gZ h a0 x2') - (gZ h a0 x1'))) 4))) := by
  refine (tq_aload_n i_X12_meets_0 rfl (isA_ref _) rfl).trans ?_
  refine (tq_iload_n i_X12_meets_1 rfl rfl).trans ?_
  refine (tq_iaload i_X12_meets_2 s2 (by decide) w2 g3.1 (lt_gn n1 g3.2) rfl).trans ?_
  refine (tq_aload_n i_X12_meets_3 rfl (isA_ref _) rfl).trans ?_
  refine (tq_iload_n i_X12_meets_4 rfl rfl).trans ?_
  refine (tq_iaload i_X12_meets_5 s2 (by decide) w1 g4.1 (lt_gn n1 g4.2) rfl).trans ?_
  refine (tq_isub i_X12_meets_6 rfl).trans ?_
  refine (tq_istore (L' := [.ref a0, .int (mI x1), .int (mI x2), .int (mI x3), .int (mI ((gZ h a0 x2') - (gZ h a0 x1')))]) i_X12_meets_7 rfl rfl).trans ?_
  refine (tq_iload i_X12_meets_9 rfl rfl).trans ?_
  refine (tq_abs i_X12_meets_11 rfl (Nat.le_of_ble_eq_true rfl) rfl).trans ?_
  refine (tq_iload_n i_X12_meets_14 rfl rfl).trans ?_
  refine (tq_iconst i_X12_meets_15 rfl).trans ?_
  refine (tq_iadd i_X12_meets_16 rfl).trans ?_
  refine (tq_icmp_ge (pt := 40) i_X12_meets_17 rfl rfl (by decide) rfl).trans ?_
  refine ite_congr rfl (fun c1 => ?_) (fun c1 => ?_)
  · exact tq_return i_X12_meets_40 r_X12_meets
  · refine (tq_aload_n i_X12_meets_20 rfl (isA_ref _) rfl).trans ?_
    refine (tq_iload_n i_X12_meets_21 rfl rfl).trans ?_
    refine (tq_dup2 i_X12_meets_22 rfl rfl rfl).trans ?_
    refine (tq_iaload i_X12_meets_23 s2 (by decide) w1 g4.1 (lt_gn n1 g4.2) rfl).trans ?_
    refine (tq_iload i_X12_meets_24 rfl rfl).trans ?_
    refine (tq_iconst i_X12_meets_26 rfl).trans ?_
    refine (tq_idiv i_X12_meets_27 rfl w_4 (by decide) rfl).trans ?_
    refine (tq_iadd i_X12_meets_28 rfl).trans ?_
    refine (tq_iastore i_X12_meets_29 s2 w1 g4.1 (lt_gn n1 g4.2) rfl).trans ?_
    refine (tq_aload_n i_X12_meets_30 rfl (isA_ref _) rfl).trans ?_
    refine (tq_iload_n i_X12_meets_31 rfl rfl).trans ?_
    refine (tq_dup2 i_X12_meets_32 rfl rfl rfl).trans ?_
    refine (tq_iaload i_X12_meets_33 ((sh_uZ _ _ _ _ _).trans s2) (by decide) w2 g3.1 (lt_gn ((gn_uZ _ _ _ _ _).trans n1) g3.2) rfl).trans ?_
    refine (tq_iload i_X12_meets_34 rfl rfl).trans ?_
    refine (tq_iconst i_X12_meets_36 rfl).trans ?_
    refine (tq_idiv i_X12_meets_37 rfl w_4 (by decide) rfl).trans ?_
    refine (tq_isub i_X12_meets_38 rfl).trans ?_
    refine (tq_iastore i_X12_meets_39 ((sh_uZ _ _ _ _ _).trans s2) w2 g3.1 (lt_gn ((gn_uZ _ _ _ _ _).trans n1) g3.2) rfl).trans ?_
    exact tq_return i_X12_meets_40 r_X12_meets
theorem meets_ok {h : am_H} {a n : Nat} {q o t : Int} (s : sh h a = (1, 0)) (n1 : gn h a = n) (hn : 256 ≤ (n : Int)) (hp : pixels (gZ h a)) (hq : 1 ≤ q ∧ q ≤ 40) (ho : 0 ≤ o ∧ o < 256) (ht : 0 ≤ t ∧ t < 256) (ne : o ≠ t) : ∃ h', rn m_X12_meets 0 [.ref a, .int (mI o), .int (mI t), .int (mI q), am_J] [] h = some (.inl none, h') ∧ Md (fun c _ => c = a) h h' ∧ gZ h' a = sp q o t (gZ h a) := by
  have h1 := hp o ho.1 ho.2
  have h2 := hp t ht.1 ht.2
  have st := b_X12_meets_0 (a0 := a) (n_a0 := n) (x1 := o) (x2 := t) (x3 := q) (h := h) (wr_id (z := o) (by omega) (by omega)) (wr_id (z := t) (by omega) (by omega)) n1 s (by omega) (by omega)
  rw [wr_id (z := q + 2) (by omega) (by omega), wr_id (z := gZ h a t - gZ h a o) (by omega) (by omega), wr_id (z := max (gZ h a t - gZ h a o) (-(gZ h a t - gZ h a o))) (by omega) (by omega), gZ_uZ_nj _ (sh1 s) (fun q => ne q.symm)] at st
  unfold sp iabs
  by_cases c : max (gZ h a o - gZ h a t) (-(gZ h a o - gZ h a t)) < q + 2
  · rw [if_neg (by omega)] at st
    refine ⟨_, st, Md_tr (Md_uZ _ _ _ _) (Md_uZ _ _ _ _), ?_⟩
    rw [if_pos c]
    funext i
    have e := td4 (gZ h a t - gZ h a o)
    rw [gZ_uZ' (by rw [sh_uZ]; exact sh1 s), gZ_uZ' (sh1 s), wr_id (by split at e <;> omega) (by split at e <;> omega), wr_id (by split at e <;> omega) (by split at e <;> omega)]
  · rw [if_pos (by omega)] at st
    exact ⟨h, st, Md_rf _ _, by rw [if_neg c]⟩
theorem i_X12_smooths_0 : am_i m_X12_smooths 0 = some (0, .iload_n 2, 1, [], 0) := rfl
theorem i_X12_smooths_1 : am_i m_X12_smooths 1 = some (1, .iconst 2, 1, [], 2) := rfl
theorem i_X12_smooths_2 : am_i m_X12_smooths 2 = some (2, .iand, 1, [], 0) := rfl
theorem i_X12_smooths_3 : am_i m_X12_smooths 3 = some (3, .ifCond .ne 4, 3, [], 0) := rfl
theorem i_X12_smooths_6 : am_i m_X12_smooths 6 = some (6, .return_, 1, [], 0) := rfl
theorem i_X12_smooths_7 : am_i m_X12_smooths 7 = some (7, .iconst 4, 1, [], 4) := rfl
theorem i_X12_smooths_8 : am_i m_X12_smooths 8 = some (8, .istore 4, 2, [], 0) := rfl
theorem b_X12_smooths_0 {a0 : Nat} {x1 x2 x3 : Int} {h : am_H} : rn m_X12_smooths 0 [.ref a0, .int (mI x1), .int (mI x2), .int (mI x3), am_J, am_J] [] h = if ¬ (zand x2 2) = 0 then rn m_X12_smooths 10 [.ref a0, .int (mI x1), .int (mI x2), .int (mI x3), .int (mI 4), am_J] [] h else some (.inl none, h) := by
  refine (tq_iload_n i_X12_smooths_0 rfl rfl).trans ?_
  refine (tq_iconst i_X12_smooths_1 rfl).trans ?_
  refine (tq_iand i_X12_smooths_2 rfl).trans ?_
  refine (tq_if_ne (pt := 7) i_X12_smooths_3 (wr_zand _ _) (by decide) rfl).trans ?_
  refine ite_congr rfl (fun c1 => ?_) (fun c1 => ?_)
  · refine (tq_iconst i_X12_smooths_7 rfl).trans ?_
    refine (tq_istore (L' := [.ref a0, .int (mI x1), .int (mI x2), .int (mI x3), .int (mI 4), am_J]) i_X12_smooths_8 rfl rfl).trans ?_
    rfl
  · exact tq_return i_X12_smooths_6 r_X12_smooths
theorem i_X12_smooths_10 : am_i m_X12_smooths 10 = some (10, .iload 4, 2, [], 0) := rfl
theorem i_X12_smooths_12 : am_i m_X12_smooths 12 = some (12, .bipush 16, 2, [], 16) := rfl
theorem i_X12_smooths_14 : am_i m_X12_smooths 14 = some (14, .if_icmp .ge 48, 3, [], 0) := rfl
theorem i_X12_smooths_17 : am_i m_X12_smooths 17 = some (17, .iconst 0, 1, [], 0) := rfl
theorem i_X12_smooths_18 : am_i m_X12_smooths 18 = some (18, .istore 5, 2, [], 0) := rfl
theorem i_X12_smooths_62 : am_i m_X12_smooths 62 = some (62, .iconst 4, 1, [], 4) := rfl
theorem i_X12_smooths_63 : am_i m_X12_smooths 63 = some (63, .istore 4, 2, [], 0) := rfl
theorem b_X12_smooths_10 {a0 : Nat} {x1 x3 x4 x4' : Int} {v2 v5 : Value} {h : am_H} (w4 : wr x4 = x4') : rn m_X12_smooths 10 [.ref a0, .int (mI x1), v2, .int (mI x3), .int (mI x4), v5] [] h = if 16 ≤ x4' then rn m_X12_smooths 65 [.ref a0, .int (mI x1), v2, .int (mI x3), .int (mI 4), v5] [] h else rn m_X12_smooths 20 [.ref a0, .int (mI x1), v2, .int (mI x3), .int (mI x4), .int (mI 0)] [] h := by
  refine (tq_iload i_X12_smooths_10 rfl rfl).trans ?_
  refine (tq_bipush i_X12_smooths_12 rfl).trans ?_
  refine (tq_icmp_ge (pt := 62) i_X12_smooths_14 w4 w_16 (by decide) rfl).trans ?_
  refine ite_congr rfl (fun c1 => ?_) (fun c1 => ?_)
  · refine (tq_iconst i_X12_smooths_62 rfl).trans ?_
    refine (tq_istore (L' := [.ref a0, .int (mI x1), v2, .int (mI x3), .int (mI 4), v5]) i_X12_smooths_63 rfl rfl).trans ?_
    rfl
  · refine (tq_iconst i_X12_smooths_17 rfl).trans ?_
    refine (tq_istore (L' := [.ref a0, .int (mI x1), v2, .int (mI x3), .int (mI x4), .int (mI 0)]) i_X12_smooths_18 rfl rfl).trans ?_
    rfl
theorem i_X12_smooths_20 : am_i m_X12_smooths 20 = some (20, .iload 5, 2, [], 0) := rfl
theorem i_X12_smooths_22 : am_i m_X12_smooths 22 = some (22, .bipush 16, 2, [], 16) := rfl
theorem i_X12_smooths_24 : am_i m_X12_smooths 24 = some (24, .if_icmp .ge 32, 3, [], 0) := rfl
theorem i_X12_smooths_27 : am_i m_X12_smooths 27 = some (27, .aload_n 0, 1, [], 0) := rfl
theorem i_X12_smooths_28 : am_i m_X12_smooths 28 = some (28, .bipush 16, 2, [], 16) := rfl
theorem i_X12_smooths_30 : am_i m_X12_smooths 30 = some (30, .iload 5, 2, [], 0) := rfl
theorem i_X12_smooths_32 : am_i m_X12_smooths 32 = some (32, .imul, 1, [], 0) := rfl
theorem i_X12_smooths_33 : am_i m_X12_smooths 33 = some (33, .iload 4, 2, [], 0) := rfl
theorem i_X12_smooths_35 : am_i m_X12_smooths 35 = some (35, .iadd, 1, [], 0) := rfl
theorem i_X12_smooths_36 : am_i m_X12_smooths 36 = some (36, .iconst 1, 1, [], 1) := rfl
theorem i_X12_smooths_37 : am_i m_X12_smooths 37 = some (37, .isub, 1, [], 0) := rfl
theorem i_X12_smooths_38 : am_i m_X12_smooths 38 = some (38, .bipush 16, 2, [], 16) := rfl
theorem i_X12_smooths_40 : am_i m_X12_smooths 40 = some (40, .iload 5, 2, [], 0) := rfl
theorem i_X12_smooths_42 : am_i m_X12_smooths 42 = some (42, .imul, 1, [], 0) := rfl
theorem i_X12_smooths_43 : am_i m_X12_smooths 43 = some (43, .iload 4, 2, [], 0) := rfl
theorem i_X12_smooths_45 : am_i m_X12_smooths 45 = some (45, .iadd, 1, [], 0) := rfl
theorem i_X12_smooths_46 : am_i m_X12_smooths 46 = some (46, .iload_n 1, 1, [], 0) := rfl
theorem i_X12_smooths_47 : am_i m_X12_smooths 47 = some (47, .invokestatic 216, 3, [86], 0) := rfl
theorem i_X12_smooths_56 : am_i m_X12_smooths 56 = some (56, .iinc 4 4, 3, [], 0) := rfl
theorem i_X12_smooths_59 : am_i m_X12_smooths 59 = some (59, .goto (-49), 3, [], 0) := rfl
theorem b_X12_smooths_20 {a0 : Nat} {x1 x3 x4 x5 x5' : Int} {v2 : Value} {h : am_H} (w5 : wr x5 = x5') : rn m_X12_smooths 20 [.ref a0, .int (mI x1), v2, .int (mI x3), .int (mI x4), .int (mI x5)] [] h = if 16 ≤ x5' then rn m_X12_smooths 10 [.ref a0, .int (mI x1), v2, .int (mI x3), .int (mI (x4 + 4)), .int (mI x5)] [] h else cl m_X12_smooths 50 [.ref a0, .int (mI x1), v2, .int (mI x3), .int (mI x4), .int (mI x5)] [] (rn m_X12_meets 0 [.ref a0, .int (mI (((16 * x5) + x4) - 1)), .int (mI ((16 * x5) + x4)), .int (mI x1), am_J] [] h) := by
  refine (tq_iload i_X12_smooths_20 rfl rfl).trans ?_
  refine (tq_bipush i_X12_smooths_22 rfl).trans ?_
  refine (tq_icmp_ge (pt := 56) i_X12_smooths_24 w5 w_16 (by decide) rfl).trans ?_
  refine ite_congr rfl (fun c1 => ?_) (fun c1 => ?_)
  · refine (tq_iinc (L' := [.ref a0, .int (mI x1), v2, .int (mI x3), .int (mI (x4 + 4)), .int (mI x5)]) i_X12_smooths_56 rfl rfl rfl).trans ?_
    refine (tq_goto (pc' := 10) i_X12_smooths_59 (by decide)).trans ?_
    rfl
  · refine (tq_aload_n i_X12_smooths_27 rfl (isA_ref _) rfl).trans ?_
    refine (tq_bipush i_X12_smooths_28 rfl).trans ?_
    refine (tq_iload i_X12_smooths_30 rfl rfl).trans ?_
    refine (tq_imul i_X12_smooths_32 rfl).trans ?_
    refine (tq_iload i_X12_smooths_33 rfl rfl).trans ?_
    refine (tq_iadd i_X12_smooths_35 rfl).trans ?_
    refine (tq_iconst i_X12_smooths_36 rfl).trans ?_
    refine (tq_isub i_X12_smooths_37 rfl).trans ?_
    refine (tq_bipush i_X12_smooths_38 rfl).trans ?_
    refine (tq_iload i_X12_smooths_40 rfl rfl).trans ?_
    refine (tq_imul i_X12_smooths_42 rfl).trans ?_
    refine (tq_iload i_X12_smooths_43 rfl rfl).trans ?_
    refine (tq_iadd i_X12_smooths_45 rfl).trans ?_
    refine (tq_iload_n i_X12_smooths_46 rfl rfl).trans ?_
    exact c_X12_meets i_X12_smooths_47 (ltd d_X12_smooths (by decide)) (isA_ref _) stOk_0 rfl
theorem i_X12_smooths_50 : am_i m_X12_smooths 50 = some (50, .iinc 5 1, 3, [], 0) := rfl
theorem i_X12_smooths_53 : am_i m_X12_smooths 53 = some (53, .goto (-33), 3, [], 0) := rfl
theorem b_X12_smooths_50 {a0 : Nat} {x1 x3 x4 x5 : Int} {v2 : Value} {h : am_H} : rn m_X12_smooths 50 [.ref a0, .int (mI x1), v2, .int (mI x3), .int (mI x4), .int (mI x5)] [] h = rn m_X12_smooths 20 [.ref a0, .int (mI x1), v2, .int (mI x3), .int (mI x4), .int (mI (x5 + 1))] [] h := by
  refine (tq_iinc (L' := [.ref a0, .int (mI x1), v2, .int (mI x3), .int (mI x4), .int (mI (x5 + 1))]) i_X12_smooths_50 rfl rfl rfl).trans ?_
  refine (tq_goto (pc' := 20) i_X12_smooths_53 (by decide)).trans ?_
  rfl
theorem i_X12_smooths_65 : am_i m_X12_smooths 65 = some (65, .iload 4, 2, [], 0) := rfl
theorem i_X12_smooths_67 : am_i m_X12_smooths 67 = some (67, .bipush 16, 2, [], 16) := rfl
theorem i_X12_smooths_69 : am_i m_X12_smooths 69 = some (69, .if_icmp .ge 60, 3, [], 0) := rfl
theorem i_X12_smooths_72 : am_i m_X12_smooths 72 = some (72, .iconst 0, 1, [], 0) := rfl
theorem i_X12_smooths_73 : am_i m_X12_smooths 73 = some (73, .istore 5, 2, [], 0) := rfl
theorem i_X12_smooths_129 : am_i m_X12_smooths 129 = some (129, .return_, 1, [], 0) := rfl
theorem b_X12_smooths_65 {a0 : Nat} {x1 x3 x4 x4' : Int} {v2 v5 : Value} {h : am_H} (w4 : wr x4 = x4') : rn m_X12_smooths 65 [.ref a0, .int (mI x1), v2, .int (mI x3), .int (mI x4), v5] [] h = if 16 ≤ x4' then some (.inl none, h) else rn m_X12_smooths 75 [.ref a0, .int (mI x1), v2, .int (mI x3), .int (mI x4), .int (mI 0)] [] h := by
  refine (tq_iload i_X12_smooths_65 rfl rfl).trans ?_
  refine (tq_bipush i_X12_smooths_67 rfl).trans ?_
  refine (tq_icmp_ge (pt := 129) i_X12_smooths_69 w4 w_16 (by decide) rfl).trans ?_
  refine ite_congr rfl (fun c1 => ?_) (fun c1 => ?_)
  · exact tq_return i_X12_smooths_129 r_X12_smooths
  · refine (tq_iconst i_X12_smooths_72 rfl).trans ?_
    refine (tq_istore (L' := [.ref a0, .int (mI x1), v2, .int (mI x3), .int (mI x4), .int (mI 0)]) i_X12_smooths_73 rfl rfl).trans ?_
    rfl
theorem i_X12_smooths_75 : am_i m_X12_smooths 75 = some (75, .iload 5, 2, [], 0) := rfl
theorem i_X12_smooths_77 : am_i m_X12_smooths 77 = some (77, .bipush 16, 2, [], 16) := rfl
theorem i_X12_smooths_79 : am_i m_X12_smooths 79 = some (79, .if_icmp .ge 44, 3, [], 0) := rfl
theorem i_X12_smooths_82 : am_i m_X12_smooths 82 = some (82, .iload 4, 2, [], 0) := rfl
theorem i_X12_smooths_84 : am_i m_X12_smooths 84 = some (84, .bipush 8, 2, [], 8) := rfl
theorem i_X12_smooths_86 : am_i m_X12_smooths 86 = some (86, .if_icmp .ne 8, 3, [], 0) := rfl
theorem i_X12_smooths_89 : am_i m_X12_smooths 89 = some (89, .iload_n 3, 1, [], 0) := rfl
theorem i_X12_smooths_90 : am_i m_X12_smooths 90 = some (90, .iconst 1, 1, [], 1) := rfl
theorem i_X12_smooths_91 : am_i m_X12_smooths 91 = some (91, .if_icmp .ne 32, 3, [], 0) := rfl
theorem i_X12_smooths_94 : am_i m_X12_smooths 94 = some (94, .aload_n 0, 1, [], 0) := rfl
theorem i_X12_smooths_95 : am_i m_X12_smooths 95 = some (95, .bipush 16, 2, [], 16) := rfl
theorem i_X12_smooths_97 : am_i m_X12_smooths 97 = some (97, .iload 4, 2, [], 0) := rfl
theorem i_X12_smooths_99 : am_i m_X12_smooths 99 = some (99, .iconst 1, 1, [], 1) := rfl
theorem i_X12_smooths_100 : am_i m_X12_smooths 100 = some (100, .isub, 1, [], 0) := rfl
theorem i_X12_smooths_101 : am_i m_X12_smooths 101 = some (101, .imul, 1, [], 0) := rfl
theorem i_X12_smooths_102 : am_i m_X12_smooths 102 = some (102, .iload 5, 2, [], 0) := rfl
theorem i_X12_smooths_104 : am_i m_X12_smooths 104 = some (104, .iadd, 1, [], 0) := rfl
theorem i_X12_smooths_105 : am_i m_X12_smooths 105 = some (105, .bipush 16, 2, [], 16) := rfl
theorem i_X12_smooths_107 : am_i m_X12_smooths 107 = some (107, .iload 4, 2, [], 0) := rfl
theorem i_X12_smooths_109 : am_i m_X12_smooths 109 = some (109, .imul, 1, [], 0) := rfl
theorem i_X12_smooths_110 : am_i m_X12_smooths 110 = some (110, .iload 5, 2, [], 0) := rfl
theorem i_X12_smooths_112 : am_i m_X12_smooths 112 = some (112, .iadd, 1, [], 0) := rfl
theorem i_X12_smooths_113 : am_i m_X12_smooths 113 = some (113, .iload_n 1, 1, [], 0) := rfl
theorem i_X12_smooths_114 : am_i m_X12_smooths 114 = some (114, .invokestatic 216, 3, [86], 0) := rfl
theorem i_X12_smooths_123 : am_i m_X12_smooths 123 = some (123, .iinc 4 4, 3, [], 0) := rfl
theorem i_X12_smooths_126 : am_i m_X12_smooths 126 = some (126, .goto (-61), 3, [], 0) := rfl
theorem b_X12_smooths_75 {a0 : Nat} {x1 x3 x4 x5 x3' x4' x5' : Int} {v2 : Value} {h : am_H} (w3 : wr x3 = x3') (w4 : wr x4 = x4') (w5 : wr x5 = x5') : rn m_X12_smooths 75 [.ref a0, .int (mI x1), v2, .int (mI x3), .int (mI x4), .int (mI x5)] [] h = if 16 ≤ x5' then rn m_X12_smooths 65 [.ref a0, .int (mI x1), v2, .int (mI x3), .int (mI (x4 + 4)), .int (mI x5)] [] h else if ¬ x4' = 8 then cl m_X12_smooths 117 [.ref a0, .int (mI x1), v2, .int (mI x3), .int (mI x4), .int (mI x5)] [] (rn m_X12_meets 0 [.ref a0, .int (mI ((16 * (x4 - 1)) + x5)), .int (mI ((16 * x4) + x5)), .int (mI x1), am_J] [] h) else if ¬ x3' = 1 then rn m_X12_smooths 65 [.ref a0, .int (mI x1), v2, .int (mI x3), .int (mI (x4 + 4)), .int (mI x5)] [] h else cl m_X12_smooths 117 [.ref a0, .int (mI x1), v2, .int (mI x3), .int (mI x4), .int (mI x5)] [] (rn m_X12_meets 0 [.ref a0, .int (mI ((16 * (x4 - 1)) + x5)), .int (mI ((16 * x4) + x5)), .int (mI x1), am_J] [] h) := by
  refine (tq_iload i_X12_smooths_75 rfl rfl).trans ?_
  refine (tq_bipush i_X12_smooths_77 rfl).trans ?_
  refine (tq_icmp_ge (pt := 123) i_X12_smooths_79 w5 w_16 (by decide) rfl).trans ?_
  refine ite_congr rfl (fun c1 => ?_) (fun c1 => ?_)
  · refine (tq_iinc (L' := [.ref a0, .int (mI x1), v2, .int (mI x3), .int (mI (x4 + 4)), .int (mI x5)]) i_X12_smooths_123 rfl rfl rfl).trans ?_
    refine (tq_goto (pc' := 65) i_X12_smooths_126 (by decide)).trans ?_
    rfl
  · refine (tq_iload i_X12_smooths_82 rfl rfl).trans ?_
    refine (tq_bipush i_X12_smooths_84 rfl).trans ?_
    refine (tq_icmp_ne (pt := 94) i_X12_smooths_86 w4 w_8 (by decide) rfl).trans ?_
    refine ite_congr rfl (fun c2 => ?_) (fun c2 => ?_)
    · refine (tq_aload_n i_X12_smooths_94 rfl (isA_ref _) rfl).trans ?_
      refine (tq_bipush i_X12_smooths_95 rfl).trans ?_
      refine (tq_iload i_X12_smooths_97 rfl rfl).trans ?_
      refine (tq_iconst i_X12_smooths_99 rfl).trans ?_
      refine (tq_isub i_X12_smooths_100 rfl).trans ?_
      refine (tq_imul i_X12_smooths_101 rfl).trans ?_
      refine (tq_iload i_X12_smooths_102 rfl rfl).trans ?_
      refine (tq_iadd i_X12_smooths_104 rfl).trans ?_
      refine (tq_bipush i_X12_smooths_105 rfl).trans ?_
      refine (tq_iload i_X12_smooths_107 rfl rfl).trans ?_
      refine (tq_imul i_X12_smooths_109 rfl).trans ?_
      refine (tq_iload i_X12_smooths_110 rfl rfl).trans ?_
      refine (tq_iadd i_X12_smooths_112 rfl).trans ?_
      refine (tq_iload_n i_X12_smooths_113 rfl rfl).trans ?_
      exact c_X12_meets i_X12_smooths_114 (ltd d_X12_smooths (by decide)) (isA_ref _) stOk_0 rfl
    · refine (tq_iload_n i_X12_smooths_89 rfl rfl).trans ?_
      refine (tq_iconst i_X12_smooths_90 rfl).trans ?_
      refine (tq_icmp_ne (pt := 123) i_X12_smooths_91 w3 w_1 (by decide) rfl).trans ?_
      refine ite_congr rfl (fun c3 => ?_) (fun c3 => ?_)
      · refine (tq_iinc (L' := [.ref a0, .int (mI x1), v2, .int (mI x3), .int (mI (x4 + 4)), .int (mI x5)]) i_X12_smooths_123 rfl rfl rfl).trans ?_
        refine (tq_goto (pc' := 65) i_X12_smooths_126 (by decide)).trans ?_
        rfl
      · refine (tq_aload_n i_X12_smooths_94 rfl (isA_ref _) rfl).trans ?_
        refine (tq_bipush i_X12_smooths_95 rfl).trans ?_
        refine (tq_iload i_X12_smooths_97 rfl rfl).trans ?_
        refine (tq_iconst i_X12_smooths_99 rfl).trans ?_
        refine (tq_isub i_X12_smooths_100 rfl).trans ?_
        refine (tq_imul i_X12_smooths_101 rfl).trans ?_
        refine (tq_iload i_X12_smooths_102 rfl rfl).trans ?_
        refine (tq_iadd i_X12_smooths_104 rfl).trans ?_
        refine (tq_bipush i_X12_smooths_105 rfl).trans ?_
        refine (tq_iload i_X12_smooths_107 rfl rfl).trans ?_
        refine (tq_imul i_X12_smooths_109 rfl).trans ?_
        refine (tq_iload i_X12_smooths_110 rfl rfl).trans ?_
        refine (tq_iadd i_X12_smooths_112 rfl).trans ?_
        refine (tq_iload_n i_X12_smooths_113 rfl rfl).trans ?_
        exact c_X12_meets i_X12_smooths_114 (ltd d_X12_smooths (by decide)) (isA_ref _) stOk_0 rfl
theorem i_X12_smooths_117 : am_i m_X12_smooths 117 = some (117, .iinc 5 1, 3, [], 0) := rfl
theorem i_X12_smooths_120 : am_i m_X12_smooths 120 = some (120, .goto (-45), 3, [], 0) := rfl
theorem b_X12_smooths_117 {a0 : Nat} {x1 x3 x4 x5 : Int} {v2 : Value} {h : am_H} : rn m_X12_smooths 117 [.ref a0, .int (mI x1), v2, .int (mI x3), .int (mI x4), .int (mI x5)] [] h = rn m_X12_smooths 75 [.ref a0, .int (mI x1), v2, .int (mI x3), .int (mI x4), .int (mI (x5 + 1))] [] h := by
  refine (tq_iinc (L' := [.ref a0, .int (mI x1), v2, .int (mI x3), .int (mI x4), .int (mI (x5 + 1))]) i_X12_smooths_117 rfl rfl rfl).trans ?_
  refine (tq_goto (pc' := 75) i_X12_smooths_120 (by decide)).trans ?_
  rfl
theorem smooths_ok {h : am_H} {a n : Nat} {q tl sl : Int} (s : sh h a = (1, 0)) (n1 : gn h a = n) (hn : 256 ≤ (n : Int)) (hp : pixels (gZ h a)) (hq : 1 ≤ q ∧ q ≤ 40) (hs : sl = 1 ∨ sl = 2) : ∃ h', rn m_X12_smooths 0 [.ref a, .int (mI q), .int (mI tl), .int (mI sl), am_J, am_J] [] h = some (.inl none, h') ∧ Md (fun c _ => c = a) h h' ∧ gZ h' a = smo q tl sl (gZ h a) := by
  have fm : ∀ {h'}, Md (fun c _ => c = a) h h' → sh h' a = (1, 0) ∧ gn h' a = n := fun md => ⟨(md_sh md _).trans s, (md_gn md _).trans n1⟩
  rw [b_X12_smooths_0]
  unfold smo
  by_cases c : zand tl 2 = 0
  · rw [if_neg (fun x => x c), if_pos c]
    exact ⟨h, rfl, Md_rf _ _, rfl⟩
  · rw [if_pos c, if_neg c]
    have := lp (m := m_X12_smooths) (pc := 10) (L := fun i (x : Value) => [.ref a, .int (mI q), .int (mI tl), .int (mI sl), .int (mI (4 * (i + 1))), x]) (N := 3) (P := fun r => ∃ h', r = some (.inl none, h') ∧ Md (fun c _ => c = a) h h' ∧ gZ h' a = smH q sl 48 (smV q 48 (gZ h a))) (fun i _ h' => 0 ≤ i ∧ Md (fun c _ => c = a) h h' ∧ gZ h' a = smV q (16 * i).toNat (gZ h a)) ?_ ?_ 0 am_J h (by omega) ⟨by omega, Md_rf _ _, rfl⟩
    · exact this
    · intro i x h' hi ⟨i0, md, hz⟩
      have st := b_X12_smooths_10 (a0 := a) (x1 := q) (v2 := .int (mI tl)) (x3 := sl) (v5 := x) (h := h') (wr_id (z := 4 * (i + 1)) (by omega) (by omega))
      rw [if_neg (by omega)] at st
      have in1 := lp (m := m_X12_smooths) (pc := 20) (L := fun j (_ : Unit) => [.ref a, .int (mI q), .int (mI tl), .int (mI sl), .int (mI (4 * (i + 1))), .int (mI j)]) (N := 16) (P := fun r => ∃ (s' : Value) (h'' : am_H), r = rn m_X12_smooths 10 [.ref a, .int (mI q), .int (mI tl), .int (mI sl), .int (mI (4 * (i + 1 + 1))), s'] [] h'' ∧ 0 ≤ i + 1 ∧ Md (fun c _ => c = a) h h'' ∧ gZ h'' a = smV q (16 * (i + 1)).toNat (gZ h a)) (fun j _ h2 => 0 ≤ j ∧ Md (fun c _ => c = a) h h2 ∧ gZ h2 a = smV q (16 * i + j).toNat (gZ h a)) ?_ ?_ 0 () h' (by omega) ⟨by omega, md, by rw [Int.add_zero]; exact hz⟩
      · obtain ⟨s', h'', e, r⟩ := in1
        exact ⟨s', h'', st.trans e, r⟩
      · intro j _ h2 hj ⟨j0, md2, hz2⟩
        obtain ⟨s2, n2⟩ := fm md2
        have hp2 : pixels (gZ h2 a) := by rw [hz2]; exact smV_pix hp _ (by omega)
        obtain ⟨h3, e, m3, g3⟩ := meets_ok (q := q) (o := 16 * j + (4 * (i + 1) - 1)) (t := 16 * j + 4 * (i + 1)) s2 n2 hn hp2 hq (by omega) (by omega) (by omega)
        refine ⟨(), h3, ?_, by omega, Md_tr md2 m3, ?_⟩
        · rw [b_X12_smooths_20 (wr_id (z := j) (by omega) (by omega)), if_neg (by omega), show 16 * j + 4 * (i + 1) - 1 = 16 * j + (4 * (i + 1) - 1) by omega, e, cl_n, b_X12_smooths_50]
        · rw [g3, hz2, show (16 * i + (j + 1)).toNat = (16 * i + j).toNat + 1 by omega]
          show _ = sp q _ _ _
          rw [show (((16 * i + j).toNat % 16 : Nat) : Int) = j by omega, show (((16 * i + j).toNat / 16 : Nat) : Int) = i by omega]
      · intro _ h2 ⟨j0, md2, hz2⟩
        refine ⟨.int (mI 16), h2, ?_, by omega, md2, by rw [hz2, show 16 * (i + 1) = 16 * i + 16 by omega]⟩
        rw [b_X12_smooths_20 (wr_id (z := 16) (by omega) (by omega)), if_pos (by omega), show 4 * (i + 1) + 4 = 4 * (i + 1 + 1) by omega]
    · intro x h' ⟨i0, md, hz⟩
      have hpv : pixels (smV q 48 (gZ h a)) := smV_pix hp _ (by omega)
      rw [b_X12_smooths_10 (wr_id (z := 4 * (3 + 1)) (by omega) (by omega)), if_pos (by omega)]
      have := lp (m := m_X12_smooths) (pc := 65) (L := fun i (x : Value) => [.ref a, .int (mI q), .int (mI tl), .int (mI sl), .int (mI (4 * (i + 1))), x]) (N := 3) (P := fun r => ∃ h', r = some (.inl none, h') ∧ Md (fun c _ => c = a) h h' ∧ gZ h' a = smH q sl 48 (smV q 48 (gZ h a))) (fun i _ h' => 0 ≤ i ∧ Md (fun c _ => c = a) h h' ∧ gZ h' a = smH q sl (16 * i).toNat (smV q 48 (gZ h a))) ?_ ?_ 0 x h' (by omega) ⟨by omega, md, hz⟩
      · exact this
      · intro i x h' hi ⟨i0, md, hz⟩
        have st := b_X12_smooths_65 (a0 := a) (x1 := q) (v2 := .int (mI tl)) (x3 := sl) (v5 := x) (h := h') (wr_id (z := 4 * (i + 1)) (by omega) (by omega))
        rw [if_neg (by omega)] at st
        have bl := fun j (h2 : am_H) (hj : 0 ≤ j ∧ j ≤ 16) => b_X12_smooths_75 (a0 := a) (x1 := q) (v2 := .int (mI tl)) (h := h2) (wr_id (z := sl) (by omega) (by omega)) (wr_id (z := 4 * (i + 1)) (by omega) (by omega)) (wr_id (z := j) (by omega) (by omega))
        by_cases sk : 1 < sl ∧ i = 1
        · have b0 := bl 0 h' (by omega)
          rw [if_neg (by omega), if_neg (by omega), if_pos (by omega), show 4 * (i + 1) + 4 = 4 * (i + 1 + 1) by omega] at b0
          refine ⟨.int (mI 0), h', st.trans b0, by omega, md, ?_⟩
          rw [hz, sk.2, show ((16 : Int) * (1 + 1)).toNat = 16 + 16 by omega, smH_skip sk.1 16 (by omega)]
          rfl
        · have in1 := lp (m := m_X12_smooths) (pc := 75) (L := fun j (x : Unit) => [.ref a, .int (mI q), .int (mI tl), .int (mI sl), .int (mI (4 * (i + 1))), .int (mI j)]) (N := 16) (P := fun r => ∃ (s' : Value) (h'' : am_H), r = rn m_X12_smooths 65 [.ref a, .int (mI q), .int (mI tl), .int (mI sl), .int (mI (4 * (i + 1 + 1))), s'] [] h'' ∧ 0 ≤ i + 1 ∧ Md (fun c _ => c = a) h h'' ∧ gZ h'' a = smH q sl (16 * (i + 1)).toNat (smV q 48 (gZ h a))) (fun j _ h2 => 0 ≤ j ∧ Md (fun c _ => c = a) h h2 ∧ gZ h2 a = smH q sl (16 * i + j).toNat (smV q 48 (gZ h a))) ?_ ?_ 0 () h' (by omega) ⟨by omega, md, by rw [Int.add_zero]; exact hz⟩
          · obtain ⟨s', h'', e, r⟩ := in1
            exact ⟨s', h'', st.trans e, r⟩
          · intro j _ h2 hj ⟨j0, md2, hz2⟩
            obtain ⟨s2, n2⟩ := fm md2
            have hp2 : pixels (gZ h2 a) := by rw [hz2]; exact smH_pix hpv _ (by omega)
            obtain ⟨h3, e, m3, g3⟩ := meets_ok (q := q) (o := 16 * (4 * (i + 1) - 1) + j) (t := 16 * (4 * (i + 1)) + j) s2 n2 hn hp2 hq (by omega) (by omega) (by omega)
            refine ⟨(), h3, ?_, by omega, Md_tr md2 m3, ?_⟩
            · have b1 := bl j h2 (by omega)
              rw [if_neg (by omega)] at b1
              have e' : rn m_X12_smooths 75 [.ref a, .int (mI q), .int (mI tl), .int (mI sl), .int (mI (4 * (i + 1))), .int (mI j)] [] h2 = cl m_X12_smooths 117 [.ref a, .int (mI q), .int (mI tl), .int (mI sl), .int (mI (4 * (i + 1))), .int (mI j)] [] (rn m_X12_meets 0 [.ref a, .int (mI ((16 * (4 * (i + 1) - 1)) + j)), .int (mI ((16 * (4 * (i + 1))) + j)), .int (mI q), am_J] [] h2) := by
                by_cases c8 : i = 1
                · rw [if_neg (by omega), if_neg (by omega)] at b1
                  exact b1
                · rw [if_pos (by omega)] at b1
                  exact b1
              rw [e', e, cl_n, b_X12_smooths_117]
            · rw [g3, hz2, show (16 * i + (j + 1)).toNat = (16 * i + j).toNat + 1 by omega]
              refine Eq.trans ?_ (if_neg (c := 1 < sl ∧ (16 * i + j).toNat / 16 = 1) (by omega)).symm
              rw [show (((16 * i + j).toNat % 16 : Nat) : Int) = j by omega, show (((16 * i + j).toNat / 16 : Nat) : Int) = i by omega]
          · intro _ h2 ⟨j0, md2, hz2⟩
            have b1 := bl 16 h2 (by omega)
            rw [if_pos (by omega), show 4 * (i + 1) + 4 = 4 * (i + 1 + 1) by omega] at b1
            exact ⟨.int (mI 16), h2, b1, by omega, md2, by rw [hz2, show 16 * (i + 1) = 16 * i + 16 by omega]⟩
      · intro x h' ⟨i0, md, hz⟩
        rw [b_X12_smooths_65 (wr_id (z := 4 * (3 + 1)) (by omega) (by omega)), if_pos (by omega)]
        exact ⟨h', rfl, md, hz⟩
