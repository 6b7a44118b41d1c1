/-! ===== the model decodes a picture ===== -/
theorem stOk_7 {a b c d e f g : Value} (ha : a.category = 1) (hb : b.category = 1) (hc : c.category = 1) (hd : d.category = 1) (he : e.category = 1) (hf : f.category = 1) (hg : g.category = 1) : stOk [a, b, c, d, e, f, g] := Or.inr ⟨Nat.le_of_ble_eq_true rfl, by simp [ha, hb, hc, hd, he, hf, hg]⟩
theorem i_X12_decodes_0 : am_i m_X12_decodes 0 = some (0, .sipush 256, 3, [], 256) := rfl
theorem i_X12_decodes_3 : am_i m_X12_decodes 3 = some (3, .newarray .int, 2, [], 0) := rfl
theorem b_X12_decodes_0 {a0 : Nat} {x1 x2 : Int} {h : am_H} : rn m_X12_decodes 0 [.ref a0, .int (mI x1), .int (mI x2), am_J, am_J, am_J, am_J, am_J, am_J, am_J, am_J, am_J, am_J, am_J] [] h = rn m_X12_decodes 5 [.ref a0, .int (mI x1), .int (mI x2), am_J, am_J, am_J, am_J, am_J, am_J, am_J, am_J, am_J, am_J, am_J] [.ref (hnx h)] (aI 0 256 h) := by
  refine (tq_sipush i_X12_decodes_0 rfl).trans ?_
  exact tq_newI (n := 256) (t := 0) i_X12_decodes_3 w_256 (by decide) rfl (by decide) rfl rfl
theorem i_X12_decodes_5 : am_i m_X12_decodes 5 = some (5, .astore_n 3, 1, [], 0) := rfl
theorem i_X12_decodes_6 : am_i m_X12_decodes 6 = some (6, .aload_n 0, 1, [], 0) := rfl
theorem i_X12_decodes_7 : am_i m_X12_decodes 7 = some (7, .aload_n 0, 1, [], 0) := rfl
theorem i_X12_decodes_8 : am_i m_X12_decodes 8 = some (8, .getfield 56, 3, [10, 15, 0], 0) := rfl
theorem i_X12_decodes_11 : am_i m_X12_decodes 11 = some (11, .iload_n 1, 1, [], 0) := rfl
theorem i_X12_decodes_12 : am_i m_X12_decodes 12 = some (12, .iaload, 1, [], 0) := rfl
theorem i_X12_decodes_13 : am_i m_X12_decodes 13 = some (13, .invokevirtual 347, 3, [85, 10], 0) := rfl
theorem b_X12_decodes_5 {a0 as0 : Nat} {x1 x2 x1' : Int} {v3 v4 v5 v6 v7 v8 v9 v10 v11 v12 v13 : Value} {h : am_H} (w1 : wr x1 = x1') (k1 : K10 h a0) (g2 : 0 ≤ x1' ∧ x1' < (12 : Int)) : rn m_X12_decodes 5 [.ref a0, .int (mI x1), .int (mI x2), v3, v4, v5, v6, v7, v8, v9, v10, v11, v12, v13] [.ref as0] h = cl m_X12_decodes 16 [.ref a0, .int (mI x1), .int (mI x2), .ref as0, v4, v5, v6, v7, v8, v9, v10, v11, v12, v13] [] (rn m_X12_leant 0 [.ref a0, .int (mI (gZ h (a0 + 7) x1')), am_J, am_J] [] h) := by
  refine (tq_astore_n (L' := [.ref a0, .int (mI x1), .int (mI x2), .ref as0, v4, v5, v6, v7, v8, v9, v10, v11, v12, v13]) i_X12_decodes_5 (isA_ref _) rfl rfl).trans ?_
  refine (tq_aload_n i_X12_decodes_6 rfl (isA_ref _) rfl).trans ?_
  refine (tq_aload_n i_X12_decodes_7 rfl (isA_ref _) rfl).trans ?_
  refine (tq_getfield i_X12_decodes_8 (K10_s k1) (gR (g_10_15 (K10_s k1)) (K10_e15 k1)) (isV_ref _) rfl).trans ?_
  refine (tq_iload_n i_X12_decodes_11 rfl rfl).trans ?_
  refine (tq_iaload i_X12_decodes_12 (K10_s15 k1) (by decide) w1 g2.1 (lt_gn (K10_n15 k1) g2.2) rfl).trans ?_
  exact c_X12_leant i_X12_decodes_13 (K10_s k1) (ltd d_X12_decodes (by decide)) stOk_0 rfl
theorem i_X12_decodes_16 : am_i m_X12_decodes 16 = some (16, .astore 4, 2, [], 0) := rfl
theorem i_X12_decodes_18 : am_i m_X12_decodes 18 = some (18, .aload_n 0, 1, [], 0) := rfl
theorem i_X12_decodes_19 : am_i m_X12_decodes 19 = some (19, .aload_n 0, 1, [], 0) := rfl
theorem i_X12_decodes_20 : am_i m_X12_decodes 20 = some (20, .getfield 59, 3, [10, 16, 0], 0) := rfl
theorem i_X12_decodes_23 : am_i m_X12_decodes 23 = some (23, .iload_n 1, 1, [], 0) := rfl
theorem i_X12_decodes_24 : am_i m_X12_decodes 24 = some (24, .iaload, 1, [], 0) := rfl
theorem i_X12_decodes_25 : am_i m_X12_decodes 25 = some (25, .invokevirtual 347, 3, [85, 10], 0) := rfl
theorem b_X12_decodes_16 {a0 a3 as0 : Nat} {x1 x2 x1' : Int} {v4 v5 v6 v7 v8 v9 v10 v11 v12 v13 : Value} {h : am_H} (w1 : wr x1 = x1') (k1 : K10 h a0) (g2 : 0 ≤ x1' ∧ x1' < (12 : Int)) : rn m_X12_decodes 16 [.ref a0, .int (mI x1), .int (mI x2), .ref a3, v4, v5, v6, v7, v8, v9, v10, v11, v12, v13] [.ref as0] h = cl m_X12_decodes 28 [.ref a0, .int (mI x1), .int (mI x2), .ref a3, .ref as0, v5, v6, v7, v8, v9, v10, v11, v12, v13] [] (rn m_X12_leant 0 [.ref a0, .int (mI (gZ h (a0 + 8) x1')), am_J, am_J] [] h) := by
  refine (tq_astore (L' := [.ref a0, .int (mI x1), .int (mI x2), .ref a3, .ref as0, v5, v6, v7, v8, v9, v10, v11, v12, v13]) i_X12_decodes_16 (isA_ref _) rfl rfl).trans ?_
  refine (tq_aload_n i_X12_decodes_18 rfl (isA_ref _) rfl).trans ?_
  refine (tq_aload_n i_X12_decodes_19 rfl (isA_ref _) rfl).trans ?_
  refine (tq_getfield i_X12_decodes_20 (K10_s k1) (gR (g_10_16 (K10_s k1)) (K10_e16 k1)) (isV_ref _) rfl).trans ?_
  refine (tq_iload_n i_X12_decodes_23 rfl rfl).trans ?_
  refine (tq_iaload i_X12_decodes_24 (K10_s16 k1) (by decide) w1 g2.1 (lt_gn (K10_n16 k1) g2.2) rfl).trans ?_
  exact c_X12_leant i_X12_decodes_25 (K10_s k1) (ltd d_X12_decodes (by decide)) stOk_0 rfl
theorem i_X12_decodes_28 : am_i m_X12_decodes 28 = some (28, .astore 5, 2, [], 0) := rfl
theorem i_X12_decodes_30 : am_i m_X12_decodes 30 = some (30, .iconst 0, 1, [], 0) := rfl
theorem i_X12_decodes_31 : am_i m_X12_decodes 31 = some (31, .istore 6, 2, [], 0) := rfl
theorem b_X12_decodes_28 {a0 a3 a4 as0 : Nat} {x1 x2 : Int} {v5 v6 v7 v8 v9 v10 v11 v12 v13 : Value} {h : am_H} : rn m_X12_decodes 28 [.ref a0, .int (mI x1), .int (mI x2), .ref a3, .ref a4, v5, v6, v7, v8, v9, v10, v11, v12, v13] [.ref as0] h = rn m_X12_decodes 33 [.ref a0, .int (mI x1), .int (mI x2), .ref a3, .ref a4, .ref as0, .int (mI 0), v7, v8, v9, v10, v11, v12, v13] [] h := by
  refine (tq_astore (L' := [.ref a0, .int (mI x1), .int (mI x2), .ref a3, .ref a4, .ref as0, v6, v7, v8, v9, v10, v11, v12, v13]) i_X12_decodes_28 (isA_ref _) rfl rfl).trans ?_
  refine (tq_iconst i_X12_decodes_30 rfl).trans ?_
  refine (tq_istore (L' := [.ref a0, .int (mI x1), .int (mI x2), .ref a3, .ref a4, .ref as0, .int (mI 0), v7, v8, v9, v10, v11, v12, v13]) i_X12_decodes_31 rfl rfl).trans ?_
  rfl
theorem i_X12_decodes_33 : am_i m_X12_decodes 33 = some (33, .iload 6, 2, [], 0) := rfl
theorem i_X12_decodes_35 : am_i m_X12_decodes 35 = some (35, .iconst 4, 1, [], 4) := rfl
theorem i_X12_decodes_36 : am_i m_X12_decodes 36 = some (36, .if_icmp .ge 185, 3, [], 0) := rfl
theorem i_X12_decodes_39 : am_i m_X12_decodes 39 = some (39, .iload 6, 2, [], 0) := rfl
theorem i_X12_decodes_41 : am_i m_X12_decodes 41 = some (41, .iconst 2, 1, [], 2) := rfl
theorem i_X12_decodes_42 : am_i m_X12_decodes 42 = some (42, .irem, 1, [], 0) := rfl
theorem i_X12_decodes_43 : am_i m_X12_decodes 43 = some (43, .bipush 8, 2, [], 8) := rfl
theorem i_X12_decodes_45 : am_i m_X12_decodes 45 = some (45, .imul, 1, [], 0) := rfl
theorem i_X12_decodes_46 : am_i m_X12_decodes 46 = some (46, .istore 7, 2, [], 0) := rfl
theorem i_X12_decodes_48 : am_i m_X12_decodes 48 = some (48, .iload 6, 2, [], 0) := rfl
theorem i_X12_decodes_50 : am_i m_X12_decodes 50 = some (50, .iconst 2, 1, [], 2) := rfl
theorem i_X12_decodes_51 : am_i m_X12_decodes 51 = some (51, .idiv, 1, [], 0) := rfl
theorem i_X12_decodes_52 : am_i m_X12_decodes 52 = some (52, .bipush 8, 2, [], 8) := rfl
theorem i_X12_decodes_54 : am_i m_X12_decodes 54 = some (54, .imul, 1, [], 0) := rfl
theorem i_X12_decodes_55 : am_i m_X12_decodes 55 = some (55, .istore 8, 2, [], 0) := rfl
theorem i_X12_decodes_57 : am_i m_X12_decodes 57 = some (57, .aload_n 0, 1, [], 0) := rfl
theorem i_X12_decodes_58 : am_i m_X12_decodes 58 = some (58, .getfield 49, 3, [10, 13, 0], 0) := rfl
theorem i_X12_decodes_61 : am_i m_X12_decodes 61 = some (61, .iload_n 1, 1, [], 0) := rfl
theorem i_X12_decodes_62 : am_i m_X12_decodes 62 = some (62, .iaload, 1, [], 0) := rfl
theorem i_X12_decodes_63 : am_i m_X12_decodes 63 = some (63, .iconst 2, 1, [], 2) := rfl
theorem i_X12_decodes_64 : am_i m_X12_decodes 64 = some (64, .if_icmp .ne 10, 3, [], 0) := rfl
theorem i_X12_decodes_67 : am_i m_X12_decodes 67 = some (67, .iload 6, 2, [], 0) := rfl
theorem i_X12_decodes_69 : am_i m_X12_decodes 69 = some (69, .iconst 2, 1, [], 2) := rfl
theorem i_X12_decodes_70 : am_i m_X12_decodes 70 = some (70, .idiv, 1, [], 0) := rfl
theorem i_X12_decodes_71 : am_i m_X12_decodes 71 = some (71, .goto 4, 3, [], 0) := rfl
theorem i_X12_decodes_74 : am_i m_X12_decodes 74 = some (74, .iconst 0, 1, [], 0) := rfl
theorem i_X12_decodes_75 : am_i m_X12_decodes 75 = some (75, .istore 9, 2, [], 0) := rfl
theorem i_X12_decodes_77 : am_i m_X12_decodes 77 = some (77, .aload_n 0, 1, [], 0) := rfl
theorem i_X12_decodes_78 : am_i m_X12_decodes 78 = some (78, .getfield 80, 3, [10, 22, 0], 0) := rfl
theorem i_X12_decodes_81 : am_i m_X12_decodes 81 = some (81, .iload_n 1, 1, [], 0) := rfl
theorem i_X12_decodes_82 : am_i m_X12_decodes 82 = some (82, .aaload, 1, [], 0) := rfl
theorem i_X12_decodes_83 : am_i m_X12_decodes 83 = some (83, .iload 7, 2, [], 0) := rfl
theorem i_X12_decodes_85 : am_i m_X12_decodes 85 = some (85, .iload 8, 2, [], 0) := rfl
theorem i_X12_decodes_87 : am_i m_X12_decodes 87 = some (87, .invokestatic 338, 3, [38], 0) := rfl
theorem i_X12_decodes_90 : am_i m_X12_decodes 90 = some (90, .iaload, 1, [], 0) := rfl
theorem i_X12_decodes_91 : am_i m_X12_decodes 91 = some (91, .istore 10, 2, [], 0) := rfl
theorem i_X12_decodes_93 : am_i m_X12_decodes 93 = some (93, .iload_n 2, 1, [], 0) := rfl
theorem i_X12_decodes_94 : am_i m_X12_decodes 94 = some (94, .iload 9, 2, [], 0) := rfl
theorem i_X12_decodes_96 : am_i m_X12_decodes 96 = some (96, .ishr, 1, [], 0) := rfl
theorem i_X12_decodes_97 : am_i m_X12_decodes 97 = some (97, .iconst 1, 1, [], 1) := rfl
theorem i_X12_decodes_98 : am_i m_X12_decodes 98 = some (98, .iand, 1, [], 0) := rfl
theorem i_X12_decodes_99 : am_i m_X12_decodes 99 = some (99, .iconst 1, 1, [], 1) := rfl
theorem i_X12_decodes_100 : am_i m_X12_decodes 100 = some (100, .if_icmp .ne 15, 3, [], 0) := rfl
theorem i_X12_decodes_103 : am_i m_X12_decodes 103 = some (103, .aload_n 0, 1, [], 0) := rfl
theorem i_X12_decodes_104 : am_i m_X12_decodes 104 = some (104, .aload_n 3, 1, [], 0) := rfl
theorem i_X12_decodes_105 : am_i m_X12_decodes 105 = some (105, .iload 7, 2, [], 0) := rfl
theorem i_X12_decodes_107 : am_i m_X12_decodes 107 = some (107, .iload 8, 2, [], 0) := rfl
theorem i_X12_decodes_109 : am_i m_X12_decodes 109 = some (109, .invokevirtual 351, 3, [25, 10], 0) := rfl
theorem i_X12_decodes_115 : am_i m_X12_decodes 115 = some (115, .iconst 0, 1, [], 0) := rfl
theorem i_X12_decodes_116 : am_i m_X12_decodes 116 = some (116, .istore 11, 2, [], 0) := rfl
theorem i_X12_decodes_221 : am_i m_X12_decodes 221 = some (221, .aload_n 3, 1, [], 0) := rfl
theorem i_X12_decodes_222 : am_i m_X12_decodes 222 = some (222, .aload_n 0, 1, [], 0) := rfl
theorem i_X12_decodes_223 : am_i m_X12_decodes 223 = some (223, .getfield 43, 3, [10, 11, 0], 0) := rfl
theorem i_X12_decodes_226 : am_i m_X12_decodes 226 = some (226, .iload_n 1, 1, [], 0) := rfl
theorem i_X12_decodes_227 : am_i m_X12_decodes 227 = some (227, .iaload, 1, [], 0) := rfl
theorem i_X12_decodes_228 : am_i m_X12_decodes 228 = some (228, .aload_n 0, 1, [], 0) := rfl
theorem i_X12_decodes_229 : am_i m_X12_decodes 229 = some (229, .getfield 46, 3, [10, 12, 0], 0) := rfl
theorem i_X12_decodes_232 : am_i m_X12_decodes 232 = some (232, .iload_n 1, 1, [], 0) := rfl
theorem i_X12_decodes_233 : am_i m_X12_decodes 233 = some (233, .iaload, 1, [], 0) := rfl
theorem i_X12_decodes_234 : am_i m_X12_decodes 234 = some (234, .aload_n 0, 1, [], 0) := rfl
theorem i_X12_decodes_235 : am_i m_X12_decodes 235 = some (235, .getfield 49, 3, [10, 13, 0], 0) := rfl
theorem i_X12_decodes_238 : am_i m_X12_decodes 238 = some (238, .iload_n 1, 1, [], 0) := rfl
theorem i_X12_decodes_239 : am_i m_X12_decodes 239 = some (239, .iaload, 1, [], 0) := rfl
theorem i_X12_decodes_240 : am_i m_X12_decodes 240 = some (240, .invokestatic 316, 3, [140], 0) := rfl
theorem b_X12_decodes_33 {a0 a3 a4 a5 b_82 n_b_82 k_96 : Nat} {x1 x2 x6 x1' x2' x6' : Int} {v7 v8 v9 v10 v11 v12 v13 : Value} {h : am_H} (w1 : wr x1 = x1') (w2 : wr x2 = x2') (w6 : wr x6 = x6') (k1 : K10 h a0) (g2 : (4 ≤ x6') → (0 ≤ x1' ∧ x1' < (12 : Int))) (g3 : (¬ (4 ≤ x6')) → (0 ≤ x1' ∧ x1' < (12 : Int))) (e4 : (¬ (4 ≤ x6')) → (gA h (a0 + 14) x1' = some b_82)) (g5 : (¬ (4 ≤ x6')) → (0 ≤ (wr ((Int.tmod x6' 2) * 8)) ∧ (wr ((Int.tmod x6' 2) * 8)) < 16)) (g6 : (¬ (4 ≤ x6')) → (0 ≤ (wr ((Int.tdiv x6' 2) * 8)) ∧ (wr ((Int.tdiv x6' 2) * 8)) < 16)) (n7 : (¬ (4 ≤ x6')) → (gn h b_82 = n_b_82)) (s8 : (¬ (4 ≤ x6')) → (sh h b_82 = (1, 0))) (g9 : (¬ (4 ≤ x6')) → (0 ≤ qr (wr ((Int.tmod x6' 2) * 8)) (wr ((Int.tdiv x6' 2) * 8)) ∧ qr (wr ((Int.tmod x6' 2) * 8)) (wr ((Int.tdiv x6' 2) * 8)) < (n_b_82 : Int))) (g10 : (¬ (4 ≤ x6')) → ((if ¬ (gZ h (a0 + 5) x1') = 2 then (0 : Int) else wr (Int.tdiv x6' 2)) = (k_96 : Int))) (g11 : (¬ (4 ≤ x6')) → (k_96 < 32)) : rn m_X12_decodes 33 [.ref a0, .int (mI x1), .int (mI x2), .ref a3, .ref a4, .ref a5, .int (mI x6), v7, v8, v9, v10, v11, v12, v13] [] h = if 4 ≤ x6' then cl m_X12_decodes 243 [.ref a0, .int (mI x1), .int (mI x2), .ref a3, .ref a4, .ref a5, .int (mI x6), v7, v8, v9, v10, v11, v12, v13] [] (rn m_X12_smooths 0 [.ref a3, .int (mI (gZ h (a0 + 3) x1')), .int (mI (gZ h (a0 + 4) x1')), .int (mI (gZ h (a0 + 5) x1')), am_J, am_J] [] h) else if ¬ ((wr (x2' / 2 ^ k_96)) % 2 ^ 1) = 1 then rn m_X12_decodes 118 [.ref a0, .int (mI x1), .int (mI x2), .ref a3, .ref a4, .ref a5, .int (mI x6), .int (mI ((Int.tmod x6' 2) * 8)), .int (mI ((Int.tdiv x6' 2) * 8)), .int (mI (if ¬ (gZ h (a0 + 5) x1') = 2 then (0 : Int) else Int.tdiv x6' 2)), .int (mI (gZ h b_82 (qr (wr ((Int.tmod x6' 2) * 8)) (wr ((Int.tdiv x6' 2) * 8))))), .int (mI 0), v12, v13] [] h else cl m_X12_decodes 112 [.ref a0, .int (mI x1), .int (mI x2), .ref a3, .ref a4, .ref a5, .int (mI x6), .int (mI ((Int.tmod x6' 2) * 8)), .int (mI ((Int.tdiv x6' 2) * 8)), .int (mI (if ¬ (gZ h (a0 + 5) x1') = 2 then (0 : Int) else Int.tdiv x6' 2)), .int (mI (gZ h b_82 (qr (wr ((Int.tmod x6' 2) * 8)) (wr ((Int.tdiv x6' 2) * 8))))), v11, v12, v13] [] (rn m_X12_conceals 0 [.ref a0, .ref a3, .int (mI ((Int.tmod x6' 2) * 8)), .int (mI ((Int.tdiv x6' 2) * 8)), am_J, am_J] [] h) := by
  refine (tq_iload i_X12_decodes_33 rfl rfl).trans ?_
  refine (tq_iconst i_X12_decodes_35 rfl).trans ?_
  refine (tq_icmp_ge (pt := 221) i_X12_decodes_36 w6 w_4 (by decide) rfl).trans ?_
  refine ite_congr rfl (fun c1 => ?_) (fun c1 => ?_)
  · refine (tq_aload_n i_X12_decodes_221 rfl (isA_ref _) rfl).trans ?_
    refine (tq_aload_n i_X12_decodes_222 rfl (isA_ref _) rfl).trans ?_
    refine (tq_getfield i_X12_decodes_223 (K10_s k1) (gR (g_10_11 (K10_s k1)) (K10_e11 k1)) (isV_ref _) rfl).trans ?_
    refine (tq_iload_n i_X12_decodes_226 rfl rfl).trans ?_
    refine (tq_iaload i_X12_decodes_227 (K10_s11 k1) (by decide) w1 (g2 c1).1 (lt_gn (K10_n11 k1) (g2 c1).2) rfl).trans ?_
    refine (tq_aload_n i_X12_decodes_228 rfl (isA_ref _) rfl).trans ?_
    refine (tq_getfield i_X12_decodes_229 (K10_s k1) (gR (g_10_12 (K10_s k1)) (K10_e12 k1)) (isV_ref _) rfl).trans ?_
    refine (tq_iload_n i_X12_decodes_232 rfl rfl).trans ?_
    refine (tq_iaload i_X12_decodes_233 (K10_s12 k1) (by decide) w1 (g2 c1).1 (lt_gn (K10_n12 k1) (g2 c1).2) rfl).trans ?_
    refine (tq_aload_n i_X12_decodes_234 rfl (isA_ref _) rfl).trans ?_
    refine (tq_getfield i_X12_decodes_235 (K10_s k1) (gR (g_10_13 (K10_s k1)) (K10_e13 k1)) (isV_ref _) rfl).trans ?_
    refine (tq_iload_n i_X12_decodes_238 rfl rfl).trans ?_
    refine (tq_iaload i_X12_decodes_239 (K10_s13 k1) (by decide) w1 (g2 c1).1 (lt_gn (K10_n13 k1) (g2 c1).2) rfl).trans ?_
    exact c_X12_smooths i_X12_decodes_240 (ltd d_X12_decodes (by decide)) (isA_ref _) stOk_0 rfl
  · refine (tq_iload i_X12_decodes_39 rfl rfl).trans ?_
    refine (tq_iconst i_X12_decodes_41 rfl).trans ?_
    refine (tq_irem i_X12_decodes_42 w6 w_2 (by decide) rfl).trans ?_
    refine (tq_bipush i_X12_decodes_43 rfl).trans ?_
    refine (tq_imul i_X12_decodes_45 rfl).trans ?_
    refine (tq_istore (L' := [.ref a0, .int (mI x1), .int (mI x2), .ref a3, .ref a4, .ref a5, .int (mI x6), .int (mI ((Int.tmod x6' 2) * 8)), v8, v9, v10, v11, v12, v13]) i_X12_decodes_46 rfl rfl).trans ?_
    refine (tq_iload i_X12_decodes_48 rfl rfl).trans ?_
    refine (tq_iconst i_X12_decodes_50 rfl).trans ?_
    refine (tq_idiv i_X12_decodes_51 w6 w_2 (by decide) rfl).trans ?_
    refine (tq_bipush i_X12_decodes_52 rfl).trans ?_
    refine (tq_imul i_X12_decodes_54 rfl).trans ?_
    refine (tq_istore (L' := [.ref a0, .int (mI x1), .int (mI x2), .ref a3, .ref a4, .ref a5, .int (mI x6), .int (mI ((Int.tmod x6' 2) * 8)), .int (mI ((Int.tdiv x6' 2) * 8)), v9, v10, v11, v12, v13]) i_X12_decodes_55 rfl rfl).trans ?_
    refine (tq_aload_n i_X12_decodes_57 rfl (isA_ref _) rfl).trans ?_
    refine (tq_getfield i_X12_decodes_58 (K10_s k1) (gR (g_10_13 (K10_s k1)) (K10_e13 k1)) (isV_ref _) rfl).trans ?_
    refine (tq_iload_n i_X12_decodes_61 rfl rfl).trans ?_
    refine (tq_iaload i_X12_decodes_62 (K10_s13 k1) (by decide) w1 (g3 c1).1 (lt_gn (K10_n13 k1) (g3 c1).2) rfl).trans ?_
    refine (tq_iconst i_X12_decodes_63 rfl).trans ?_
    refine (tq_icmp_ne (pt := 74) i_X12_decodes_64 (wr_gZ _ _ _) w_2 (by decide) rfl).trans ?_
    refine Eq.trans (b := if ¬ (gZ h (a0 + 5) x1') = 2 then rn m_X12_decodes 75 [.ref a0, .int (mI x1), .int (mI x2), .ref a3, .ref a4, .ref a5, .int (mI x6), .int (mI ((Int.tmod x6' 2) * 8)), .int (mI ((Int.tdiv x6' 2) * 8)), v9, v10, v11, v12, v13] [.int (mI 0)] h else rn m_X12_decodes 75 [.ref a0, .int (mI x1), .int (mI x2), .ref a3, .ref a4, .ref a5, .int (mI x6), .int (mI ((Int.tmod x6' 2) * 8)), .int (mI ((Int.tdiv x6' 2) * 8)), v9, v10, v11, v12, v13] [.int (mI (Int.tdiv x6' 2))] h) (ite_congr rfl (fun c2 => ?_) (fun c2 => ?_)) ?_
    · refine (tq_iconst i_X12_decodes_74 rfl).trans ?_
      rfl
    · refine (tq_iload i_X12_decodes_67 rfl rfl).trans ?_
      refine (tq_iconst i_X12_decodes_69 rfl).trans ?_
      refine (tq_idiv i_X12_decodes_70 w6 w_2 (by decide) rfl).trans ?_
      refine (tq_goto (pc' := 75) i_X12_decodes_71 (by decide)).trans ?_
      rfl
    refine Eq.trans ite_I ?_
    refine (tq_istore (L' := [.ref a0, .int (mI x1), .int (mI x2), .ref a3, .ref a4, .ref a5, .int (mI x6), .int (mI ((Int.tmod x6' 2) * 8)), .int (mI ((Int.tdiv x6' 2) * 8)), .int (mI (if ¬ (gZ h (a0 + 5) x1') = 2 then (0 : Int) else Int.tdiv x6' 2)), v10, v11, v12, v13]) i_X12_decodes_75 rfl rfl).trans ?_
    refine (tq_aload_n i_X12_decodes_77 rfl (isA_ref _) rfl).trans ?_
    refine (tq_getfield i_X12_decodes_78 (K10_s k1) (gR (g_10_22 (K10_s k1)) (K10_e22 k1)) (isV_ref _) rfl).trans ?_
    refine (tq_iload_n i_X12_decodes_81 rfl rfl).trans ?_
    refine (tq_aaload i_X12_decodes_82 (K10_s22 k1) w1 (g3 c1).1 (lt_gn (K10_n22 k1) (g3 c1).2) rfl).trans ?_
    rw [(e4 c1)]
    simp only [am_rv]
    refine (tq_iload i_X12_decodes_83 rfl rfl).trans ?_
    refine (tq_iload i_X12_decodes_85 rfl rfl).trans ?_
    refine (c_X12_square i_X12_decodes_87 (ltd d_X12_decodes (by decide)) (stOk_1 _) rfl).trans ?_
    refine (congrArg (cl _ _ _ _) (square12_ok rfl rfl (g5 c1) (g6 c1))).trans ?_
    refine (cl_v _ _ _ _ _ _).trans ?_
    refine (tq_iaload i_X12_decodes_90 (s8 c1) (by decide) (wr_qr _ _) (g9 c1).1 (lt_gn (n7 c1) (g9 c1).2) rfl).trans ?_
    refine (tq_istore (L' := [.ref a0, .int (mI x1), .int (mI x2), .ref a3, .ref a4, .ref a5, .int (mI x6), .int (mI ((Int.tmod x6' 2) * 8)), .int (mI ((Int.tdiv x6' 2) * 8)), .int (mI (if ¬ (gZ h (a0 + 5) x1') = 2 then (0 : Int) else Int.tdiv x6' 2)), .int (mI (gZ h b_82 (qr (wr ((Int.tmod x6' 2) * 8)) (wr ((Int.tdiv x6' 2) * 8))))), v11, v12, v13]) i_X12_decodes_91 rfl rfl).trans ?_
    refine (tq_iload_n i_X12_decodes_93 rfl rfl).trans ?_
    refine (tq_iload i_X12_decodes_94 rfl rfl).trans ?_
    refine (tq_ishr i_X12_decodes_96 w2 ((wr_ite w_0 rfl).trans (g10 c1)) (g11 c1) rfl).trans ?_
    refine (tq_iconst i_X12_decodes_97 rfl).trans ?_
    refine (tq_imask 1 i_X12_decodes_98 rfl (by decide) (by decide) rfl).trans ?_
    refine (tq_iconst i_X12_decodes_99 rfl).trans ?_
    refine (tq_icmp_ne (pt := 115) i_X12_decodes_100 (wr_mask (by decide)) w_1 (by decide) rfl).trans ?_
    refine ite_congr rfl (fun c3 => ?_) (fun c3 => ?_)
    · refine (tq_iconst i_X12_decodes_115 rfl).trans ?_
      refine (tq_istore (L' := [.ref a0, .int (mI x1), .int (mI x2), .ref a3, .ref a4, .ref a5, .int (mI x6), .int (mI ((Int.tmod x6' 2) * 8)), .int (mI ((Int.tdiv x6' 2) * 8)), .int (mI (if ¬ (gZ h (a0 + 5) x1') = 2 then (0 : Int) else Int.tdiv x6' 2)), .int (mI (gZ h b_82 (qr (wr ((Int.tmod x6' 2) * 8)) (wr ((Int.tdiv x6' 2) * 8))))), .int (mI 0), v12, v13]) i_X12_decodes_116 rfl rfl).trans ?_
      rfl
    · refine (tq_aload_n i_X12_decodes_103 rfl (isA_ref _) rfl).trans ?_
      refine (tq_aload_n i_X12_decodes_104 rfl (isA_ref _) rfl).trans ?_
      refine (tq_iload i_X12_decodes_105 rfl rfl).trans ?_
      refine (tq_iload i_X12_decodes_107 rfl rfl).trans ?_
      exact c_X12_conceals i_X12_decodes_109 (K10_s k1) (ltd d_X12_decodes (by decide)) (isA_ref _) stOk_0 rfl
theorem i_X12_decodes_112 : am_i m_X12_decodes 112 = some (112, .goto 103, 3, [], 0) := rfl
theorem i_X12_decodes_215 : am_i m_X12_decodes 215 = some (215, .iinc 6 1, 3, [], 0) := rfl
theorem i_X12_decodes_218 : am_i m_X12_decodes 218 = some (218, .goto (-185), 3, [], 0) := rfl
theorem b_X12_decodes_112 {a0 a3 a4 a5 : Nat} {x1 x2 x6 : Int} {v7 v8 v9 v10 v11 v12 v13 : Value} {h : am_H} : rn m_X12_decodes 112 [.ref a0, .int (mI x1), .int (mI x2), .ref a3, .ref a4, .ref a5, .int (mI x6), v7, v8, v9, v10, v11, v12, v13] [] h = rn m_X12_decodes 33 [.ref a0, .int (mI x1), .int (mI x2), .ref a3, .ref a4, .ref a5, .int (mI (x6 + 1)), v7, v8, v9, v10, v11, v12, v13] [] h := by
  refine (tq_goto (pc' := 215) i_X12_decodes_112 (by decide)).trans ?_
  refine (tq_iinc (L' := [.ref a0, .int (mI x1), .int (mI x2), .ref a3, .ref a4, .ref a5, .int (mI (x6 + 1)), v7, v8, v9, v10, v11, v12, v13]) i_X12_decodes_215 rfl rfl rfl).trans ?_
  refine (tq_goto (pc' := 33) i_X12_decodes_218 (by decide)).trans ?_
  rfl
theorem i_X12_decodes_118 : am_i m_X12_decodes 118 = some (118, .iload 11, 2, [], 0) := rfl
theorem i_X12_decodes_120 : am_i m_X12_decodes 120 = some (120, .iload 10, 2, [], 0) := rfl
theorem i_X12_decodes_122 : am_i m_X12_decodes 122 = some (122, .bipush 8, 2, [], 8) := rfl
theorem i_X12_decodes_124 : am_i m_X12_decodes 124 = some (124, .if_icmp .ne 7, 3, [], 0) := rfl
theorem i_X12_decodes_127 : am_i m_X12_decodes 127 = some (127, .iconst 1, 1, [], 1) := rfl
theorem i_X12_decodes_128 : am_i m_X12_decodes 128 = some (128, .goto 4, 3, [], 0) := rfl
theorem i_X12_decodes_131 : am_i m_X12_decodes 131 = some (131, .iconst 4, 1, [], 4) := rfl
theorem i_X12_decodes_132 : am_i m_X12_decodes 132 = some (132, .if_icmp .ge 83, 3, [], 0) := rfl
theorem i_X12_decodes_135 : am_i m_X12_decodes 135 = some (135, .iload 7, 2, [], 0) := rfl
theorem i_X12_decodes_137 : am_i m_X12_decodes 137 = some (137, .iload 11, 2, [], 0) := rfl
theorem i_X12_decodes_139 : am_i m_X12_decodes 139 = some (139, .iconst 2, 1, [], 2) := rfl
theorem i_X12_decodes_140 : am_i m_X12_decodes 140 = some (140, .irem, 1, [], 0) := rfl
theorem i_X12_decodes_141 : am_i m_X12_decodes 141 = some (141, .iconst 4, 1, [], 4) := rfl
theorem i_X12_decodes_142 : am_i m_X12_decodes 142 = some (142, .imul, 1, [], 0) := rfl
theorem i_X12_decodes_143 : am_i m_X12_decodes 143 = some (143, .iadd, 1, [], 0) := rfl
theorem i_X12_decodes_144 : am_i m_X12_decodes 144 = some (144, .istore 12, 2, [], 0) := rfl
theorem i_X12_decodes_146 : am_i m_X12_decodes 146 = some (146, .iload 8, 2, [], 0) := rfl
theorem i_X12_decodes_148 : am_i m_X12_decodes 148 = some (148, .iload 11, 2, [], 0) := rfl
theorem i_X12_decodes_150 : am_i m_X12_decodes 150 = some (150, .iconst 2, 1, [], 2) := rfl
theorem i_X12_decodes_151 : am_i m_X12_decodes 151 = some (151, .idiv, 1, [], 0) := rfl
theorem i_X12_decodes_152 : am_i m_X12_decodes 152 = some (152, .iconst 4, 1, [], 4) := rfl
theorem i_X12_decodes_153 : am_i m_X12_decodes 153 = some (153, .imul, 1, [], 0) := rfl
theorem i_X12_decodes_154 : am_i m_X12_decodes 154 = some (154, .iadd, 1, [], 0) := rfl
theorem i_X12_decodes_155 : am_i m_X12_decodes 155 = some (155, .istore 13, 2, [], 0) := rfl
theorem i_X12_decodes_157 : am_i m_X12_decodes 157 = some (157, .aload_n 3, 1, [], 0) := rfl
theorem i_X12_decodes_158 : am_i m_X12_decodes 158 = some (158, .aload 4, 2, [], 0) := rfl
theorem i_X12_decodes_160 : am_i m_X12_decodes 160 = some (160, .aload 5, 2, [], 0) := rfl
theorem i_X12_decodes_162 : am_i m_X12_decodes 162 = some (162, .iload 12, 2, [], 0) := rfl
theorem i_X12_decodes_164 : am_i m_X12_decodes 164 = some (164, .iload 13, 2, [], 0) := rfl
theorem i_X12_decodes_166 : am_i m_X12_decodes 166 = some (166, .iload 10, 2, [], 0) := rfl
theorem i_X12_decodes_168 : am_i m_X12_decodes 168 = some (168, .aload_n 0, 1, [], 0) := rfl
theorem i_X12_decodes_169 : am_i m_X12_decodes 169 = some (169, .getfield 83, 3, [10, 23, 0], 0) := rfl
theorem i_X12_decodes_172 : am_i m_X12_decodes 172 = some (172, .iload_n 1, 1, [], 0) := rfl
theorem i_X12_decodes_173 : am_i m_X12_decodes 173 = some (173, .aaload, 1, [], 0) := rfl
theorem i_X12_decodes_174 : am_i m_X12_decodes 174 = some (174, .iload 12, 2, [], 0) := rfl
theorem i_X12_decodes_176 : am_i m_X12_decodes 176 = some (176, .iload 13, 2, [], 0) := rfl
theorem i_X12_decodes_178 : am_i m_X12_decodes 178 = some (178, .invokestatic 338, 3, [38], 0) := rfl
theorem i_X12_decodes_181 : am_i m_X12_decodes 181 = some (181, .iaload, 1, [], 0) := rfl
theorem i_X12_decodes_182 : am_i m_X12_decodes 182 = some (182, .aload_n 0, 1, [], 0) := rfl
theorem i_X12_decodes_183 : am_i m_X12_decodes 183 = some (183, .getfield 86, 3, [10, 24, 0], 0) := rfl
theorem i_X12_decodes_186 : am_i m_X12_decodes 186 = some (186, .iload_n 1, 1, [], 0) := rfl
theorem i_X12_decodes_187 : am_i m_X12_decodes 187 = some (187, .aaload, 1, [], 0) := rfl
theorem i_X12_decodes_188 : am_i m_X12_decodes 188 = some (188, .aload_n 0, 1, [], 0) := rfl
theorem i_X12_decodes_189 : am_i m_X12_decodes 189 = some (189, .getfield 74, 3, [10, 20, 0], 0) := rfl
theorem i_X12_decodes_192 : am_i m_X12_decodes 192 = some (192, .iload_n 1, 1, [], 0) := rfl
theorem i_X12_decodes_193 : am_i m_X12_decodes 193 = some (193, .aaload, 1, [], 0) := rfl
theorem i_X12_decodes_194 : am_i m_X12_decodes 194 = some (194, .aload_n 0, 1, [], 0) := rfl
theorem i_X12_decodes_195 : am_i m_X12_decodes 195 = some (195, .getfield 43, 3, [10, 11, 0], 0) := rfl
theorem i_X12_decodes_198 : am_i m_X12_decodes 198 = some (198, .iload_n 1, 1, [], 0) := rfl
theorem i_X12_decodes_199 : am_i m_X12_decodes 199 = some (199, .iaload, 1, [], 0) := rfl
theorem i_X12_decodes_200 : am_i m_X12_decodes 200 = some (200, .aload_n 0, 1, [], 0) := rfl
theorem i_X12_decodes_201 : am_i m_X12_decodes 201 = some (201, .getfield 49, 3, [10, 13, 0], 0) := rfl
theorem i_X12_decodes_204 : am_i m_X12_decodes 204 = some (204, .iload_n 1, 1, [], 0) := rfl
theorem i_X12_decodes_205 : am_i m_X12_decodes 205 = some (205, .iaload, 1, [], 0) := rfl
theorem i_X12_decodes_206 : am_i m_X12_decodes 206 = some (206, .invokestatic 289, 3, [185], 0) := rfl
theorem b_X12_decodes_118 {a0 a3 a4 a5 b_173 n_b_173 b_187 b_193 : Nat} {x1 x2 x6 x7 x8 x10 x11 x1' x10' x11' : Int} {v9 v12 v13 : Value} {h : am_H} (w1 : wr x1 = x1') (w10 : wr x10 = x10') (w11 : wr x11 = x11') (k1 : K10 h a0) (g2 : (¬ ((if ¬ x10' = 8 then (4 : Int) else 1) ≤ x11')) → (0 ≤ x1' ∧ x1' < (12 : Int))) (e3 : (¬ ((if ¬ x10' = 8 then (4 : Int) else 1) ≤ x11')) → (gA h (a0 + 15) x1' = some b_173)) (g4 : (¬ ((if ¬ x10' = 8 then (4 : Int) else 1) ≤ x11')) → (0 ≤ (wr (x7 + ((Int.tmod x11' 2) * 4))) ∧ (wr (x7 + ((Int.tmod x11' 2) * 4))) < 16)) (g5 : (¬ ((if ¬ x10' = 8 then (4 : Int) else 1) ≤ x11')) → (0 ≤ (wr (x8 + ((Int.tdiv x11' 2) * 4))) ∧ (wr (x8 + ((Int.tdiv x11' 2) * 4))) < 16)) (n6 : (¬ ((if ¬ x10' = 8 then (4 : Int) else 1) ≤ x11')) → (gn h b_173 = n_b_173)) (s7 : (¬ ((if ¬ x10' = 8 then (4 : Int) else 1) ≤ x11')) → (sh h b_173 = (1, 0))) (g8 : (¬ ((if ¬ x10' = 8 then (4 : Int) else 1) ≤ x11')) → (0 ≤ qr (wr (x7 + ((Int.tmod x11' 2) * 4))) (wr (x8 + ((Int.tdiv x11' 2) * 4))) ∧ qr (wr (x7 + ((Int.tmod x11' 2) * 4))) (wr (x8 + ((Int.tdiv x11' 2) * 4))) < (n_b_173 : Int))) (e9 : (¬ ((if ¬ x10' = 8 then (4 : Int) else 1) ≤ x11')) → (gA h (a0 + 16) x1' = some b_187)) (e10 : (¬ ((if ¬ x10' = 8 then (4 : Int) else 1) ≤ x11')) → (gA h (a0 + 12) x1' = some b_193)) : rn m_X12_decodes 118 [.ref a0, .int (mI x1), .int (mI x2), .ref a3, .ref a4, .ref a5, .int (mI x6), .int (mI x7), .int (mI x8), v9, .int (mI x10), .int (mI x11), v12, v13] [] h = if (if ¬ x10' = 8 then (4 : Int) else 1) ≤ x11' then rn m_X12_decodes 33 [.ref a0, .int (mI x1), .int (mI x2), .ref a3, .ref a4, .ref a5, .int (mI (x6 + 1)), .int (mI x7), .int (mI x8), v9, .int (mI x10), .int (mI x11), v12, v13] [] h else cl m_X12_decodes 209 [.ref a0, .int (mI x1), .int (mI x2), .ref a3, .ref a4, .ref a5, .int (mI x6), .int (mI x7), .int (mI x8), v9, .int (mI x10), .int (mI x11), .int (mI (x7 + ((Int.tmod x11' 2) * 4))), .int (mI (x8 + ((Int.tdiv x11' 2) * 4)))] [] (rn m_X12_builds 0 [.ref a3, .ref a4, .ref a5, .int (mI (x7 + ((Int.tmod x11' 2) * 4))), .int (mI (x8 + ((Int.tdiv x11' 2) * 4))), .int (mI x10), .int (mI (gZ h b_173 (qr (wr (x7 + ((Int.tmod x11' 2) * 4))) (wr (x8 + ((Int.tdiv x11' 2) * 4)))))), .ref b_187, .ref b_193, .int (mI (gZ h (a0 + 3) x1')), .int (mI (gZ h (a0 + 5) x1')), am_J, am_J, am_J, am_J, am_J, am_J, am_J] [] h) := by
  refine (tq_iload i_X12_decodes_118 rfl rfl).trans ?_
  refine (tq_iload i_X12_decodes_120 rfl rfl).trans ?_
  refine (tq_bipush i_X12_decodes_122 rfl).trans ?_
  refine (tq_icmp_ne (pt := 131) i_X12_decodes_124 w10 w_8 (by decide) rfl).trans ?_
  refine Eq.trans (b := if ¬ x10' = 8 then rn m_X12_decodes 132 [.ref a0, .int (mI x1), .int (mI x2), .ref a3, .ref a4, .ref a5, .int (mI x6), .int (mI x7), .int (mI x8), v9, .int (mI x10), .int (mI x11), v12, v13] [.int (mI 4), .int (mI x11)] h else rn m_X12_decodes 132 [.ref a0, .int (mI x1), .int (mI x2), .ref a3, .ref a4, .ref a5, .int (mI x6), .int (mI x7), .int (mI x8), v9, .int (mI x10), .int (mI x11), v12, v13] [.int (mI 1), .int (mI x11)] h) (ite_congr rfl (fun c1 => ?_) (fun c1 => ?_)) ?_
  · refine (tq_iconst i_X12_decodes_131 rfl).trans ?_
    rfl
  · refine (tq_iconst i_X12_decodes_127 rfl).trans ?_
    refine (tq_goto (pc' := 132) i_X12_decodes_128 (by decide)).trans ?_
    rfl
  refine Eq.trans ite_I ?_
  refine (tq_icmp_ge (pt := 215) i_X12_decodes_132 w11 (wr_ite w_4 w_1) (by decide) rfl).trans ?_
  refine ite_congr rfl (fun c2 => ?_) (fun c2 => ?_)
  · refine (tq_iinc (L' := [.ref a0, .int (mI x1), .int (mI x2), .ref a3, .ref a4, .ref a5, .int (mI (x6 + 1)), .int (mI x7), .int (mI x8), v9, .int (mI x10), .int (mI x11), v12, v13]) i_X12_decodes_215 rfl rfl rfl).trans ?_
    refine (tq_goto (pc' := 33) i_X12_decodes_218 (by decide)).trans ?_
    rfl
  · refine (tq_iload i_X12_decodes_135 rfl rfl).trans ?_
    refine (tq_iload i_X12_decodes_137 rfl rfl).trans ?_
    refine (tq_iconst i_X12_decodes_139 rfl).trans ?_
    refine (tq_irem i_X12_decodes_140 w11 w_2 (by decide) rfl).trans ?_
    refine (tq_iconst i_X12_decodes_141 rfl).trans ?_
    refine (tq_imul i_X12_decodes_142 rfl).trans ?_
    refine (tq_iadd i_X12_decodes_143 rfl).trans ?_
    refine (tq_istore (L' := [.ref a0, .int (mI x1), .int (mI x2), .ref a3, .ref a4, .ref a5, .int (mI x6), .int (mI x7), .int (mI x8), v9, .int (mI x10), .int (mI x11), .int (mI (x7 + ((Int.tmod x11' 2) * 4))), v13]) i_X12_decodes_144 rfl rfl).trans ?_
    refine (tq_iload i_X12_decodes_146 rfl rfl).trans ?_
    refine (tq_iload i_X12_decodes_148 rfl rfl).trans ?_
    refine (tq_iconst i_X12_decodes_150 rfl).trans ?_
    refine (tq_idiv i_X12_decodes_151 w11 w_2 (by decide) rfl).trans ?_
    refine (tq_iconst i_X12_decodes_152 rfl).trans ?_
    refine (tq_imul i_X12_decodes_153 rfl).trans ?_
    refine (tq_iadd i_X12_decodes_154 rfl).trans ?_
    refine (tq_istore (L' := [.ref a0, .int (mI x1), .int (mI x2), .ref a3, .ref a4, .ref a5, .int (mI x6), .int (mI x7), .int (mI x8), v9, .int (mI x10), .int (mI x11), .int (mI (x7 + ((Int.tmod x11' 2) * 4))), .int (mI (x8 + ((Int.tdiv x11' 2) * 4)))]) i_X12_decodes_155 rfl rfl).trans ?_
    refine (tq_aload_n i_X12_decodes_157 rfl (isA_ref _) rfl).trans ?_
    refine (tq_aload i_X12_decodes_158 rfl (isA_ref _) rfl).trans ?_
    refine (tq_aload i_X12_decodes_160 rfl (isA_ref _) rfl).trans ?_
    refine (tq_iload i_X12_decodes_162 rfl rfl).trans ?_
    refine (tq_iload i_X12_decodes_164 rfl rfl).trans ?_
    refine (tq_iload i_X12_decodes_166 rfl rfl).trans ?_
    refine (tq_aload_n i_X12_decodes_168 rfl (isA_ref _) rfl).trans ?_
    refine (tq_getfield i_X12_decodes_169 (K10_s k1) (gR (g_10_23 (K10_s k1)) (K10_e23 k1)) (isV_ref _) rfl).trans ?_
    refine (tq_iload_n i_X12_decodes_172 rfl rfl).trans ?_
    refine (tq_aaload i_X12_decodes_173 (K10_s23 k1) w1 (g2 c2).1 (lt_gn (K10_n23 k1) (g2 c2).2) rfl).trans ?_
    rw [(e3 c2)]
    simp only [am_rv]
    refine (tq_iload i_X12_decodes_174 rfl rfl).trans ?_
    refine (tq_iload i_X12_decodes_176 rfl rfl).trans ?_
    refine (c_X12_square i_X12_decodes_178 (ltd d_X12_decodes (by decide)) (stOk_7 rfl rfl rfl rfl rfl rfl rfl) rfl).trans ?_
    refine (congrArg (cl _ _ _ _) (square12_ok rfl rfl (g4 c2) (g5 c2))).trans ?_
    refine (cl_v _ _ _ _ _ _).trans ?_
    refine (tq_iaload i_X12_decodes_181 (s7 c2) (by decide) (wr_qr _ _) (g8 c2).1 (lt_gn (n6 c2) (g8 c2).2) rfl).trans ?_
    refine (tq_aload_n i_X12_decodes_182 rfl (isA_ref _) rfl).trans ?_
    refine (tq_getfield i_X12_decodes_183 (K10_s k1) (gR (g_10_24 (K10_s k1)) (K10_e24 k1)) (isV_ref _) rfl).trans ?_
    refine (tq_iload_n i_X12_decodes_186 rfl rfl).trans ?_
    refine (tq_aaload i_X12_decodes_187 (K10_s24 k1) w1 (g2 c2).1 (lt_gn (K10_n24 k1) (g2 c2).2) rfl).trans ?_
    rw [(e9 c2)]
    simp only [am_rv]
    refine (tq_aload_n i_X12_decodes_188 rfl (isA_ref _) rfl).trans ?_
    refine (tq_getfield i_X12_decodes_189 (K10_s k1) (gR (g_10_20 (K10_s k1)) (K10_e20 k1)) (isV_ref _) rfl).trans ?_
    refine (tq_iload_n i_X12_decodes_192 rfl rfl).trans ?_
    refine (tq_aaload i_X12_decodes_193 (K10_s20 k1) w1 (g2 c2).1 (lt_gn (K10_n20 k1) (g2 c2).2) rfl).trans ?_
    rw [(e10 c2)]
    simp only [am_rv]
    refine (tq_aload_n i_X12_decodes_194 rfl (isA_ref _) rfl).trans ?_
    refine (tq_getfield i_X12_decodes_195 (K10_s k1) (gR (g_10_11 (K10_s k1)) (K10_e11 k1)) (isV_ref _) rfl).trans ?_
    refine (tq_iload_n i_X12_decodes_198 rfl rfl).trans ?_
    refine (tq_iaload i_X12_decodes_199 (K10_s11 k1) (by decide) w1 (g2 c2).1 (lt_gn (K10_n11 k1) (g2 c2).2) rfl).trans ?_
    refine (tq_aload_n i_X12_decodes_200 rfl (isA_ref _) rfl).trans ?_
    refine (tq_getfield i_X12_decodes_201 (K10_s k1) (gR (g_10_13 (K10_s k1)) (K10_e13 k1)) (isV_ref _) rfl).trans ?_
    refine (tq_iload_n i_X12_decodes_204 rfl rfl).trans ?_
    refine (tq_iaload i_X12_decodes_205 (K10_s13 k1) (by decide) w1 (g2 c2).1 (lt_gn (K10_n13 k1) (g2 c2).2) rfl).trans ?_
    exact c_X12_builds i_X12_decodes_206 (ltd d_X12_decodes (by decide)) (isA_ref _) (isA_ref _) (isA_ref _) (isA_ref _) (isA_ref _) stOk_0 rfl
theorem i_X12_decodes_209 : am_i m_X12_decodes 209 = some (209, .iinc 11 1, 3, [], 0) := rfl
theorem i_X12_decodes_212 : am_i m_X12_decodes 212 = some (212, .goto (-94), 3, [], 0) := rfl
theorem b_X12_decodes_209 {a0 a3 a4 a5 : Nat} {x1 x2 x6 x7 x8 x10 x11 : Int} {v9 v12 v13 : Value} {h : am_H} : rn m_X12_decodes 209 [.ref a0, .int (mI x1), .int (mI x2), .ref a3, .ref a4, .ref a5, .int (mI x6), .int (mI x7), .int (mI x8), v9, .int (mI x10), .int (mI x11), v12, v13] [] h = rn m_X12_decodes 118 [.ref a0, .int (mI x1), .int (mI x2), .ref a3, .ref a4, .ref a5, .int (mI x6), .int (mI x7), .int (mI x8), v9, .int (mI x10), .int (mI (x11 + 1)), v12, v13] [] h := by
  refine (tq_iinc (L' := [.ref a0, .int (mI x1), .int (mI x2), .ref a3, .ref a4, .ref a5, .int (mI x6), .int (mI x7), .int (mI x8), v9, .int (mI x10), .int (mI (x11 + 1)), v12, v13]) i_X12_decodes_209 rfl rfl rfl).trans ?_
  refine (tq_goto (pc' := 118) i_X12_decodes_212 (by decide)).trans ?_
  rfl
theorem i_X12_decodes_243 : am_i m_X12_decodes 243 = some (243, .aload_n 3, 1, [], 0) := rfl
theorem i_X12_decodes_244 : am_i m_X12_decodes 244 = some (244, .areturn, 1, [], 0) := rfl
theorem b_X12_decodes_243 {v0 v1 v2 v4 v5 v6 v7 v8 v9 v10 v11 v12 v13 : Value} {a3 : Nat} {h : am_H} : rn m_X12_decodes 243 [v0, v1, v2, .ref a3, v4, v5, v6, v7, v8, v9, v10, v11, v12, v13] [] h = some (.inl (some (.ref a3)), h) := by
  refine (tq_aload_n i_X12_decodes_243 rfl (isA_ref _) rfl).trans ?_
  exact tq_areturn i_X12_decodes_244 (isA_ref _) r_X12_decodes rfl
/-- what is told of a picture's squares -/
def MPd (Q : Nat → Prop) (h : am_H) (M : Nat) (i : Int) (pd : Nat → Int → Int) : Prop := (∃ L, gA h (M + 12) i = some L ∧ Q L ∧ (sh h L = (1, 0) ∧ gn h L = 256) ∧ ∀ j, 0 ≤ j → j < 256 → gZ h L j = pd 4 j) ∧ (∃ Z, gA h (M + 14) i = some Z ∧ Q Z ∧ (sh h Z = (1, 0) ∧ gn h Z = 16) ∧ ∀ s, 0 ≤ s → s < 16 → gZ h Z (rs s) = pd 0 s) ∧ (∃ O, gA h (M + 15) i = some O ∧ Q O ∧ (sh h O = (1, 0) ∧ gn h O = 16) ∧ ∀ s, 0 ≤ s → s < 16 → gZ h O (rs s) = pd 1 s) ∧ ∃ V, gA h (M + 16) i = some V ∧ Q V ∧ (sh h V = (1, 0) ∧ gn h V = 64) ∧ ∀ s, 0 ≤ s → s < 16 → ((pd 1 s = 4 ∨ pd 1 s = 6) → gZ h V (4 * rs s) = vX (pd 2 s) ∧ gZ h V (4 * rs s + 1) = vY (pd 2 s)) ∧ ((pd 1 s = 5 ∨ pd 1 s = 6) → gZ h V (4 * rs s + 2) = vX (pd 3 s) ∧ gZ h V (4 * rs s + 3) = vY (pd 3 s))
theorem MPd_fr {Q : Nat → Prop} {S : Nat → Nat → Prop} {c s : Nat} {h h' : am_H} {M : Nat} {i : Int} {pd : Nat → Int → Int} (F : Fr S c s h h') (hQ : ∀ a, Q a → a < hnx h ∧ ¬ S a 0) (al : M + 22 < hnx h) (hM : ∀ a, M + 12 ≤ a → a ≤ M + 16 → ¬ S a 0) (m : MPd Q h M i pd) : MPd Q h' M i pd := by
  obtain ⟨⟨L, l1, l2, l3, l4⟩, ⟨Z, z1, z2, z3, z4⟩, ⟨O, o1, o2, o3, o4⟩, V, v1, v2, v3, v4⟩ := m
  have e := fun a (h1 : M + 12 ≤ a) (h2 : a ≤ M + 16) => F.1.gA1 (a := a) (by omega) (hM a h1 h2)
  have g := fun a (qa : Q a) (i : Int) => F.1.gZ1 (a := a) i (hQ a qa).1 (hQ a qa).2
  have t := fun a (qa : Q a) k (p : sh h a = (1, 0) ∧ gn h a = k) => (show sh h' a = (1, 0) ∧ gn h' a = k from ⟨(F.1.sh1 (hQ a qa).1).trans p.1, (F.1.gn1 (hQ a qa).1).trans p.2⟩)
  refine ⟨⟨L, by rw [e _ (by omega) (by omega)]; exact l1, l2, t L l2 _ l3, fun j j0 j1 => by rw [g L l2]; exact l4 j j0 j1⟩, ⟨Z, by rw [e _ (by omega) (by omega)]; exact z1, z2, t Z z2 _ z3, fun j j0 j1 => by rw [g Z z2]; exact z4 j j0 j1⟩, ⟨O, by rw [e _ (by omega) (by omega)]; exact o1, o2, t O o2 _ o3, fun j j0 j1 => by rw [g O o2]; exact o4 j j0 j1⟩, V, by rw [e _ (by omega) (by omega)]; exact v1, v2, t V v2 _ v3, fun s s0 s1 => ?_⟩
  rw [g V v2, g V v2, g V v2, g V v2]
  exact v4 s s0 s1
theorem rs_xy {s : Int} (hs : 0 ≤ s ∧ s < 16) : qr (cx s) (cy s) = rs s := by
  have e : s = 0 ∨ s = 1 ∨ s = 2 ∨ s = 3 ∨ s = 4 ∨ s = 5 ∨ s = 6 ∨ s = 7 ∨ s = 8 ∨ s = 9 ∨ s = 10 ∨ s = 11 ∨ s = 12 ∨ s = 13 ∨ s = 14 ∨ s = 15 := by omega
  rcases e with rfl | rfl | rfl | rfl | rfl | rfl | rfl | rfl | rfl | rfl | rfl | rfl | rfl | rfl | rfl | rfl <;> decide
theorem rs_sq {x y : Int} (hx : 0 ≤ x ∧ x < 16) (hy : 0 ≤ y ∧ y < 16) : rs (sq x y) = 4 * (y / 4) + x / 4 := by
  have e : sq x y = 4 * (2 * (y / 4 / 2) + x / 4 / 2) + (2 * (y / 4 % 2) + x / 4 % 2) := by unfold sq; omega
  have hx4 : x / 4 = 0 ∨ x / 4 = 1 ∨ x / 4 = 2 ∨ x / 4 = 3 := by omega
  have hy4 : y / 4 = 0 ∨ y / 4 = 1 ∨ y / 4 = 2 ∨ y / 4 = 3 := by omega
  rcases hx4 with q | q | q | q <;> rcases hy4 with r | r | r | r <;> (rw [q, r] at e; rw [e, q, r]; decide)
theorem inP_sq {x y X Y Z T : Int} (li : lies X Y Z T) (hx : X ≤ x ∧ x < X + Z) (hy : Y ≤ y ∧ y < Y + Z) : (0 ≤ x ∧ x < 16) ∧ (0 ≤ y ∧ y < 16) ∧ (0 ≤ sq x y ∧ sq x y < 16) ∧ inPart X Y Z (sq x y) := by
  have b : (0 ≤ x ∧ x < 16) ∧ 0 ≤ y ∧ y < 16 := by unfold lies at li; omega
  refine ⟨b.1, b.2, ⟨(pl_xy b.1 b.2).2.1, (pl_xy b.1 b.2).2.2⟩, ?_⟩
  have e := rs_sq b.1 b.2
  have e2 : cx (sq x y) = 4 * (x / 4) ∧ cy (sq x y) = 4 * (y / 4) := by
    have a1 := cx_b (sq x y)
    have a2 := cy_b (sq x y)
    unfold rs at e
    omega
  unfold inPart
  rw [e2.1, e2.2]
  unfold lies at li
  omega
theorem in_idx {b k Z s : Int} (hb : 0 ≤ b ∧ b < 4) (hk : 0 ≤ k ∧ k < 4) (hZ : Z = 4 ∨ Z = 8) (h8 : Z = 8 → k = 0) (hs : 0 ≤ s ∧ s < 16) : inPart (b % 2 * 8 + k % 2 * 4) (b / 2 * 8 + k / 2 * 4) Z s ↔ 4 * b + k ≤ s ∧ s < (if Z = 4 then 4 * b + k + 1 else 4 * b + 4) := by
  unfold inPart
  rcases hZ with rfl | rfl
  · rw [if_pos rfl]
    have g : cx (4 * b + k) = b % 2 * 8 + k % 2 * 4 ∧ cy (4 * b + k) = b / 2 * 8 + k / 2 * 4 := by unfold cx cy; omega
    constructor
    · intro qq
      have a := cx_b s
      have d := cy_b s
      have := c_inj (s := s) (t := 4 * b + k) hs (by omega) (by omega) (by omega)
      omega
    · intro qq
      have : s = 4 * b + k := by omega
      subst this
      omega
  · rw [if_neg (by decide)]
    have := h8 rfl
    subst this
    unfold cx cy
    omega
theorem slo_in {sl b s : Int} (h : 4 * b ≤ s ∧ s < 4 * b + 4) : slo sl s = slo sl (4 * b) := by
  have : 8 ≤ cy s ↔ 8 ≤ cy (4 * b) := by unfold cy; omega
  unfold slo
  simp only [this]
theorem decodes_ok {h : am_H} {M : Nat} {Q : Nat → Prop} {pd : Nat → Int → Int} {f1 f2 s0 : Int → Int} {kd q tl sl lost i a1 a2 : Int} (k : K10 h M) (al : M + 22 < hnx h) (hi : 0 ≤ i ∧ i < 12) (e3 : gZ h (M + 3) i = q) (e4 : gZ h (M + 4) i = tl) (e5 : gZ h (M + 5) i = sl) (e7 : gZ h (M + 7) i = a1) (e8 : gZ h (M + 8) i = a2) (ha1 : -1 ≤ a1 ∧ a1 ≤ 100) (ha2 : -1 ≤ a2 ∧ a2 ≤ 100) (c0 : 0 ≤ fZ h M 45 ∧ fZ h M 45 ≤ 3) (r1 : RLf h M (hnx h) a1 f1) (r2 : RLf h M (hnx h) a2 f2) (pf1 : pixels f1) (pf2 : pixels f2) (mp : MPd Q h M i pd) (hQ : ∀ a, Q a → M + 22 < a ∧ a < hnx h) (hk : isKind kd) (hq : 1 ≤ q ∧ q ≤ 40) (hsl : sl = 1 ∨ sl = 2) (w : ∀ s, 0 ≤ s → s < 16 → pdW pd kd q s) (hl : 0 ≤ lost ∧ lost ≤ 3) (ss : (fA h M 41 = none ∧ ∀ i, 0 ≤ i → i < 256 → s0 i = 128) ∨ ∃ S, fA h M 41 = some S ∧ S < hnx h ∧ (sh h S = (1, 0) ∧ gn h S = 256) ∧ ∀ i, 0 ≤ i → i < 256 → gZ h S i = s0 i) (ps0 : pixels s0) : ∃ (h' : am_H) (p : Int → Int), rn m_X12_decodes 0 [.ref M, .int (mI i), .int (mI lost), am_J, am_J, am_J, am_J, am_J, am_J, am_J, am_J, am_J, am_J, am_J] [] h = some (.inl (some (.ref (hnx h))), h') ∧ Fr (fun _ _ => False) 51 5376 h h' ∧ hnx h < hnx h' ∧ (sh h' (hnx h) = (1, 0) ∧ gn h' (hnx h) = 256) ∧ pixels p ∧ (∀ s, 0 ≤ s → s < 16 → Dcd pd f1 f2 s0 sl q lost p s) ∧ gZ h' (hnx h) = smo q tl sl p := by
  rw [b_X12_decodes_0]
  have wi : wr i = i := wr_id (by omega) (by omega)
  -- the picture, and what is leant on
  generalize hA0 : hnx h = A at *
  have frA : Fr (fun _ _ => False) 1 256 h (aI 0 256 h) := Fr_alc _ _ _
  have nxA : hnx (aI 0 256 h) = A + 1 := by rw [hnx_aI, hA0]
  have sA : sh (aI 0 256 h) A = (1, 0) := by rw [← hA0]; exact sh_aI (by decide)
  have nA : gn (aI 0 256 h) A = 256 := by rw [← hA0]; exact gn_aI _ _ _
  have zA : ∀ j, gZ (aI 0 256 h) A j = 0 := fun j => by rw [← hA0]; exact gZ_aI _ _ _ _
  generalize aI 0 256 h = hA at *
  have RL : ∀ {c s : Nat} {h' : am_H} {a : Int} {f : Int → Int}, Fr (fun _ _ => False) c s h h' → RLf h M A a f → RLf h' M A a f := fun F r => by
    have nx := F.1.nx
    rw [hA0] at nx
    unfold RLf at *
    rw [F.1.fZ1 (by omega) (fun q => q)]
    refine ⟨fun c => ?_, r.2⟩
    obtain ⟨T, t1, t2, t3, t4, t5⟩ := r.1 c
    exact ⟨T, by rw [F.1.gA1 (by omega) (fun q => q)]; exact t1, t2, t3, ⟨(F.1.sh1 (by omega)).trans t4.1, (F.1.gn1 (by omega)).trans t4.2⟩, fun j j0 j1 => by rw [F.1.gZ1 _ (by omega) (fun q => q)]; exact t5 j j0 j1⟩
  have KK : ∀ {S : Nat → Nat → Prop} {c s : Nat} {h' : am_H}, Fr S c s h h' → K10 h' M := fun F => K10_fr F (by omega) k
  have kA := KK frA
  have st := b_X12_decodes_5 (a0 := M) (as0 := A) (x1 := i) (x2 := lost) (v3 := am_J) (v4 := am_J) (v5 := am_J) (v6 := am_J) (v7 := am_J) (v8 := am_J) (v9 := am_J) (v10 := am_J) (v11 := am_J) (v12 := am_J) (v13 := am_J) (h := hA) wi kA hi
  rw [frA.1.gZ1 _ (by omega) (fun q => q), e7] at st
  obtain ⟨h1, T1, g1, fr1, ⟨lT1, lT1', nT1⟩, sT1, gT1⟩ := leant_ok (B := A) kA (by omega) ha1 (by omega) (by rw [frA.1.fZ1 (by omega) (fun q => q)]; exact c0) (RL frA r1)
  rw [g1, cl_v] at st
  have frB : Fr (fun _ _ => False) 2 512 h h1 := Fr_tr (U := fun _ _ => False) frA fr1 (fun _ _ _ q => q) (fun _ _ _ q => q)
  have kB := KK frB
  have st2 := b_X12_decodes_16 (a0 := M) (a3 := A) (as0 := T1) (x1 := i) (x2 := lost) (v4 := am_J) (v5 := am_J) (v6 := am_J) (v7 := am_J) (v8 := am_J) (v9 := am_J) (v10 := am_J) (v11 := am_J) (v12 := am_J) (v13 := am_J) (h := h1) wi kB hi
  rw [frB.1.gZ1 _ (by omega) (fun q => q), e8] at st2
  have nx1 := fr1.1.nx
  obtain ⟨h2, T2, g2, fr2, ⟨lT2, lT2', nT2⟩, sT2, gT2⟩ := leant_ok (B := A) kB (by omega) ha2 (by omega) (by rw [frB.1.fZ1 (by omega) (fun q => q)]; exact c0) (RL frB r2)
  rw [g2, cl_v, b_X12_decodes_28] at st2
  have frC : Fr (fun _ _ => False) 3 768 h h2 := Fr_tr (U := fun _ _ => False) frB fr2 (fun _ _ _ q => q) (fun _ _ _ q => q)
  have nx2 := fr2.1.nx
  have TA1 : T1 ≠ A := by omega
  have TA2 : T2 ≠ A := by omega
  have fr12 : Fr (fun _ _ => False) 2 512 hA h2 := Fr_tr (U := fun _ _ => False) fr1 fr2 (fun _ _ _ q => q) (fun _ _ _ q => q)
  have sA2 : sh h2 A = (1, 0) := (fr12.1.sh1 (by omega)).trans sA
  have nA2 : gn h2 A = 256 := (fr12.1.gn1 (by omega)).trans nA
  have zA2 : ∀ j, gZ h2 A j = 0 := fun j => (fr12.1.gZ1 _ (by omega) (fun q => q)).trans (zA j)
  have gT1' : ∀ j, 0 ≤ j → j < 256 → gZ h2 T1 j = f1 j := fun j j0 j1 => (fr2.1.gZ1 _ (by omega) (fun q => q)).trans (gT1 j j0 j1)
  have sT1' : sh h2 T1 = (1, 0) ∧ gn h2 T1 = 256 := ⟨(fr2.1.sh1 (by omega)).trans sT1.1, (fr2.1.gn1 (by omega)).trans sT1.2⟩
  have pG1 : pixels (gZ h2 T1) := fun j j0 j1 => by rw [gT1' j j0 j1]; exact pf1 j j0 j1
  have pG2 : pixels (gZ h2 T2) := fun j j0 j1 => by rw [gT2 j j0 j1]; exact pf2 j j0 j1
  have hv1 : hv (gZ h2 T1) = hv f1 := hv_congr gT1'
  have hv2 : hv (gZ h2 T2) = hv f2 := hv_congr gT2
  generalize eG1 : gZ h2 T1 = G1 at *
  generalize eG2 : gZ h2 T2 = G2 at *
  rw [st, st2]
  -- what stays
  let S : Nat → Nat → Prop := fun c _ => c = A
  have frH : ∀ {cc ss : Nat} {h' : am_H}, Fr S cc ss h2 h' → Fr S (3 + cc) (768 + ss) h h' := fun F => Fr_tr (U := S) frC F (fun _ _ _ q => q.elim) (fun _ _ _ q => q)
  have nS : ∀ a k, a < A → ¬ S a k := fun a k ha e => by simp only [S] at e; omega
  have fm : ∀ {cc nn : Nat} {h' : am_H}, Fr S cc nn h2 h' → K10 h' M ∧ (gZ h' (M + 3) i = q ∧ gZ h' (M + 4) i = tl ∧ gZ h' (M + 5) i = sl) ∧ MPd Q h' M i pd ∧ (picR h' M (hnx h') (some T1) G1 ∧ picR h' M (hnx h') (some T2) G2) ∧ (sh h' A = (1, 0) ∧ gn h' A = 256) ∧ RSf h' M A s0 ∧ A < hnx h' := fun {cc nn h'} F => by
    have FH := frH F
    have nx := F.1.nx
    refine ⟨KK FH, ⟨(FH.1.gZ1 _ (by omega) (nS _ 0 (by omega))).trans e3, (FH.1.gZ1 _ (by omega) (nS _ 0 (by omega))).trans e4, (FH.1.gZ1 _ (by omega) (nS _ 0 (by omega))).trans e5⟩, MPd_fr FH (fun a qa => ⟨by have := hQ a qa; omega, nS _ 0 (hQ a qa).2⟩) (by omega) (fun a _ h2 => nS _ 0 (by omega)) mp, ⟨⟨T1, rfl, ⟨lT1, by omega⟩, (F.1.sh1 (by omega)).trans sT1'.1, (F.1.gn1 (by omega)).trans sT1'.2, (frZ F (by omega) TA1).trans eG1, pG1⟩, ⟨T2, rfl, ⟨lT2, by omega⟩, (F.1.sh1 (by omega)).trans sT2.1, (F.1.gn1 (by omega)).trans sT2.2, (frZ F (by omega) TA2).trans eG2, pG2⟩⟩, ⟨(F.1.sh1 (by omega)).trans sA2, (F.1.gn1 (by omega)).trans nA2⟩, ?_, by omega⟩
    rcases ss with ⟨u1, u2⟩ | ⟨U, u1, u2, u3, u4⟩
    · exact Or.inl ⟨(FH.1.fA1 (by omega) (nS _ 0 (by omega))).trans u1, u2⟩
    · exact Or.inr ⟨U, (FH.1.fA1 (by omega) (nS _ 0 (by omega))).trans u1, by omega, by omega, ⟨(FH.1.sh1 (by omega)).trans u3.1, (FH.1.gn1 (by omega)).trans u3.2⟩, fun j j0 j1 => (FH.1.gZ1 _ (by omega) (nS _ 0 u2)).trans (u4 j j0 j1)⟩
  let I : Int → am_H → Prop := fun j h' => Fr S (3 * j.toNat) (288 * j.toNat) h2 h' ∧ pixels (gZ h' A) ∧ ∀ s, 0 ≤ s → s < j → Dcd pd G1 G2 s0 sl q lost (gZ h' A) s
  have wl : wr lost = lost := wr_id (by omega) (by omega)
  refine lp (m := m_X12_decodes) (pc := 33) (L := fun b (z : (Value × (Value × Value)) × ((Value × Value) × (Value × Value))) => [.ref M, .int (mI i), .int (mI lost), .ref A, .ref T1, .ref T2, .int (mI b), z.1.1, z.1.2.1, z.1.2.2, z.2.1.1, z.2.1.2, z.2.2.1, z.2.2.2]) (N := 4) (P := fun r => ∃ (h' : am_H) (p : Int → Int), r = some (.inl (some (.ref A)), h') ∧ Fr (fun _ _ => False) 51 5376 h h' ∧ A < hnx h' ∧ (sh h' A = (1, 0) ∧ gn h' A = 256) ∧ pixels p ∧ (∀ s, 0 ≤ s → s < 16 → Dcd pd f1 f2 s0 sl q lost p s) ∧ gZ h' A = smo q tl sl p) (fun b _ h' => 0 ≤ b ∧ I (4 * b) h') ?_ ?_ 0 ((am_J, (am_J, am_J)), ((am_J, am_J), (am_J, am_J))) h2 (by omega) ⟨by omega, Fr_rf _ _, fun j j0 j1 => by rw [zA2]; omega, fun s _ _ => by omega⟩
  · intro b z h' hb4 ⟨b0, fr, hp, dc⟩
    obtain ⟨⟨z7, z8, z9⟩, ⟨z10, z11⟩, z12, z13⟩ := z
    obtain ⟨k', ⟨f3, f4, f5⟩, mp', ⟨pr1, pr2⟩, ⟨sP, nP⟩, rsf, lA⟩ := fm fr
    obtain ⟨Z, z1', z2', z3', z4'⟩ := mp'.2.1
    have geo : ∀ k, 0 ≤ k → k < 4 → cx (4 * b + k) = b % 2 * 8 + k % 2 * 4 ∧ cy (4 * b + k) = b / 2 * 8 + k / 2 * 4 := fun k k0 k1 => by unfold cx cy; omega
    have g0 := geo 0 (by omega) (by omega)
    rw [Int.add_zero] at g0
    have rb := rs_b (4 * b)
    have w0 := w (4 * b) (by omega) (by omega)
    have s01 := slo_01 sl (4 * b)
    have sb := slo_blk (sl := sl) (b := b) (k := 0) ⟨b0, hb4⟩ (by omega) hsl
    rw [Int.add_zero] at sb
    have pw := pw_b hl.1 (slo sl (4 * b)).toNat
    have eX : (Int.tmod b 2) * 8 = b % 2 * 8 := by rw [tmd b0]
    have eY : (Int.tdiv b 2) * 8 = b / 2 * 8 := by rw [tdv b0]
    have eq : qr (wr (b % 2 * 8)) (wr (b / 2 * 8)) = rs (4 * b) := by
      rw [wr_id (z := b % 2 * 8) (by omega) (by omega), wr_id (z := b / 2 * 8) (by omega) (by omega), ← rs_xy ⟨by omega, by omega⟩, g0.1, g0.2]
      congr 1 <;> omega
    have st := b_X12_decodes_33 (a0 := M) (a3 := A) (a4 := T1) (a5 := T2) (b_82 := Z) (n_b_82 := 16) (k_96 := (slo sl (4 * b)).toNat) (v7 := z7) (v8 := z8) (v9 := z9) (v10 := z10) (v11 := z11) (v12 := z12) (v13 := z13) (h := h') wi wl (wr_id (z := b) (by omega) (by omega)) k' (fun _ => hi) (fun _ => hi) (fun _ => z1') (fun _ => by rw [eX, wr_id (by omega) (by omega)]; omega) (fun _ => by rw [eY, wr_id (by omega) (by omega)]; omega) (fun _ => z3'.2) (fun _ => z3'.1) (fun _ => by rw [eX, eY, eq]; omega) (fun _ => by
      rw [f5, tdv b0, wr_id (by omega) (by omega)]
      split at sb
      · rw [if_neg (by omega)]; omega
      · split <;> omega) (fun _ => by omega)
    rw [if_neg (by omega), eX, eY, eq, z4' _ (by omega) (by omega), wr_id (z := lost / 2 ^ (slo sl (4 * b)).toNat) (by omega) (by omega), show (2 : Int) ^ 1 = 2 by decide] at st
    have lb : ∀ s, 4 * b ≤ s → s < 4 * b + 4 → (lostAt lost sl s ↔ lostAt lost sl (4 * b)) := fun s s0' s1 => by
      unfold lostAt
      rw [slo_in (b := b) ⟨s0', s1⟩]
    by_cases l : lostAt lost sl (4 * b)
    · -- lost
      rw [if_neg (fun g => g l)] at st
      obtain ⟨h3, c1, m3, c3⟩ := conceals_ok (X := b % 2 * 8) (Y := b / 2 * 8) k' sP nP rsf ps0 (by omega) (by omega)
      rw [c1, cl_n, b_X12_decodes_112] at st
      have inb : ∀ s k, 0 ≤ s → s < 16 → 0 ≤ k → k < 16 → (inB (b % 2 * 8) (b / 2 * 8) (pl s k) ↔ 4 * b ≤ s ∧ s < 4 * b + 4) := by
        intro s k s0' s1 k0 k1
        obtain ⟨x1, x2, x3, x4⟩ := pl_xy2 (s := s) (k := k) ⟨s0', s1⟩ ⟨k0, k1⟩
        have a := cx_b s
        have d := cy_b s
        have e1 : pl s k % 16 = cx s + k % 4 := by omega
        have e2 : pl s k / 16 = cy s + k / 4 := by omega
        unfold inB
        rw [e1, e2]
        unfold cx cy
        omega
      have ag : agr (4 * b) pd pd (gZ h' A) (gZ h3 A) := fun t t0 t1 => ⟨⟨rfl, rfl, rfl, rfl⟩, fun k k0 k1 => ⟨rfl, ((c3 _ (pl_b t k).1 (pl_b t k).2).2 fun g => by have := (inb t k t0 (by omega) k0 k1).mp g; omega).symm⟩⟩
      refine ⟨((_, (_, _)), ((_, _), (_, _))), h3, st, by omega, Fr_mono (Fr_tr (U := S) fr (md_fr m3) (fun _ _ _ q => q) (fun _ _ _ q => q)) (fun _ _ _ q => q) (by omega) (by omega), fun j j0 j1 => ?_, fun s s0' s1 => ?_⟩
      · by_cases g : inB (b % 2 * 8) (b / 2 * 8) j
        · rw [(c3 j j0 j1).1 g]; exact ps0 j j0 j1
        · rw [(c3 j j0 j1).2 g]; exact hp j j0 j1
      · by_cases g : s < 4 * b
        · exact Dcd_agr ag ⟨s0', by omega⟩ g (dc s s0' g)
        · refine ⟨fun _ k k0 k1 => (c3 _ (pl_b s k).1 (pl_b s k).2).1 ((inb s k s0' (by omega) k0 k1).mpr (by omega)), fun nl => absurd ((lb s (by omega) (by omega)).mpr l) nl⟩
    · -- there
      rw [if_pos (show ¬ lost / 2 ^ (slo sl (4 * b)).toNat % 2 = 1 from l)] at st
      have hZ : pd 0 (4 * b) = 4 ∨ pd 0 (4 * b) = 8 := w0.1
      obtain ⟨Y, eYv⟩ : ∃ Y, Y = (Value.int (mI (if ¬ gZ h' (M + 5) i = 2 then (0 : Int) else Int.tdiv b 2))) := ⟨_, rfl⟩
      rw [← eYv] at st
      clear eYv
      have part : ∀ (k : Int) (h3 : am_H) (z12 z13 : Value), 0 ≤ k → k < 4 → (pd 0 (4 * b) = 8 → k = 0) → I (4 * b + k) h3 → ∃ (h4 : am_H) (y12 y13 : Value), rn m_X12_decodes 118 [.ref M, .int (mI i), .int (mI lost), .ref A, .ref T1, .ref T2, .int (mI b), .int (mI (b % 2 * 8)), .int (mI (b / 2 * 8)), Y, .int (mI (pd 0 (4 * b))), .int (mI k), z12, z13] [] h3 = rn m_X12_decodes 118 [.ref M, .int (mI i), .int (mI lost), .ref A, .ref T1, .ref T2, .int (mI b), .int (mI (b % 2 * 8)), .int (mI (b / 2 * 8)), Y, .int (mI (pd 0 (4 * b))), .int (mI (k + 1)), y12, y13] [] h4 ∧ I (if pd 0 (4 * b) = 4 then 4 * b + k + 1 else 4 * b + 4) h4 := by
        intro k h3 z12 z13 k0 k1 h8 ⟨fr3, hp3, dc3⟩
        obtain ⟨k3, ⟨f3, f4, f5⟩, mp3, ⟨pr1, pr2⟩, ⟨sP3, nP3⟩, -, lA3⟩ := fm fr3
        obtain ⟨⟨L, l1, l2, l3, l4⟩, -, ⟨O, o1, o2, o3, o4⟩, V, v1, v2, v3, v4⟩ := mp3
        obtain ⟨gx, gy⟩ := geo k k0 k1
        have ws := w (4 * b + k) (by omega) (by omega)
        have e0 : pd 0 (4 * b + k) = pd 0 (4 * b) := by rw [ws.2.1, show 4 * ((4 * b + k) / 4) = 4 * b by omega]
        have sst : (4 * b + k) % 4 = 0 ∨ pd 0 (4 * b + k) = 4 := by
          rcases hZ with e | e
          · exact Or.inr (e0.trans e)
          · have := h8 e
            exact Or.inl (by omega)
        have sz : SZ (pd 0) (4 * b + k) = pd 0 (4 * b) := by
          unfold SZ
          rw [e0]
          rcases hZ with e | e
          · rw [if_pos e, e]
          · rw [if_neg (by omega), e]
        have li := lies_s (z := pd 0) (s := 4 * b + k) (sl := sl)
        rw [(st_xy sst).1, (st_xy sst).2, sz, gx, gy] at li
        have nk : (if ¬ pd 0 (4 * b) = 8 then (4 : Int) else 1) > k := by
          by_cases c : pd 0 (4 * b) = 8
          · rw [if_neg (fun g => g c)]; have := h8 c; omega
          · rw [if_pos c]; omega
        have rq : qr (wr (b % 2 * 8 + k % 2 * 4)) (wr (b / 2 * 8 + k / 2 * 4)) = rs (4 * b + k) := by
          rw [wr_id (by omega) (by omega), wr_id (by omega) (by omega), ← gx, ← gy, rs_xy ⟨by omega, by omega⟩]
        have rb3 := rs_b (4 * b + k)
        have st3 := b_X12_decodes_118 (a0 := M) (a3 := A) (a4 := T1) (a5 := T2) (b_173 := O) (n_b_173 := 16) (b_187 := V) (b_193 := L) (x2 := lost) (x6 := b) (x7 := b % 2 * 8) (x8 := b / 2 * 8) (v9 := Y) (v12 := z12) (v13 := z13) (h := h3) wi (wr_id (z := pd 0 (4 * b)) (by omega) (by omega)) (wr_id (z := k) (by omega) (by omega)) k3 (fun _ => hi) (fun _ => o1) (fun _ => by rw [tmd k0, wr_id (by omega) (by omega)]; omega) (fun _ => by rw [tdv k0, wr_id (by omega) (by omega)]; omega) (fun _ => o3.2) (fun _ => o3.1) (fun _ => by rw [tmd k0, tdv k0, rq]; omega) (fun _ => v1) (fun _ => l1)
        rw [if_neg (by omega), tmd k0, tdv k0, rq, o4 _ (by omega) (by omega), f3, f5] at st3
        have inp := fun s (hs : 0 ≤ s ∧ s < 16) => in_idx (b := b) (k := k) (Z := pd 0 (4 * b)) (s := s) ⟨b0, hb4⟩ ⟨k0, k1⟩ hZ h8 hs
        have same : ∀ s, 4 * b + k ≤ s → s < (if pd 0 (4 * b) = 4 then 4 * b + k + 1 else 4 * b + 4) → pd 1 s = pd 1 (4 * b + k) ∧ pd 2 s = pd 2 (4 * b + k) ∧ pd 3 s = pd 3 (4 * b + k) := by
          intro s s0' s1
          by_cases c : pd 0 (4 * b) = 4
          · rw [if_pos c] at s1
            have : s = 4 * b + k := by omega
            rw [this]; exact ⟨rfl, rfl, rfl⟩
          · rw [if_neg c] at s1
            have kk : k = 0 := h8 (by omega)
            have wt := w s (by omega) (by omega)
            have e4 : 4 * (s / 4) = 4 * b + k := by omega
            unfold pdW at wt
            rw [e4] at wt
            exact wt.2.2.1 (by rw [wt.2.1, e0]; exact c)
        have nb := nmo_b hk
        have hm := ws.2.2.2.1
        have lQ := hQ L l2
        have vQ := hQ V v2
        have nx3 := fr3.1.nx
        obtain ⟨h4, b1, fr4, dn⟩ := builds2_ok (h := h3) (M := M) (N := hnx h3) (P := A) (V := V) (L := L) (r1 := some T1) (r2 := some T2) (p := gZ h3 A) (f1 := G1) (f2 := G2) (l := gZ h3 L) (X := b % 2 * 8 + k % 2 * 4) (Y := b / 2 * 8 + k / 2 * 4) (Z := pd 0 (4 * b)) (sl := sl) (m := pd 1 (4 * b + k)) (v1 := pd 2 (4 * b + k)) (v2 := pd 3 (4 * b + k)) (q := q) ⟨⟨sP3, nP3, rfl, hp3⟩, v3, ⟨hm.1, by omega⟩, fun c4 => ⟨fun _ => pr1, fun _ => pr2, fun x y x0 x1 y0 y1 => by
          obtain ⟨i1, i2, i3, i4⟩ := inP_sq li ⟨x0, x1⟩ ⟨y0, y1⟩
          have ii := (inp _ i3).mp i4
          obtain ⟨m1, m2, m3⟩ := same _ ii.1 ii.2
          have vv := v4 _ i3.1 i3.2
          rw [m1, m2, m3, rs_sq i1 i2] at vv
          exact ⟨fun n5 => ⟨(vv.1 (by omega)).1, (vv.1 (by omega)).2, ws.2.2.2.2.1 (by omega)⟩, fun n4 => ⟨(vv.2 (by omega)).1, (vv.2 (by omega)).2, ws.2.2.2.2.2.1 (by omega)⟩⟩⟩⟩ (Nat.le_refl _) lA3 (by omega) (by omega) (by omega) l3.1 l3.2 (by omega) rfl (fun j j0 j1 => by
          obtain ⟨s, k', hs, hk', ej⟩ := pl_all ⟨j0, j1⟩
          rw [l4 j j0 j1, ej]
          exact (w s hs.1 hs.2).2.2.2.2.2.2 k' hk'.1 hk'.2) li hsl hq
        have b1' : rn m_X12_builds 0 [.ref A, .ref T1, .ref T2, .int (mI (b % 2 * 8 + k % 2 * 4)), .int (mI (b / 2 * 8 + k / 2 * 4)), .int (mI (pd 0 (4 * b))), .int (mI (pd 1 (4 * b + k))), .ref V, .ref L, .int (mI q), .int (mI sl), am_J, am_J, am_J, am_J, am_J, am_J, am_J] [] h3 = some (.inl none, h4) := b1
        rw [b1', cl_n, b_X12_decodes_209] at st3
        have sd : (1 + 2 * (side (pd 0 (4 * b)) * side (pd 0 (4 * b))).toNat) ≤ 3 * ((if pd 0 (4 * b) = 4 then 4 * b + k + 1 else 4 * b + 4) - (4 * b + k)).toNat ∧ (256 + 32 * (side (pd 0 (4 * b)) * side (pd 0 (4 * b))).toNat) ≤ 288 * ((if pd 0 (4 * b) = 4 then 4 * b + k + 1 else 4 * b + 4) - (4 * b + k)).toNat := by
          rcases hZ with e | e
          · rw [e, if_pos rfl, show (side 4 * side 4).toNat = 1 by decide]; omega
          · rw [e, if_neg (by decide), show (side 8 * side 8).toNat = 4 by decide]; have := h8 e; omega
        have iJ : 4 * b + k < (if pd 0 (4 * b) = 4 then 4 * b + k + 1 else 4 * b + 4) ∧ (if pd 0 (4 * b) = 4 then 4 * b + k + 1 else 4 * b + 4) ≤ 4 * b + 4 := by split <;> omega
        have out : ∀ t j, 0 ≤ t → t < 4 * b + k → 0 ≤ j → j < 16 → gZ h4 A (pl t j) = gZ h3 A (pl t j) := fun t j t0 t1 j0 j1 => (dn t j t0 (by omega) j0 j1).2 fun g => by have := (inp t ⟨t0, by omega⟩).mp g; omega
        have ag : agr (4 * b + k) pd pd (gZ h3 A) (gZ h4 A) := fun t t0 t1 => ⟨⟨rfl, rfl, rfl, rfl⟩, fun j j0 j1 => ⟨rfl, (out t j t0 t1 j0 j1).symm⟩⟩
        refine ⟨h4, _, _, st3, ?_, ?_, ?_⟩
        · exact Fr_mono (Fr_tr (U := S) fr3 fr4 (fun _ _ _ q => q) (fun _ _ _ q => q)) (fun _ _ _ q => q) (by omega) (by omega)
        · intro j j0 j1
          obtain ⟨s, k', hs, hk', ej⟩ := pl_all ⟨j0, j1⟩
          rw [ej]
          by_cases g : inPart (b % 2 * 8 + k % 2 * 4) (b / 2 * 8 + k / 2 * 4) (pd 0 (4 * b)) s
          · rw [(dn s k' hs.1 hs.2 hk'.1 hk'.2).1 g]
            exact ⟨clampv_0 _, clampv_255 _⟩
          · rw [(dn s k' hs.1 hs.2 hk'.1 hk'.2).2 g]
            exact hp3 _ (pl_b s k').1 (pl_b s k').2
        · intro s s0' s1
          by_cases g : s < 4 * b + k
          · exact Dcd_agr ag ⟨s0', by omega⟩ g (dc3 s s0' g)
          · have s16 : s < 16 := by omega
            refine ⟨fun ll => absurd ((lb s (by omega) (by omega)).mp ll) l, fun _ k' k0' k1' => ?_⟩
            have gi := (inp s ⟨s0', s16⟩).mpr ⟨by omega, s1⟩
            rw [(dn s k' s0' s16 k0' k1').1 gi]
            have gp := Gq_part (pd := pd) (f1 := G1) (f2 := G2) (p := gZ h3 A) (sl := sl) (i := 4 * b + k) (s := s) (x := cx s + k' % 4) (y := cy s + k' / 4) w ⟨by omega, by omega⟩ sst (by omega) (by rw [e0, show 4 * ((4 * b + k) / 4) = 4 * b by omega]; exact s1)
            rw [gx, gy, sz] at gp
            have stq : sq (X0 (pd 0) s) (Y0 (pd 0) s) ≤ 4 * b + k := by
              by_cases c : pd 0 (4 * b) = 4
              · rw [if_pos c] at s1
                have := start_le (z := pd 0) (s := s) ⟨s0', s16⟩
                omega
              · rw [if_neg c] at s1
                have kk : k = 0 := h8 (by omega)
                have wt := w s s0' s16
                rw [start8 ⟨s0', s16⟩ (by rw [wt.2.1, show 4 * (s / 4) = 4 * b by omega]; exact c)]
                omega
            rw [← gp, Gq_st (pd' := pd) ⟨rfl, rfl, rfl, rfl⟩ (agp_le (agr_p ag) stq) ⟨s0', s16⟩ ⟨k0', k1'⟩]
            rw [dif_congr fun j j0 j1 => l4 _ (pl_b s j).1 (pl_b s j).2]
      have fin := fun (u : Int) (h3 : am_H) (z12 z13 : Value) (hu : 0 ≤ u ∧ u ≤ 4) (hu2 : (if ¬ pd 0 (4 * b) = 8 then (4 : Int) else 1) ≤ u) (kk : K10 h3 M) => b_X12_decodes_118 (a0 := M) (a3 := A) (a4 := T1) (a5 := T2) (b_173 := 0) (n_b_173 := 16) (b_187 := 0) (b_193 := 0) (x2 := lost) (x6 := b) (x7 := b % 2 * 8) (x8 := b / 2 * 8) (v9 := Y) (v12 := z12) (v13 := z13) (h := h3) wi (wr_id (z := pd 0 (4 * b)) (by omega) (by omega)) (wr_id (z := u) (by omega) (by omega)) kk (fun g => absurd hu2 g) (fun g => absurd hu2 g) (fun g => absurd hu2 g) (fun g => absurd hu2 g) (fun g => absurd hu2 g) (fun g => absurd hu2 g) (fun g => absurd hu2 g) (fun g => absurd hu2 g) (fun g => absurd hu2 g)
      rcases hZ with e | e
      · have := lp (m := m_X12_decodes) (pc := 118) (L := fun k (z : Value × Value) => [.ref M, .int (mI i), .int (mI lost), .ref A, .ref T1, .ref T2, .int (mI b), .int (mI (b % 2 * 8)), .int (mI (b / 2 * 8)), Y, .int (mI (pd 0 (4 * b))), .int (mI k), z.1, z.2]) (N := 4) (P := fun r => ∃ (s' : (Value × (Value × Value)) × ((Value × Value) × (Value × Value))) (h'' : am_H), r = rn m_X12_decodes 33 [.ref M, .int (mI i), .int (mI lost), .ref A, .ref T1, .ref T2, .int (mI (b + 1)), s'.1.1, s'.1.2.1, s'.1.2.2, s'.2.1.1, s'.2.1.2, s'.2.2.1, s'.2.2.2] [] h'' ∧ 0 ≤ b + 1 ∧ I (4 * (b + 1)) h'') (fun k _ h3 => 0 ≤ k ∧ I (4 * b + k) h3) ?_ ?_ 0 (z12, z13) h' (by omega) ⟨by omega, by rw [Int.add_zero]; exact ⟨fr, hp, dc⟩⟩
        · obtain ⟨s', h'', e3', r3⟩ := this
          exact ⟨s', h'', st.trans e3', r3⟩
        · intro k z h3 hk4 ⟨k0, i3⟩
          obtain ⟨h4, y12, y13, e4', i4⟩ := part k h3 z.1 z.2 k0 hk4 (fun g => by omega) i3
          rw [if_pos e] at i4
          exact ⟨(y12, y13), h4, e4', by omega, by rw [show 4 * b + (k + 1) = 4 * b + k + 1 by omega]; exact i4⟩
        · intro z h3 ⟨k0, i3⟩
          have f := fin 4 h3 z.1 z.2 (by omega) (by rw [if_pos (by omega)]; omega) (fm i3.1).1
          rw [if_pos (by rw [if_pos (by omega)]; omega)] at f
          exact ⟨((_, (_, _)), ((_, _), (_, _))), h3, f, by omega, by rw [show 4 * (b + 1) = 4 * b + 4 by omega]; exact i3⟩
      · obtain ⟨h4, y12, y13, e4', i4⟩ := part 0 h' z12 z13 (by omega) (by omega) (fun _ => rfl) (by rw [Int.add_zero]; exact ⟨fr, hp, dc⟩)
        rw [if_neg (by omega)] at i4
        have f := fin (0 + 1) h4 y12 y13 (by omega) (by rw [if_neg (by omega)]; omega) (fm i4.1).1
        rw [if_pos (by rw [if_neg (by omega)]; omega)] at f
        exact ⟨((_, (_, _)), ((_, _), (_, _))), h4, st.trans (e4'.trans f), by omega, by rw [show 4 * (b + 1) = 4 * b + 4 by omega]; exact i4⟩
  · intro z h' ⟨b0, fr, hp, dc⟩
    obtain ⟨⟨z7, z8, z9⟩, ⟨z10, z11⟩, z12, z13⟩ := z
    obtain ⟨k', ⟨f3, f4, f5⟩, mp', -, ⟨sP, nP⟩, rsf, lA⟩ := fm fr
    have st := b_X12_decodes_33 (a0 := M) (a3 := A) (a4 := T1) (a5 := T2) (b_82 := 0) (n_b_82 := 16) (k_96 := 0) (v7 := z7) (v8 := z8) (v9 := z9) (v10 := z10) (v11 := z11) (v12 := z12) (v13 := z13) (h := h') wi wl (wr_id (z := 4) (by omega) (by omega)) k' (fun _ => hi) (fun _ => hi) (fun g => absurd (by omega) g) (fun g => absurd (by omega) g) (fun g => absurd (by omega) g) (fun g => absurd (by omega) g) (fun g => absurd (by omega) g) (fun g => absurd (by omega) g) (fun g => absurd (by omega) g) (fun g => absurd (by omega) g)
    rw [if_pos (by omega), f3, f4, f5] at st
    obtain ⟨h3, e3', m3, g3⟩ := smooths_ok (tl := tl) sP nP (by decide) hp hq hsl
    rw [e3', cl_n, b_X12_decodes_243] at st
    have nx3 := md_nx m3
    refine ⟨h3, gZ h' A, st, ?_, by omega, ⟨(md_sh m3 _).trans sP, (md_gn m3 _).trans nP⟩, hp, fun s s0' s1 => Dcd_hv hv1 hv2 (fun _ _ _ => rfl) (dc s s0' s1), g3⟩
    exact Fr_mono (Fr_tr (U := S) (frH fr) (md_fr m3) (fun _ _ _ q => q) (fun _ _ _ q => q)) (fun a k ha q => by simp only [S] at q; omega) (by omega) (by omega)
