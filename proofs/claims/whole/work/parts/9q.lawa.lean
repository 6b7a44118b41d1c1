/-! ===== the law: its instructions, up to the coding ===== -/
theorem i_L_law_0 : am_i m_L_law 0 = some (0, .new 8, 3, [9], 0) := (lk_0).trans rfl
theorem b_L_law_0 {a0 : Nat} {h : am_H} : rn m_L_law 0 [.ref a0, am_J, am_J, am_J, am_J, am_J, am_J, am_J, am_J] [] h = rn m_L_law 3 [.ref a0, am_J, am_J, am_J, am_J, am_J, am_J, am_J, am_J] [.ref (hnx h)] (aO 9 h) := by
  exact tq_new i_L_law_0 rfl
theorem i_L_law_3 : am_i m_L_law 3 = some (3, .dup, 1, [], 0) := (lk_0).trans rfl
theorem i_L_law_4 : am_i m_L_law 4 = some (4, .invokespecial 129, 3, [172], 0) := (lk_0).trans rfl
theorem b_L_law_3 {a0 as0 : Nat} {v1 v2 v3 v4 v5 v6 v7 v8 : Value} {h : am_H} : rn m_L_law 3 [.ref a0, v1, v2, v3, v4, v5, v6, v7, v8] [.ref as0] h = cl m_L_law 7 [.ref a0, v1, v2, v3, v4, v5, v6, v7, v8] [.ref as0] (rn m_X11_init 0 [.ref as0] [] h) := by
  refine (tq_dup i_L_law_3 rfl rfl).trans ?_
  exact c_X11_init i_L_law_4 (ltd d_L_law (by decide)) (stOk_1 _) rfl
theorem i_L_law_7 : am_i m_L_law 7 = some (7, .astore_n 1, 1, [], 0) := (lk_0).trans rfl
theorem i_L_law_8 : am_i m_L_law 8 = some (8, .new 130, 3, [10], 0) := (lk_0).trans rfl
theorem b_L_law_7 {a0 as0 : Nat} {v1 v2 v3 v4 v5 v6 v7 v8 : Value} {h : am_H} : rn m_L_law 7 [.ref a0, v1, v2, v3, v4, v5, v6, v7, v8] [.ref as0] h = rn m_L_law 11 [.ref a0, .ref as0, v2, v3, v4, v5, v6, v7, v8] [.ref (hnx h)] (aO 10 h) := by
  refine (tq_astore_n (L' := [.ref a0, .ref as0, v2, v3, v4, v5, v6, v7, v8]) i_L_law_7 (isA_ref _) rfl rfl).trans ?_
  exact tq_new i_L_law_8 rfl
theorem i_L_law_11 : am_i m_L_law 11 = some (11, .dup, 1, [], 0) := (lk_0).trans rfl
theorem i_L_law_12 : am_i m_L_law 12 = some (12, .invokespecial 132, 3, [77], 0) := (lk_0).trans rfl
theorem b_L_law_11 {a0 a1 as0 : Nat} {v2 v3 v4 v5 v6 v7 v8 : Value} {h : am_H} : rn m_L_law 11 [.ref a0, .ref a1, v2, v3, v4, v5, v6, v7, v8] [.ref as0] h = cl m_L_law 15 [.ref a0, .ref a1, v2, v3, v4, v5, v6, v7, v8] [.ref as0] (rn m_X12_init 0 [.ref as0] [] h) := by
  refine (tq_dup i_L_law_11 rfl rfl).trans ?_
  exact c_X12_init i_L_law_12 (ltd d_L_law (by decide)) (stOk_1 _) rfl
theorem i_L_law_15 : am_i m_L_law 15 = some (15, .astore_n 2, 1, [], 0) := (lk_0).trans rfl
theorem i_L_law_16 : am_i m_L_law 16 = some (16, .iconst 1, 1, [], 1) := (lk_0).trans rfl
theorem i_L_law_17 : am_i m_L_law 17 = some (17, .newarray .long, 2, [], 0) := (lk_0).trans rfl
theorem b_L_law_15 {a0 a1 as0 : Nat} {v2 v3 v4 v5 v6 v7 v8 : Value} {h : am_H} : rn m_L_law 15 [.ref a0, .ref a1, v2, v3, v4, v5, v6, v7, v8] [.ref as0] h = rn m_L_law 19 [.ref a0, .ref a1, .ref as0, v3, v4, v5, v6, v7, v8] [.ref (hnx h)] (aJ 1 h) := by
  refine (tq_astore_n (L' := [.ref a0, .ref a1, .ref as0, v3, v4, v5, v6, v7, v8]) i_L_law_15 (isA_ref _) rfl rfl).trans ?_
  refine (tq_iconst i_L_law_16 rfl).trans ?_
  exact tq_newJ (n := 1) i_L_law_17 w_1 (by decide) rfl
theorem i_L_law_19 : am_i m_L_law 19 = some (19, .astore_n 3, 1, [], 0) := (lk_0).trans rfl
theorem i_L_law_20 : am_i m_L_law 20 = some (20, .iconst 1, 1, [], 1) := (lk_0).trans rfl
theorem i_L_law_21 : am_i m_L_law 21 = some (21, .newarray .double, 2, [], 0) := (lk_0).trans rfl
theorem b_L_law_19 {a0 a1 a2 as0 : Nat} {v3 v4 v5 v6 v7 v8 : Value} {h : am_H} : rn m_L_law 19 [.ref a0, .ref a1, .ref a2, v3, v4, v5, v6, v7, v8] [.ref as0] h = rn m_L_law 23 [.ref a0, .ref a1, .ref a2, .ref as0, v4, v5, v6, v7, v8] [.ref (hnx h)] (aD 1 h) := by
  refine (tq_astore_n (L' := [.ref a0, .ref a1, .ref a2, .ref as0, v4, v5, v6, v7, v8]) i_L_law_19 (isA_ref _) rfl rfl).trans ?_
  refine (tq_iconst i_L_law_20 rfl).trans ?_
  exact tq_newD (n := 1) i_L_law_21 w_1 (by decide) rfl
theorem i_L_law_23 : am_i m_L_law 23 = some (23, .astore 4, 2, [], 0) := (lk_0).trans rfl
theorem i_L_law_25 : am_i m_L_law 25 = some (25, .iconst 0, 1, [], 0) := (lk_0).trans rfl
theorem i_L_law_26 : am_i m_L_law 26 = some (26, .istore 5, 2, [], 0) := (lk_0).trans rfl
theorem b_L_law_23 {a0 a1 a2 a3 as0 : Nat} {v4 v5 v6 v7 v8 : Value} {h : am_H} : rn m_L_law 23 [.ref a0, .ref a1, .ref a2, .ref a3, v4, v5, v6, v7, v8] [.ref as0] h = rn m_L_law 28 [.ref a0, .ref a1, .ref a2, .ref a3, .ref as0, .int (mI 0), v6, v7, v8] [] h := by
  refine (tq_astore (L' := [.ref a0, .ref a1, .ref a2, .ref a3, .ref as0, v5, v6, v7, v8]) i_L_law_23 (isA_ref _) rfl rfl).trans ?_
  refine (tq_iconst i_L_law_25 rfl).trans ?_
  refine (tq_istore (L' := [.ref a0, .ref a1, .ref a2, .ref a3, .ref as0, .int (mI 0), v6, v7, v8]) i_L_law_26 rfl rfl).trans ?_
  rfl
theorem i_L_law_28 : am_i m_L_law 28 = some (28, .iload 5, 2, [], 0) := (lk_0).trans rfl
theorem i_L_law_30 : am_i m_L_law 30 = some (30, .aload_n 0, 1, [], 0) := (lk_0).trans rfl
theorem i_L_law_31 : am_i m_L_law 31 = some (31, .arraylength, 1, [], 0) := (lk_0).trans rfl
theorem i_L_law_32 : am_i m_L_law 32 = some (32, .bipush 6, 2, [], 6) := (lk_0).trans rfl
theorem i_L_law_34 : am_i m_L_law 34 = some (34, .isub, 1, [], 0) := (lk_0).trans rfl
theorem i_L_law_35 : am_i m_L_law 35 = some (35, .if_icmp .gt 2354, 3, [], 0) := (lk_0).trans rfl
theorem i_L_law_38 : am_i m_L_law 38 = some (38, .aload_n 0, 1, [], 0) := (lk_0).trans rfl
theorem i_L_law_39 : am_i m_L_law 39 = some (39, .iload 5, 2, [], 0) := (lk_0).trans rfl
theorem i_L_law_41 : am_i m_L_law 41 = some (41, .iaload, 1, [], 0) := (lk_0).trans rfl
theorem i_L_law_42 : am_i m_L_law 42 = some (42, .bipush 63, 2, [], 63) := (lk_0).trans rfl
theorem i_L_law_44 : am_i m_L_law 44 = some (44, .iand, 1, [], 0) := (lk_0).trans rfl
theorem i_L_law_45 : am_i m_L_law 45 = some (45, .tableswitch 2338 0 35 #[159, 263, 343, 411, 479, 547, 603, 659, 715, 756, 824, 906, 919, 932, 988, 1001, 1045, 1101, 1157, 1225, 1305, 1385, 1465, 1573, 1653, 1733, 1788, 1844, 1888, 1944, 2000, 2044, 2112, 2163, 2207, 2272], 159, [], 0) := (lk_0).trans rfl
theorem i_L_law_2389 : am_i m_L_law 2389 = some (2389, .iconst 1, 1, [], 1) := (lk_23 (Nat.le_of_ble_eq_true rfl)).trans rfl
theorem i_L_law_2390 : am_i m_L_law 2390 = some (2390, .ireturn, 1, [], 0) := (lk_23 (Nat.le_of_ble_eq_true rfl)).trans rfl
theorem b_L_law_28 {a0 a1 a2 a3 a4 n_a0 : Nat} {x5 x5' : Int} {v6 v7 v8 : Value} {h : am_H} (w5 : wr x5 = x5') (n1 : gn h a0 = n_a0) (s2 : sh h a0 = (1, 7)) (g3 : (¬ ((wr ((n_a0 : Int) - 6)) < x5')) → (0 ≤ x5' ∧ x5' < (n_a0 : Int))) : rn m_L_law 28 [.ref a0, .ref a1, .ref a2, .ref a3, .ref a4, .int (mI x5), v6, v7, v8] [] h = if (wr ((n_a0 : Int) - 6)) < x5' then some (.inl (some (.int (mI 1))), h) else sw ((gZ h a0 x5') % 2 ^ 6) (fun p => rn m_L_law p [.ref a0, .ref a1, .ref a2, .ref a3, .ref a4, .int (mI x5), v6, v7, v8] [] h) 2383 0 [204, 308, 388, 456, 524, 592, 648, 704, 760, 801, 869, 951, 964, 977, 1033, 1046, 1090, 1146, 1202, 1270, 1350, 1430, 1510, 1618, 1698, 1778, 1833, 1889, 1933, 1989, 2045, 2089, 2157, 2208, 2252, 2317] := by
  refine (tq_iload i_L_law_28 rfl rfl).trans ?_
  refine (tq_aload_n i_L_law_30 rfl (isA_ref _) rfl).trans ?_
  refine (tq_alen i_L_law_31 s2 (by decide) (by decide) rfl).trans ?_
  rw [n1]
  refine (tq_bipush i_L_law_32 rfl).trans ?_
  refine (tq_isub i_L_law_34 rfl).trans ?_
  refine (tq_icmp_gt (pt := 2389) i_L_law_35 w5 rfl (by decide) rfl).trans ?_
  refine ite_congr rfl (fun c1 => ?_) (fun c1 => ?_)
  · refine (tq_iconst i_L_law_2389 rfl).trans ?_
    exact tq_ireturn i_L_law_2390 r_L_law (okB w_1 (by decide))
  · refine (tq_aload_n i_L_law_38 rfl (isA_ref _) rfl).trans ?_
    refine (tq_iload i_L_law_39 rfl rfl).trans ?_
    refine (tq_iaload i_L_law_41 s2 (by decide) w5 (g3 c1).1 (lt_gn n1 (g3 c1).2) rfl).trans ?_
    refine (tq_bipush i_L_law_42 rfl).trans ?_
    refine (tq_imask 6 i_L_law_44 (wr_gZ _ _ _) (by decide) (by decide) rfl).trans ?_
    exact tq_switch (dt := 2383) (ts := [204, 308, 388, 456, 524, 592, 648, 704, 760, 801, 869, 951, 964, 977, 1033, 1046, 1090, 1146, 1202, 1270, 1350, 1430, 1510, 1618, 1698, 1778, 1833, 1889, 1933, 1989, 2045, 2089, 2157, 2208, 2252, 2317]) i_L_law_45 (wr_mask (by decide)) (by decide) (by decide) (by decide)
theorem i_L_law_204 : am_i m_L_law 204 = some (204, .aload_n 1, 1, [], 0) := (lk_0).trans rfl
theorem i_L_law_205 : am_i m_L_law 205 = some (205, .aload_n 0, 1, [], 0) := (lk_0).trans rfl
theorem i_L_law_206 : am_i m_L_law 206 = some (206, .iload 5, 2, [], 0) := (lk_0).trans rfl
theorem i_L_law_208 : am_i m_L_law 208 = some (208, .iconst 1, 1, [], 1) := (lk_0).trans rfl
theorem i_L_law_209 : am_i m_L_law 209 = some (209, .iadd, 1, [], 0) := (lk_0).trans rfl
theorem i_L_law_210 : am_i m_L_law 210 = some (210, .iaload, 1, [], 0) := (lk_0).trans rfl
theorem i_L_law_211 : am_i m_L_law 211 = some (211, .aload_n 0, 1, [], 0) := (lk_0).trans rfl
theorem i_L_law_212 : am_i m_L_law 212 = some (212, .iload 5, 2, [], 0) := (lk_0).trans rfl
theorem i_L_law_214 : am_i m_L_law 214 = some (214, .iconst 2, 1, [], 2) := (lk_0).trans rfl
theorem i_L_law_215 : am_i m_L_law 215 = some (215, .iadd, 1, [], 0) := (lk_0).trans rfl
theorem i_L_law_216 : am_i m_L_law 216 = some (216, .iaload, 1, [], 0) := (lk_0).trans rfl
theorem i_L_law_217 : am_i m_L_law 217 = some (217, .aload_n 0, 1, [], 0) := (lk_0).trans rfl
theorem i_L_law_218 : am_i m_L_law 218 = some (218, .iload 5, 2, [], 0) := (lk_0).trans rfl
theorem i_L_law_220 : am_i m_L_law 220 = some (220, .iconst 3, 1, [], 3) := (lk_0).trans rfl
theorem i_L_law_221 : am_i m_L_law 221 = some (221, .iadd, 1, [], 0) := (lk_0).trans rfl
theorem i_L_law_222 : am_i m_L_law 222 = some (222, .iaload, 1, [], 0) := (lk_0).trans rfl
theorem i_L_law_223 : am_i m_L_law 223 = some (223, .aload_n 0, 1, [], 0) := (lk_0).trans rfl
theorem i_L_law_224 : am_i m_L_law 224 = some (224, .iload 5, 2, [], 0) := (lk_0).trans rfl
theorem i_L_law_226 : am_i m_L_law 226 = some (226, .iconst 4, 1, [], 4) := (lk_0).trans rfl
theorem i_L_law_227 : am_i m_L_law 227 = some (227, .iadd, 1, [], 0) := (lk_0).trans rfl
theorem i_L_law_228 : am_i m_L_law 228 = some (228, .iaload, 1, [], 0) := (lk_0).trans rfl
theorem i_L_law_229 : am_i m_L_law 229 = some (229, .aload_n 0, 1, [], 0) := (lk_0).trans rfl
theorem i_L_law_230 : am_i m_L_law 230 = some (230, .iload 5, 2, [], 0) := (lk_0).trans rfl
theorem i_L_law_232 : am_i m_L_law 232 = some (232, .iconst 5, 1, [], 5) := (lk_0).trans rfl
theorem i_L_law_233 : am_i m_L_law 233 = some (233, .iadd, 1, [], 0) := (lk_0).trans rfl
theorem i_L_law_234 : am_i m_L_law 234 = some (234, .iaload, 1, [], 0) := (lk_0).trans rfl
theorem i_L_law_235 : am_i m_L_law 235 = some (235, .aload_n 3, 1, [], 0) := (lk_0).trans rfl
theorem i_L_law_236 : am_i m_L_law 236 = some (236, .invokestatic 133, 3, [207], 0) := (lk_0).trans rfl
theorem b_L_law_204 {a0 a1 a2 a3 a4 n_a0 : Nat} {x5 : Int} {v6 v7 v8 : Value} {h : am_H} (n1 : gn h a0 = n_a0) (s2 : sh h a0 = (1, 7)) (g3 : 0 ≤ wr (x5 + 1) ∧ wr (x5 + 1) < (n_a0 : Int)) (g4 : 0 ≤ wr (x5 + 2) ∧ wr (x5 + 2) < (n_a0 : Int)) (g5 : 0 ≤ wr (x5 + 3) ∧ wr (x5 + 3) < (n_a0 : Int)) (g6 : 0 ≤ wr (x5 + 4) ∧ wr (x5 + 4) < (n_a0 : Int)) (g7 : 0 ≤ wr (x5 + 5) ∧ wr (x5 + 5) < (n_a0 : Int)) : rn m_L_law 204 [.ref a0, .ref a1, .ref a2, .ref a3, .ref a4, .int (mI x5), v6, v7, v8] [] h = cl m_L_law 239 [.ref a0, .ref a1, .ref a2, .ref a3, .ref a4, .int (mI x5), v6, v7, v8] [] (rn m_L_fill 0 [.ref a1, .int (mI (gZ h a0 (wr (x5 + 1)))), .int (mI (gZ h a0 (wr (x5 + 2)))), .int (mI (gZ h a0 (wr (x5 + 3)))), .int (mI (gZ h a0 (wr (x5 + 4)))), .int (mI (gZ h a0 (wr (x5 + 5)))), .ref a3, am_J] [] h) := by
  refine (tq_aload_n i_L_law_204 rfl (isA_ref _) rfl).trans ?_
  refine (tq_aload_n i_L_law_205 rfl (isA_ref _) rfl).trans ?_
  refine (tq_iload i_L_law_206 rfl rfl).trans ?_
  refine (tq_iconst i_L_law_208 rfl).trans ?_
  refine (tq_iadd i_L_law_209 rfl).trans ?_
  refine (tq_iaload i_L_law_210 s2 (by decide) rfl g3.1 (lt_gn n1 g3.2) rfl).trans ?_
  refine (tq_aload_n i_L_law_211 rfl (isA_ref _) rfl).trans ?_
  refine (tq_iload i_L_law_212 rfl rfl).trans ?_
  refine (tq_iconst i_L_law_214 rfl).trans ?_
  refine (tq_iadd i_L_law_215 rfl).trans ?_
  refine (tq_iaload i_L_law_216 s2 (by decide) rfl g4.1 (lt_gn n1 g4.2) rfl).trans ?_
  refine (tq_aload_n i_L_law_217 rfl (isA_ref _) rfl).trans ?_
  refine (tq_iload i_L_law_218 rfl rfl).trans ?_
  refine (tq_iconst i_L_law_220 rfl).trans ?_
  refine (tq_iadd i_L_law_221 rfl).trans ?_
  refine (tq_iaload i_L_law_222 s2 (by decide) rfl g5.1 (lt_gn n1 g5.2) rfl).trans ?_
  refine (tq_aload_n i_L_law_223 rfl (isA_ref _) rfl).trans ?_
  refine (tq_iload i_L_law_224 rfl rfl).trans ?_
  refine (tq_iconst i_L_law_226 rfl).trans ?_
  refine (tq_iadd i_L_law_227 rfl).trans ?_
  refine (tq_iaload i_L_law_228 s2 (by decide) rfl g6.1 (lt_gn n1 g6.2) rfl).trans ?_
  refine (tq_aload_n i_L_law_229 rfl (isA_ref _) rfl).trans ?_
  refine (tq_iload i_L_law_230 rfl rfl).trans ?_
  refine (tq_iconst i_L_law_232 rfl).trans ?_
  refine (tq_iadd i_L_law_233 rfl).trans ?_
  refine (tq_iaload i_L_law_234 s2 (by decide) rfl g7.1 (lt_gn n1 g7.2) rfl).trans ?_
  refine (tq_aload_n i_L_law_235 rfl (isA_ref _) rfl).trans ?_
  exact c_L_fill i_L_law_236 (ltd d_L_law (by decide)) (isA_ref _) (isA_ref _) stOk_0 rfl
theorem i_L_law_239 : am_i m_L_law 239 = some (239, .istore 6, 2, [], 0) := (lk_0).trans rfl
theorem i_L_law_241 : am_i m_L_law 241 = some (241, .aload_n 2, 1, [], 0) := (lk_0).trans rfl
theorem i_L_law_242 : am_i m_L_law 242 = some (242, .aload_n 0, 1, [], 0) := (lk_0).trans rfl
theorem i_L_law_243 : am_i m_L_law 243 = some (243, .iload 5, 2, [], 0) := (lk_0).trans rfl
theorem i_L_law_245 : am_i m_L_law 245 = some (245, .iconst 1, 1, [], 1) := (lk_1 (Nat.le_of_ble_eq_true rfl)).trans rfl
theorem i_L_law_246 : am_i m_L_law 246 = some (246, .iadd, 1, [], 0) := (lk_1 (Nat.le_of_ble_eq_true rfl)).trans rfl
theorem i_L_law_247 : am_i m_L_law 247 = some (247, .iaload, 1, [], 0) := (lk_1 (Nat.le_of_ble_eq_true rfl)).trans rfl
theorem i_L_law_248 : am_i m_L_law 248 = some (248, .aload_n 0, 1, [], 0) := (lk_1 (Nat.le_of_ble_eq_true rfl)).trans rfl
theorem i_L_law_249 : am_i m_L_law 249 = some (249, .iload 5, 2, [], 0) := (lk_1 (Nat.le_of_ble_eq_true rfl)).trans rfl
theorem i_L_law_251 : am_i m_L_law 251 = some (251, .iconst 2, 1, [], 2) := (lk_1 (Nat.le_of_ble_eq_true rfl)).trans rfl
theorem i_L_law_252 : am_i m_L_law 252 = some (252, .iadd, 1, [], 0) := (lk_1 (Nat.le_of_ble_eq_true rfl)).trans rfl
theorem i_L_law_253 : am_i m_L_law 253 = some (253, .iaload, 1, [], 0) := (lk_1 (Nat.le_of_ble_eq_true rfl)).trans rfl
theorem i_L_law_254 : am_i m_L_law 254 = some (254, .aload_n 0, 1, [], 0) := (lk_1 (Nat.le_of_ble_eq_true rfl)).trans rfl
theorem i_L_law_255 : am_i m_L_law 255 = some (255, .iload 5, 2, [], 0) := (lk_1 (Nat.le_of_ble_eq_true rfl)).trans rfl
theorem i_L_law_257 : am_i m_L_law 257 = some (257, .iconst 3, 1, [], 3) := (lk_1 (Nat.le_of_ble_eq_true rfl)).trans rfl
theorem i_L_law_258 : am_i m_L_law 258 = some (258, .iadd, 1, [], 0) := (lk_1 (Nat.le_of_ble_eq_true rfl)).trans rfl
theorem i_L_law_259 : am_i m_L_law 259 = some (259, .iaload, 1, [], 0) := (lk_1 (Nat.le_of_ble_eq_true rfl)).trans rfl
theorem i_L_law_260 : am_i m_L_law 260 = some (260, .aload_n 0, 1, [], 0) := (lk_1 (Nat.le_of_ble_eq_true rfl)).trans rfl
theorem i_L_law_261 : am_i m_L_law 261 = some (261, .iload 5, 2, [], 0) := (lk_1 (Nat.le_of_ble_eq_true rfl)).trans rfl
theorem i_L_law_263 : am_i m_L_law 263 = some (263, .iconst 4, 1, [], 4) := (lk_1 (Nat.le_of_ble_eq_true rfl)).trans rfl
theorem i_L_law_264 : am_i m_L_law 264 = some (264, .iadd, 1, [], 0) := (lk_1 (Nat.le_of_ble_eq_true rfl)).trans rfl
theorem i_L_law_265 : am_i m_L_law 265 = some (265, .iaload, 1, [], 0) := (lk_1 (Nat.le_of_ble_eq_true rfl)).trans rfl
theorem i_L_law_266 : am_i m_L_law 266 = some (266, .aload_n 0, 1, [], 0) := (lk_1 (Nat.le_of_ble_eq_true rfl)).trans rfl
theorem i_L_law_267 : am_i m_L_law 267 = some (267, .iload 5, 2, [], 0) := (lk_1 (Nat.le_of_ble_eq_true rfl)).trans rfl
theorem i_L_law_269 : am_i m_L_law 269 = some (269, .iconst 5, 1, [], 5) := (lk_1 (Nat.le_of_ble_eq_true rfl)).trans rfl
theorem i_L_law_270 : am_i m_L_law 270 = some (270, .iadd, 1, [], 0) := (lk_1 (Nat.le_of_ble_eq_true rfl)).trans rfl
theorem i_L_law_271 : am_i m_L_law 271 = some (271, .iaload, 1, [], 0) := (lk_1 (Nat.le_of_ble_eq_true rfl)).trans rfl
theorem i_L_law_272 : am_i m_L_law 272 = some (272, .invokevirtual 138, 3, [74, 10], 0) := (lk_1 (Nat.le_of_ble_eq_true rfl)).trans rfl
theorem b_L_law_239 {a0 a1 a2 a3 a4 n_a0 : Nat} {x5 xs0 : Int} {v6 v7 v8 : Value} {h : am_H} (n1 : gn h a0 = n_a0) (s2 : sh h a0 = (1, 7)) (g3 : 0 ≤ wr (x5 + 1) ∧ wr (x5 + 1) < (n_a0 : Int)) (g4 : 0 ≤ wr (x5 + 2) ∧ wr (x5 + 2) < (n_a0 : Int)) (g5 : 0 ≤ wr (x5 + 3) ∧ wr (x5 + 3) < (n_a0 : Int)) (g6 : 0 ≤ wr (x5 + 4) ∧ wr (x5 + 4) < (n_a0 : Int)) (g7 : 0 ≤ wr (x5 + 5) ∧ wr (x5 + 5) < (n_a0 : Int)) (k8 : K10 h a2) : rn m_L_law 239 [.ref a0, .ref a1, .ref a2, .ref a3, .ref a4, .int (mI x5), v6, v7, v8] [.int (mI xs0)] h = cl m_L_law 275 [.ref a0, .ref a1, .ref a2, .ref a3, .ref a4, .int (mI x5), .int (mI xs0), v7, v8] [] (rn m_X12_fill 0 [.ref a2, .int (mI (gZ h a0 (wr (x5 + 1)))), .int (mI (gZ h a0 (wr (x5 + 2)))), .int (mI (gZ h a0 (wr (x5 + 3)))), .int (mI (gZ h a0 (wr (x5 + 4)))), .int (mI (gZ h a0 (wr (x5 + 5)))), am_J, am_J, am_J, am_J] [] h) := by
  refine (tq_istore (L' := [.ref a0, .ref a1, .ref a2, .ref a3, .ref a4, .int (mI x5), .int (mI xs0), v7, v8]) i_L_law_239 rfl rfl).trans ?_
  refine (tq_aload_n i_L_law_241 rfl (isA_ref _) rfl).trans ?_
  refine (tq_aload_n i_L_law_242 rfl (isA_ref _) rfl).trans ?_
  refine (tq_iload i_L_law_243 rfl rfl).trans ?_
  refine (tq_iconst i_L_law_245 rfl).trans ?_
  refine (tq_iadd i_L_law_246 rfl).trans ?_
  refine (tq_iaload i_L_law_247 s2 (by decide) rfl g3.1 (lt_gn n1 g3.2) rfl).trans ?_
  refine (tq_aload_n i_L_law_248 rfl (isA_ref _) rfl).trans ?_
  refine (tq_iload i_L_law_249 rfl rfl).trans ?_
  refine (tq_iconst i_L_law_251 rfl).trans ?_
  refine (tq_iadd i_L_law_252 rfl).trans ?_
  refine (tq_iaload i_L_law_253 s2 (by decide) rfl g4.1 (lt_gn n1 g4.2) rfl).trans ?_
  refine (tq_aload_n i_L_law_254 rfl (isA_ref _) rfl).trans ?_
  refine (tq_iload i_L_law_255 rfl rfl).trans ?_
  refine (tq_iconst i_L_law_257 rfl).trans ?_
  refine (tq_iadd i_L_law_258 rfl).trans ?_
  refine (tq_iaload i_L_law_259 s2 (by decide) rfl g5.1 (lt_gn n1 g5.2) rfl).trans ?_
  refine (tq_aload_n i_L_law_260 rfl (isA_ref _) rfl).trans ?_
  refine (tq_iload i_L_law_261 rfl rfl).trans ?_
  refine (tq_iconst i_L_law_263 rfl).trans ?_
  refine (tq_iadd i_L_law_264 rfl).trans ?_
  refine (tq_iaload i_L_law_265 s2 (by decide) rfl g6.1 (lt_gn n1 g6.2) rfl).trans ?_
  refine (tq_aload_n i_L_law_266 rfl (isA_ref _) rfl).trans ?_
  refine (tq_iload i_L_law_267 rfl rfl).trans ?_
  refine (tq_iconst i_L_law_269 rfl).trans ?_
  refine (tq_iadd i_L_law_270 rfl).trans ?_
  refine (tq_iaload i_L_law_271 s2 (by decide) rfl g7.1 (lt_gn n1 g7.2) rfl).trans ?_
  exact c_X12_fill i_L_law_272 (K10_s k8) (ltd d_L_law (by decide)) stOk_0 rfl
theorem i_L_law_275 : am_i m_L_law 275 = some (275, .istore 7, 2, [], 0) := (lk_1 (Nat.le_of_ble_eq_true rfl)).trans rfl
theorem i_L_law_277 : am_i m_L_law 277 = some (277, .aload_n 2, 1, [], 0) := (lk_1 (Nat.le_of_ble_eq_true rfl)).trans rfl
theorem i_L_law_278 : am_i m_L_law 278 = some (278, .invokevirtual 139, 3, [39, 10], 0) := (lk_1 (Nat.le_of_ble_eq_true rfl)).trans rfl
theorem i_L_law_281 : am_i m_L_law 281 = some (281, .iload 6, 2, [], 0) := (lk_1 (Nat.le_of_ble_eq_true rfl)).trans rfl
theorem i_L_law_283 : am_i m_L_law 283 = some (283, .if_icmp .eq 5, 3, [], 0) := (lk_1 (Nat.le_of_ble_eq_true rfl)).trans rfl
theorem i_L_law_286 : am_i m_L_law 286 = some (286, .iconst 0, 1, [], 0) := (lk_1 (Nat.le_of_ble_eq_true rfl)).trans rfl
theorem i_L_law_287 : am_i m_L_law 287 = some (287, .ireturn, 1, [], 0) := (lk_1 (Nat.le_of_ble_eq_true rfl)).trans rfl
theorem i_L_law_288 : am_i m_L_law 288 = some (288, .iload 6, 2, [], 0) := (lk_1 (Nat.le_of_ble_eq_true rfl)).trans rfl
theorem i_L_law_290 : am_i m_L_law 290 = some (290, .ifCond .ne 15, 3, [], 0) := (lk_1 (Nat.le_of_ble_eq_true rfl)).trans rfl
theorem i_L_law_293 : am_i m_L_law 293 = some (293, .aload_n 3, 1, [], 0) := (lk_1 (Nat.le_of_ble_eq_true rfl)).trans rfl
theorem i_L_law_294 : am_i m_L_law 294 = some (294, .iconst 0, 1, [], 0) := (lk_1 (Nat.le_of_ble_eq_true rfl)).trans rfl
theorem i_L_law_295 : am_i m_L_law 295 = some (295, .laload, 1, [], 0) := (lk_1 (Nat.le_of_ble_eq_true rfl)).trans rfl
theorem i_L_law_296 : am_i m_L_law 296 = some (296, .iload 7, 2, [], 0) := (lk_1 (Nat.le_of_ble_eq_true rfl)).trans rfl
theorem i_L_law_298 : am_i m_L_law 298 = some (298, .i2l, 1, [], 0) := (lk_1 (Nat.le_of_ble_eq_true rfl)).trans rfl
theorem i_L_law_299 : am_i m_L_law 299 = some (299, .lcmp, 1, [], 0) := (lk_1 (Nat.le_of_ble_eq_true rfl)).trans rfl
theorem i_L_law_300 : am_i m_L_law 300 = some (300, .ifCond .eq 5, 3, [], 0) := (lk_1 (Nat.le_of_ble_eq_true rfl)).trans rfl
theorem i_L_law_303 : am_i m_L_law 303 = some (303, .iconst 0, 1, [], 0) := (lk_1 (Nat.le_of_ble_eq_true rfl)).trans rfl
theorem i_L_law_304 : am_i m_L_law 304 = some (304, .ireturn, 1, [], 0) := (lk_1 (Nat.le_of_ble_eq_true rfl)).trans rfl
theorem i_L_law_305 : am_i m_L_law 305 = some (305, .goto 2078, 3, [], 0) := (lk_1 (Nat.le_of_ble_eq_true rfl)).trans rfl
theorem b_L_law_275 {a0 a1 a2 a3 a4 n_a3 : Nat} {x5 x6 xs0 x6' xs0' : Int} {v7 v8 : Value} {h : am_H} (w6 : wr x6 = x6') (ws0 : wr xs0 = xs0') (k1 : K10 h a2) (n2 : gn h a3 = n_a3) (s3 : sh h a3 = (2, 3)) (g4 : ((fZ h a2 0) = x6') → (¬ (¬ x6' = 0)) → ((0 : Int) ≤ 0 ∧ 0 < (n_a3 : Int))) : rn m_L_law 275 [.ref a0, .ref a1, .ref a2, .ref a3, .ref a4, .int (mI x5), .int (mI x6), v7, v8] [.int (mI xs0)] h = if (fZ h a2 0) = x6' then if ¬ x6' = 0 then rn m_L_law 2383 [.ref a0, .ref a1, .ref a2, .ref a3, .ref a4, .int (mI x5), .int (mI x6), .int (mI xs0), v8] [] h else if (gJ h a3 0) = xs0' then rn m_L_law 2383 [.ref a0, .ref a1, .ref a2, .ref a3, .ref a4, .int (mI x5), .int (mI x6), .int (mI xs0), v8] [] h else some (.inl (some (.int (mI 0))), h) else some (.inl (some (.int (mI 0))), h) := by
  refine (tq_istore (L' := [.ref a0, .ref a1, .ref a2, .ref a3, .ref a4, .int (mI x5), .int (mI x6), .int (mI xs0), v8]) i_L_law_275 rfl rfl).trans ?_
  refine (tq_aload_n i_L_law_277 rfl (isA_ref _) rfl).trans ?_
  refine (c_X12_thrown i_L_law_278 (K10_s k1) (ltd d_L_law (by decide)) stOk_0 rfl).trans ?_
  refine (congrArg (cl _ _ _ _) (b_X12_thrown_0 k1)).trans ?_
  refine (cl_v _ _ _ _ _ _).trans ?_
  refine (tq_iload i_L_law_281 rfl rfl).trans ?_
  refine (tq_icmp_eq (pt := 288) i_L_law_283 (wr_fZ _ _ _) w6 (by decide) rfl).trans ?_
  refine ite_congr rfl (fun c1 => ?_) (fun c1 => ?_)
  · refine (tq_iload i_L_law_288 rfl rfl).trans ?_
    refine (tq_if_ne (pt := 305) i_L_law_290 w6 (by decide) rfl).trans ?_
    refine ite_congr rfl (fun c2 => ?_) (fun c2 => ?_)
    · refine (tq_goto (pc' := 2383) i_L_law_305 (by decide)).trans ?_
      rfl
    · refine (tq_aload_n i_L_law_293 rfl (isA_ref _) rfl).trans ?_
      refine (tq_iconst i_L_law_294 rfl).trans ?_
      refine (tq_laload i_L_law_295 s3 w_0 (g4 c1 c2).1 (lt_gn n2 (g4 c1 c2).2) rfl).trans ?_
      refine (tq_iload i_L_law_296 rfl rfl).trans ?_
      refine (tq_i2l i_L_law_298 ws0 rfl).trans ?_
      refine (tq_lcmp_eq (pt := 305) i_L_law_299 i_L_law_300 rfl (wl_gJ _ _ _) (wl_of_wr ws0) (by decide) rfl).trans ?_
      refine ite_congr rfl (fun c3 => ?_) (fun c3 => ?_)
      · refine (tq_goto (pc' := 2383) i_L_law_305 (by decide)).trans ?_
        rfl
      · refine (tq_iconst i_L_law_303 rfl).trans ?_
        exact tq_ireturn i_L_law_304 r_L_law (okB w_0 (by decide))
  · refine (tq_iconst i_L_law_286 rfl).trans ?_
    exact tq_ireturn i_L_law_287 r_L_law (okB w_0 (by decide))
theorem i_L_law_308 : am_i m_L_law 308 = some (308, .aload_n 1, 1, [], 0) := (lk_1 (Nat.le_of_ble_eq_true rfl)).trans rfl
theorem i_L_law_309 : am_i m_L_law 309 = some (309, .aload_n 0, 1, [], 0) := (lk_1 (Nat.le_of_ble_eq_true rfl)).trans rfl
theorem i_L_law_310 : am_i m_L_law 310 = some (310, .iload 5, 2, [], 0) := (lk_1 (Nat.le_of_ble_eq_true rfl)).trans rfl
theorem i_L_law_312 : am_i m_L_law 312 = some (312, .iconst 1, 1, [], 1) := (lk_1 (Nat.le_of_ble_eq_true rfl)).trans rfl
theorem i_L_law_313 : am_i m_L_law 313 = some (313, .iadd, 1, [], 0) := (lk_1 (Nat.le_of_ble_eq_true rfl)).trans rfl
theorem i_L_law_314 : am_i m_L_law 314 = some (314, .iaload, 1, [], 0) := (lk_1 (Nat.le_of_ble_eq_true rfl)).trans rfl
theorem i_L_law_315 : am_i m_L_law 315 = some (315, .aload_n 0, 1, [], 0) := (lk_1 (Nat.le_of_ble_eq_true rfl)).trans rfl
theorem i_L_law_316 : am_i m_L_law 316 = some (316, .iload 5, 2, [], 0) := (lk_1 (Nat.le_of_ble_eq_true rfl)).trans rfl
theorem i_L_law_318 : am_i m_L_law 318 = some (318, .iconst 2, 1, [], 2) := (lk_1 (Nat.le_of_ble_eq_true rfl)).trans rfl
theorem i_L_law_319 : am_i m_L_law 319 = some (319, .iadd, 1, [], 0) := (lk_1 (Nat.le_of_ble_eq_true rfl)).trans rfl
theorem i_L_law_320 : am_i m_L_law 320 = some (320, .iaload, 1, [], 0) := (lk_1 (Nat.le_of_ble_eq_true rfl)).trans rfl
theorem i_L_law_321 : am_i m_L_law 321 = some (321, .aload_n 0, 1, [], 0) := (lk_1 (Nat.le_of_ble_eq_true rfl)).trans rfl
theorem i_L_law_322 : am_i m_L_law 322 = some (322, .iload 5, 2, [], 0) := (lk_1 (Nat.le_of_ble_eq_true rfl)).trans rfl
theorem i_L_law_324 : am_i m_L_law 324 = some (324, .iconst 3, 1, [], 3) := (lk_1 (Nat.le_of_ble_eq_true rfl)).trans rfl
theorem i_L_law_325 : am_i m_L_law 325 = some (325, .iadd, 1, [], 0) := (lk_1 (Nat.le_of_ble_eq_true rfl)).trans rfl
theorem i_L_law_326 : am_i m_L_law 326 = some (326, .iaload, 1, [], 0) := (lk_1 (Nat.le_of_ble_eq_true rfl)).trans rfl
theorem i_L_law_327 : am_i m_L_law 327 = some (327, .aload_n 3, 1, [], 0) := (lk_1 (Nat.le_of_ble_eq_true rfl)).trans rfl
theorem i_L_law_328 : am_i m_L_law 328 = some (328, .invokestatic 142, 3, [216], 0) := (lk_2 (Nat.le_of_ble_eq_true rfl)).trans rfl
theorem b_L_law_308 {a0 a1 a2 a3 a4 n_a0 : Nat} {x5 : Int} {v6 v7 v8 : Value} {h : am_H} (n1 : gn h a0 = n_a0) (s2 : sh h a0 = (1, 7)) (g3 : 0 ≤ wr (x5 + 1) ∧ wr (x5 + 1) < (n_a0 : Int)) (g4 : 0 ≤ wr (x5 + 2) ∧ wr (x5 + 2) < (n_a0 : Int)) (g5 : 0 ≤ wr (x5 + 3) ∧ wr (x5 + 3) < (n_a0 : Int)) : rn m_L_law 308 [.ref a0, .ref a1, .ref a2, .ref a3, .ref a4, .int (mI x5), v6, v7, v8] [] h = cl m_L_law 331 [.ref a0, .ref a1, .ref a2, .ref a3, .ref a4, .int (mI x5), v6, v7, v8] [] (rn m_L_slope 0 [.ref a1, .int (mI (gZ h a0 (wr (x5 + 1)))), .int (mI (gZ h a0 (wr (x5 + 2)))), .int (mI (gZ h a0 (wr (x5 + 3)))), .ref a3, am_J] [] h) := by
  refine (tq_aload_n i_L_law_308 rfl (isA_ref _) rfl).trans ?_
  refine (tq_aload_n i_L_law_309 rfl (isA_ref _) rfl).trans ?_
  refine (tq_iload i_L_law_310 rfl rfl).trans ?_
  refine (tq_iconst i_L_law_312 rfl).trans ?_
  refine (tq_iadd i_L_law_313 rfl).trans ?_
  refine (tq_iaload i_L_law_314 s2 (by decide) rfl g3.1 (lt_gn n1 g3.2) rfl).trans ?_
  refine (tq_aload_n i_L_law_315 rfl (isA_ref _) rfl).trans ?_
  refine (tq_iload i_L_law_316 rfl rfl).trans ?_
  refine (tq_iconst i_L_law_318 rfl).trans ?_
  refine (tq_iadd i_L_law_319 rfl).trans ?_
  refine (tq_iaload i_L_law_320 s2 (by decide) rfl g4.1 (lt_gn n1 g4.2) rfl).trans ?_
  refine (tq_aload_n i_L_law_321 rfl (isA_ref _) rfl).trans ?_
  refine (tq_iload i_L_law_322 rfl rfl).trans ?_
  refine (tq_iconst i_L_law_324 rfl).trans ?_
  refine (tq_iadd i_L_law_325 rfl).trans ?_
  refine (tq_iaload i_L_law_326 s2 (by decide) rfl g5.1 (lt_gn n1 g5.2) rfl).trans ?_
  refine (tq_aload_n i_L_law_327 rfl (isA_ref _) rfl).trans ?_
  exact c_L_slope i_L_law_328 (ltd d_L_law (by decide)) (isA_ref _) (isA_ref _) stOk_0 rfl
theorem i_L_law_331 : am_i m_L_law 331 = some (331, .istore 6, 2, [], 0) := (lk_2 (Nat.le_of_ble_eq_true rfl)).trans rfl
theorem i_L_law_333 : am_i m_L_law 333 = some (333, .aload_n 2, 1, [], 0) := (lk_2 (Nat.le_of_ble_eq_true rfl)).trans rfl
theorem i_L_law_334 : am_i m_L_law 334 = some (334, .aload_n 0, 1, [], 0) := (lk_2 (Nat.le_of_ble_eq_true rfl)).trans rfl
theorem i_L_law_335 : am_i m_L_law 335 = some (335, .iload 5, 2, [], 0) := (lk_2 (Nat.le_of_ble_eq_true rfl)).trans rfl
theorem i_L_law_337 : am_i m_L_law 337 = some (337, .iconst 1, 1, [], 1) := (lk_2 (Nat.le_of_ble_eq_true rfl)).trans rfl
theorem i_L_law_338 : am_i m_L_law 338 = some (338, .iadd, 1, [], 0) := (lk_2 (Nat.le_of_ble_eq_true rfl)).trans rfl
theorem i_L_law_339 : am_i m_L_law 339 = some (339, .iaload, 1, [], 0) := (lk_2 (Nat.le_of_ble_eq_true rfl)).trans rfl
theorem i_L_law_340 : am_i m_L_law 340 = some (340, .aload_n 0, 1, [], 0) := (lk_2 (Nat.le_of_ble_eq_true rfl)).trans rfl
theorem i_L_law_341 : am_i m_L_law 341 = some (341, .iload 5, 2, [], 0) := (lk_2 (Nat.le_of_ble_eq_true rfl)).trans rfl
theorem i_L_law_343 : am_i m_L_law 343 = some (343, .iconst 2, 1, [], 2) := (lk_2 (Nat.le_of_ble_eq_true rfl)).trans rfl
theorem i_L_law_344 : am_i m_L_law 344 = some (344, .iadd, 1, [], 0) := (lk_2 (Nat.le_of_ble_eq_true rfl)).trans rfl
theorem i_L_law_345 : am_i m_L_law 345 = some (345, .iaload, 1, [], 0) := (lk_2 (Nat.le_of_ble_eq_true rfl)).trans rfl
theorem i_L_law_346 : am_i m_L_law 346 = some (346, .aload_n 0, 1, [], 0) := (lk_2 (Nat.le_of_ble_eq_true rfl)).trans rfl
theorem i_L_law_347 : am_i m_L_law 347 = some (347, .iload 5, 2, [], 0) := (lk_2 (Nat.le_of_ble_eq_true rfl)).trans rfl
theorem i_L_law_349 : am_i m_L_law 349 = some (349, .iconst 3, 1, [], 3) := (lk_2 (Nat.le_of_ble_eq_true rfl)).trans rfl
theorem i_L_law_350 : am_i m_L_law 350 = some (350, .iadd, 1, [], 0) := (lk_2 (Nat.le_of_ble_eq_true rfl)).trans rfl
theorem i_L_law_351 : am_i m_L_law 351 = some (351, .iaload, 1, [], 0) := (lk_2 (Nat.le_of_ble_eq_true rfl)).trans rfl
theorem i_L_law_352 : am_i m_L_law 352 = some (352, .invokevirtual 145, 3, [97, 10], 0) := (lk_2 (Nat.le_of_ble_eq_true rfl)).trans rfl
theorem b_L_law_331 {a0 a1 a2 a3 a4 n_a0 : Nat} {x5 xs0 : Int} {v6 v7 v8 : Value} {h : am_H} (n1 : gn h a0 = n_a0) (s2 : sh h a0 = (1, 7)) (g3 : 0 ≤ wr (x5 + 1) ∧ wr (x5 + 1) < (n_a0 : Int)) (g4 : 0 ≤ wr (x5 + 2) ∧ wr (x5 + 2) < (n_a0 : Int)) (g5 : 0 ≤ wr (x5 + 3) ∧ wr (x5 + 3) < (n_a0 : Int)) (k6 : K10 h a2) : rn m_L_law 331 [.ref a0, .ref a1, .ref a2, .ref a3, .ref a4, .int (mI x5), v6, v7, v8] [.int (mI xs0)] h = cl m_L_law 355 [.ref a0, .ref a1, .ref a2, .ref a3, .ref a4, .int (mI x5), .int (mI xs0), v7, v8] [] (rn m_X12_slope 0 [.ref a2, .int (mI (gZ h a0 (wr (x5 + 1)))), .int (mI (gZ h a0 (wr (x5 + 2)))), .int (mI (gZ h a0 (wr (x5 + 3)))), am_J, am_J] [] h) := by
  refine (tq_istore (L' := [.ref a0, .ref a1, .ref a2, .ref a3, .ref a4, .int (mI x5), .int (mI xs0), v7, v8]) i_L_law_331 rfl rfl).trans ?_
  refine (tq_aload_n i_L_law_333 rfl (isA_ref _) rfl).trans ?_
  refine (tq_aload_n i_L_law_334 rfl (isA_ref _) rfl).trans ?_
  refine (tq_iload i_L_law_335 rfl rfl).trans ?_
  refine (tq_iconst i_L_law_337 rfl).trans ?_
  refine (tq_iadd i_L_law_338 rfl).trans ?_
  refine (tq_iaload i_L_law_339 s2 (by decide) rfl g3.1 (lt_gn n1 g3.2) rfl).trans ?_
  refine (tq_aload_n i_L_law_340 rfl (isA_ref _) rfl).trans ?_
  refine (tq_iload i_L_law_341 rfl rfl).trans ?_
  refine (tq_iconst i_L_law_343 rfl).trans ?_
  refine (tq_iadd i_L_law_344 rfl).trans ?_
  refine (tq_iaload i_L_law_345 s2 (by decide) rfl g4.1 (lt_gn n1 g4.2) rfl).trans ?_
  refine (tq_aload_n i_L_law_346 rfl (isA_ref _) rfl).trans ?_
  refine (tq_iload i_L_law_347 rfl rfl).trans ?_
  refine (tq_iconst i_L_law_349 rfl).trans ?_
  refine (tq_iadd i_L_law_350 rfl).trans ?_
  refine (tq_iaload i_L_law_351 s2 (by decide) rfl g5.1 (lt_gn n1 g5.2) rfl).trans ?_
  exact c_X12_slope i_L_law_352 (K10_s k6) (ltd d_L_law (by decide)) stOk_0 rfl
theorem i_L_law_355 : am_i m_L_law 355 = some (355, .istore 7, 2, [], 0) := (lk_2 (Nat.le_of_ble_eq_true rfl)).trans rfl
theorem i_L_law_357 : am_i m_L_law 357 = some (357, .aload_n 2, 1, [], 0) := (lk_2 (Nat.le_of_ble_eq_true rfl)).trans rfl
theorem i_L_law_358 : am_i m_L_law 358 = some (358, .invokevirtual 139, 3, [39, 10], 0) := (lk_2 (Nat.le_of_ble_eq_true rfl)).trans rfl
theorem i_L_law_361 : am_i m_L_law 361 = some (361, .iload 6, 2, [], 0) := (lk_2 (Nat.le_of_ble_eq_true rfl)).trans rfl
theorem i_L_law_363 : am_i m_L_law 363 = some (363, .if_icmp .eq 5, 3, [], 0) := (lk_2 (Nat.le_of_ble_eq_true rfl)).trans rfl
theorem i_L_law_366 : am_i m_L_law 366 = some (366, .iconst 0, 1, [], 0) := (lk_2 (Nat.le_of_ble_eq_true rfl)).trans rfl
theorem i_L_law_367 : am_i m_L_law 367 = some (367, .ireturn, 1, [], 0) := (lk_2 (Nat.le_of_ble_eq_true rfl)).trans rfl
theorem i_L_law_368 : am_i m_L_law 368 = some (368, .iload 6, 2, [], 0) := (lk_2 (Nat.le_of_ble_eq_true rfl)).trans rfl
theorem i_L_law_370 : am_i m_L_law 370 = some (370, .ifCond .ne 15, 3, [], 0) := (lk_2 (Nat.le_of_ble_eq_true rfl)).trans rfl
theorem i_L_law_373 : am_i m_L_law 373 = some (373, .aload_n 3, 1, [], 0) := (lk_2 (Nat.le_of_ble_eq_true rfl)).trans rfl
theorem i_L_law_374 : am_i m_L_law 374 = some (374, .iconst 0, 1, [], 0) := (lk_2 (Nat.le_of_ble_eq_true rfl)).trans rfl
theorem i_L_law_375 : am_i m_L_law 375 = some (375, .laload, 1, [], 0) := (lk_2 (Nat.le_of_ble_eq_true rfl)).trans rfl
theorem i_L_law_376 : am_i m_L_law 376 = some (376, .iload 7, 2, [], 0) := (lk_2 (Nat.le_of_ble_eq_true rfl)).trans rfl
theorem i_L_law_378 : am_i m_L_law 378 = some (378, .i2l, 1, [], 0) := (lk_2 (Nat.le_of_ble_eq_true rfl)).trans rfl
theorem i_L_law_379 : am_i m_L_law 379 = some (379, .lcmp, 1, [], 0) := (lk_2 (Nat.le_of_ble_eq_true rfl)).trans rfl
theorem i_L_law_380 : am_i m_L_law 380 = some (380, .ifCond .eq 5, 3, [], 0) := (lk_2 (Nat.le_of_ble_eq_true rfl)).trans rfl
theorem i_L_law_383 : am_i m_L_law 383 = some (383, .iconst 0, 1, [], 0) := (lk_2 (Nat.le_of_ble_eq_true rfl)).trans rfl
theorem i_L_law_384 : am_i m_L_law 384 = some (384, .ireturn, 1, [], 0) := (lk_2 (Nat.le_of_ble_eq_true rfl)).trans rfl
theorem i_L_law_385 : am_i m_L_law 385 = some (385, .goto 1998, 3, [], 0) := (lk_2 (Nat.le_of_ble_eq_true rfl)).trans rfl
theorem b_L_law_355 {a0 a1 a2 a3 a4 n_a3 : Nat} {x5 x6 xs0 x6' xs0' : Int} {v7 v8 : Value} {h : am_H} (w6 : wr x6 = x6') (ws0 : wr xs0 = xs0') (k1 : K10 h a2) (n2 : gn h a3 = n_a3) (s3 : sh h a3 = (2, 3)) (g4 : ((fZ h a2 0) = x6') → (¬ (¬ x6' = 0)) → ((0 : Int) ≤ 0 ∧ 0 < (n_a3 : Int))) : rn m_L_law 355 [.ref a0, .ref a1, .ref a2, .ref a3, .ref a4, .int (mI x5), .int (mI x6), v7, v8] [.int (mI xs0)] h = if (fZ h a2 0) = x6' then if ¬ x6' = 0 then rn m_L_law 2383 [.ref a0, .ref a1, .ref a2, .ref a3, .ref a4, .int (mI x5), .int (mI x6), .int (mI xs0), v8] [] h else if (gJ h a3 0) = xs0' then rn m_L_law 2383 [.ref a0, .ref a1, .ref a2, .ref a3, .ref a4, .int (mI x5), .int (mI x6), .int (mI xs0), v8] [] h else some (.inl (some (.int (mI 0))), h) else some (.inl (some (.int (mI 0))), h) := by
  refine (tq_istore (L' := [.ref a0, .ref a1, .ref a2, .ref a3, .ref a4, .int (mI x5), .int (mI x6), .int (mI xs0), v8]) i_L_law_355 rfl rfl).trans ?_
  refine (tq_aload_n i_L_law_357 rfl (isA_ref _) rfl).trans ?_
  refine (c_X12_thrown i_L_law_358 (K10_s k1) (ltd d_L_law (by decide)) stOk_0 rfl).trans ?_
  refine (congrArg (cl _ _ _ _) (b_X12_thrown_0 k1)).trans ?_
  refine (cl_v _ _ _ _ _ _).trans ?_
  refine (tq_iload i_L_law_361 rfl rfl).trans ?_
  refine (tq_icmp_eq (pt := 368) i_L_law_363 (wr_fZ _ _ _) w6 (by decide) rfl).trans ?_
  refine ite_congr rfl (fun c1 => ?_) (fun c1 => ?_)
  · refine (tq_iload i_L_law_368 rfl rfl).trans ?_
    refine (tq_if_ne (pt := 385) i_L_law_370 w6 (by decide) rfl).trans ?_
    refine ite_congr rfl (fun c2 => ?_) (fun c2 => ?_)
    · refine (tq_goto (pc' := 2383) i_L_law_385 (by decide)).trans ?_
      rfl
    · refine (tq_aload_n i_L_law_373 rfl (isA_ref _) rfl).trans ?_
      refine (tq_iconst i_L_law_374 rfl).trans ?_
      refine (tq_laload i_L_law_375 s3 w_0 (g4 c1 c2).1 (lt_gn n2 (g4 c1 c2).2) rfl).trans ?_
      refine (tq_iload i_L_law_376 rfl rfl).trans ?_
      refine (tq_i2l i_L_law_378 ws0 rfl).trans ?_
      refine (tq_lcmp_eq (pt := 385) i_L_law_379 i_L_law_380 rfl (wl_gJ _ _ _) (wl_of_wr ws0) (by decide) rfl).trans ?_
      refine ite_congr rfl (fun c3 => ?_) (fun c3 => ?_)
      · refine (tq_goto (pc' := 2383) i_L_law_385 (by decide)).trans ?_
        rfl
      · refine (tq_iconst i_L_law_383 rfl).trans ?_
        exact tq_ireturn i_L_law_384 r_L_law (okB w_0 (by decide))
  · refine (tq_iconst i_L_law_366 rfl).trans ?_
    exact tq_ireturn i_L_law_367 r_L_law (okB w_0 (by decide))
theorem i_L_law_388 : am_i m_L_law 388 = some (388, .aload_n 1, 1, [], 0) := (lk_2 (Nat.le_of_ble_eq_true rfl)).trans rfl
theorem i_L_law_389 : am_i m_L_law 389 = some (389, .aload_n 0, 1, [], 0) := (lk_2 (Nat.le_of_ble_eq_true rfl)).trans rfl
theorem i_L_law_390 : am_i m_L_law 390 = some (390, .iload 5, 2, [], 0) := (lk_2 (Nat.le_of_ble_eq_true rfl)).trans rfl
theorem i_L_law_392 : am_i m_L_law 392 = some (392, .iconst 1, 1, [], 1) := (lk_2 (Nat.le_of_ble_eq_true rfl)).trans rfl
theorem i_L_law_393 : am_i m_L_law 393 = some (393, .iadd, 1, [], 0) := (lk_2 (Nat.le_of_ble_eq_true rfl)).trans rfl
theorem i_L_law_394 : am_i m_L_law 394 = some (394, .iaload, 1, [], 0) := (lk_2 (Nat.le_of_ble_eq_true rfl)).trans rfl
theorem i_L_law_395 : am_i m_L_law 395 = some (395, .aload_n 0, 1, [], 0) := (lk_2 (Nat.le_of_ble_eq_true rfl)).trans rfl
theorem i_L_law_396 : am_i m_L_law 396 = some (396, .iload 5, 2, [], 0) := (lk_2 (Nat.le_of_ble_eq_true rfl)).trans rfl
theorem i_L_law_398 : am_i m_L_law 398 = some (398, .iconst 2, 1, [], 2) := (lk_2 (Nat.le_of_ble_eq_true rfl)).trans rfl
theorem i_L_law_399 : am_i m_L_law 399 = some (399, .iadd, 1, [], 0) := (lk_2 (Nat.le_of_ble_eq_true rfl)).trans rfl
theorem i_L_law_400 : am_i m_L_law 400 = some (400, .iaload, 1, [], 0) := (lk_2 (Nat.le_of_ble_eq_true rfl)).trans rfl
theorem i_L_law_401 : am_i m_L_law 401 = some (401, .aload_n 3, 1, [], 0) := (lk_2 (Nat.le_of_ble_eq_true rfl)).trans rfl
theorem i_L_law_402 : am_i m_L_law 402 = some (402, .invokestatic 146, 3, [208], 0) := (lk_2 (Nat.le_of_ble_eq_true rfl)).trans rfl
theorem b_L_law_388 {a0 a1 a2 a3 a4 n_a0 : Nat} {x5 : Int} {v6 v7 v8 : Value} {h : am_H} (n1 : gn h a0 = n_a0) (s2 : sh h a0 = (1, 7)) (g3 : 0 ≤ wr (x5 + 1) ∧ wr (x5 + 1) < (n_a0 : Int)) (g4 : 0 ≤ wr (x5 + 2) ∧ wr (x5 + 2) < (n_a0 : Int)) : rn m_L_law 388 [.ref a0, .ref a1, .ref a2, .ref a3, .ref a4, .int (mI x5), v6, v7, v8] [] h = cl m_L_law 405 [.ref a0, .ref a1, .ref a2, .ref a3, .ref a4, .int (mI x5), v6, v7, v8] [] (rn m_L_grain 0 [.ref a1, .int (mI (gZ h a0 (wr (x5 + 1)))), .int (mI (gZ h a0 (wr (x5 + 2)))), .ref a3, am_J] [] h) := by
  refine (tq_aload_n i_L_law_388 rfl (isA_ref _) rfl).trans ?_
  refine (tq_aload_n i_L_law_389 rfl (isA_ref _) rfl).trans ?_
  refine (tq_iload i_L_law_390 rfl rfl).trans ?_
  refine (tq_iconst i_L_law_392 rfl).trans ?_
  refine (tq_iadd i_L_law_393 rfl).trans ?_
  refine (tq_iaload i_L_law_394 s2 (by decide) rfl g3.1 (lt_gn n1 g3.2) rfl).trans ?_
  refine (tq_aload_n i_L_law_395 rfl (isA_ref _) rfl).trans ?_
  refine (tq_iload i_L_law_396 rfl rfl).trans ?_
  refine (tq_iconst i_L_law_398 rfl).trans ?_
  refine (tq_iadd i_L_law_399 rfl).trans ?_
  refine (tq_iaload i_L_law_400 s2 (by decide) rfl g4.1 (lt_gn n1 g4.2) rfl).trans ?_
  refine (tq_aload_n i_L_law_401 rfl (isA_ref _) rfl).trans ?_
  exact c_L_grain i_L_law_402 (ltd d_L_law (by decide)) (isA_ref _) (isA_ref _) stOk_0 rfl
theorem i_L_law_405 : am_i m_L_law 405 = some (405, .istore 6, 2, [], 0) := (lk_2 (Nat.le_of_ble_eq_true rfl)).trans rfl
theorem i_L_law_407 : am_i m_L_law 407 = some (407, .aload_n 2, 1, [], 0) := (lk_2 (Nat.le_of_ble_eq_true rfl)).trans rfl
theorem i_L_law_408 : am_i m_L_law 408 = some (408, .aload_n 0, 1, [], 0) := (lk_2 (Nat.le_of_ble_eq_true rfl)).trans rfl
theorem i_L_law_409 : am_i m_L_law 409 = some (409, .iload 5, 2, [], 0) := (lk_2 (Nat.le_of_ble_eq_true rfl)).trans rfl
theorem i_L_law_411 : am_i m_L_law 411 = some (411, .iconst 1, 1, [], 1) := (lk_2 (Nat.le_of_ble_eq_true rfl)).trans rfl
theorem i_L_law_412 : am_i m_L_law 412 = some (412, .iadd, 1, [], 0) := (lk_2 (Nat.le_of_ble_eq_true rfl)).trans rfl
theorem i_L_law_413 : am_i m_L_law 413 = some (413, .iaload, 1, [], 0) := (lk_2 (Nat.le_of_ble_eq_true rfl)).trans rfl
theorem i_L_law_414 : am_i m_L_law 414 = some (414, .aload_n 0, 1, [], 0) := (lk_2 (Nat.le_of_ble_eq_true rfl)).trans rfl
theorem i_L_law_415 : am_i m_L_law 415 = some (415, .iload 5, 2, [], 0) := (lk_2 (Nat.le_of_ble_eq_true rfl)).trans rfl
theorem i_L_law_417 : am_i m_L_law 417 = some (417, .iconst 2, 1, [], 2) := (lk_3 (Nat.le_of_ble_eq_true rfl)).trans rfl
theorem i_L_law_418 : am_i m_L_law 418 = some (418, .iadd, 1, [], 0) := (lk_3 (Nat.le_of_ble_eq_true rfl)).trans rfl
theorem i_L_law_419 : am_i m_L_law 419 = some (419, .iaload, 1, [], 0) := (lk_3 (Nat.le_of_ble_eq_true rfl)).trans rfl
theorem i_L_law_420 : am_i m_L_law 420 = some (420, .invokevirtual 149, 3, [133, 10], 0) := (lk_3 (Nat.le_of_ble_eq_true rfl)).trans rfl
theorem b_L_law_405 {a0 a1 a2 a3 a4 n_a0 : Nat} {x5 xs0 : Int} {v6 v7 v8 : Value} {h : am_H} (n1 : gn h a0 = n_a0) (s2 : sh h a0 = (1, 7)) (g3 : 0 ≤ wr (x5 + 1) ∧ wr (x5 + 1) < (n_a0 : Int)) (g4 : 0 ≤ wr (x5 + 2) ∧ wr (x5 + 2) < (n_a0 : Int)) (k5 : K10 h a2) : rn m_L_law 405 [.ref a0, .ref a1, .ref a2, .ref a3, .ref a4, .int (mI x5), v6, v7, v8] [.int (mI xs0)] h = cl m_L_law 423 [.ref a0, .ref a1, .ref a2, .ref a3, .ref a4, .int (mI x5), .int (mI xs0), v7, v8] [] (rn m_X12_grain 0 [.ref a2, .int (mI (gZ h a0 (wr (x5 + 1)))), .int (mI (gZ h a0 (wr (x5 + 2)))), am_J, am_J] [] h) := by
  refine (tq_istore (L' := [.ref a0, .ref a1, .ref a2, .ref a3, .ref a4, .int (mI x5), .int (mI xs0), v7, v8]) i_L_law_405 rfl rfl).trans ?_
  refine (tq_aload_n i_L_law_407 rfl (isA_ref _) rfl).trans ?_
  refine (tq_aload_n i_L_law_408 rfl (isA_ref _) rfl).trans ?_
  refine (tq_iload i_L_law_409 rfl rfl).trans ?_
  refine (tq_iconst i_L_law_411 rfl).trans ?_
  refine (tq_iadd i_L_law_412 rfl).trans ?_
  refine (tq_iaload i_L_law_413 s2 (by decide) rfl g3.1 (lt_gn n1 g3.2) rfl).trans ?_
  refine (tq_aload_n i_L_law_414 rfl (isA_ref _) rfl).trans ?_
  refine (tq_iload i_L_law_415 rfl rfl).trans ?_
  refine (tq_iconst i_L_law_417 rfl).trans ?_
  refine (tq_iadd i_L_law_418 rfl).trans ?_
  refine (tq_iaload i_L_law_419 s2 (by decide) rfl g4.1 (lt_gn n1 g4.2) rfl).trans ?_
  exact c_X12_grain i_L_law_420 (K10_s k5) (ltd d_L_law (by decide)) stOk_0 rfl
theorem i_L_law_423 : am_i m_L_law 423 = some (423, .istore 7, 2, [], 0) := (lk_3 (Nat.le_of_ble_eq_true rfl)).trans rfl
theorem i_L_law_425 : am_i m_L_law 425 = some (425, .aload_n 2, 1, [], 0) := (lk_3 (Nat.le_of_ble_eq_true rfl)).trans rfl
theorem i_L_law_426 : am_i m_L_law 426 = some (426, .invokevirtual 139, 3, [39, 10], 0) := (lk_3 (Nat.le_of_ble_eq_true rfl)).trans rfl
theorem i_L_law_429 : am_i m_L_law 429 = some (429, .iload 6, 2, [], 0) := (lk_3 (Nat.le_of_ble_eq_true rfl)).trans rfl
theorem i_L_law_431 : am_i m_L_law 431 = some (431, .if_icmp .eq 5, 3, [], 0) := (lk_3 (Nat.le_of_ble_eq_true rfl)).trans rfl
theorem i_L_law_434 : am_i m_L_law 434 = some (434, .iconst 0, 1, [], 0) := (lk_3 (Nat.le_of_ble_eq_true rfl)).trans rfl
theorem i_L_law_435 : am_i m_L_law 435 = some (435, .ireturn, 1, [], 0) := (lk_3 (Nat.le_of_ble_eq_true rfl)).trans rfl
theorem i_L_law_436 : am_i m_L_law 436 = some (436, .iload 6, 2, [], 0) := (lk_3 (Nat.le_of_ble_eq_true rfl)).trans rfl
theorem i_L_law_438 : am_i m_L_law 438 = some (438, .ifCond .ne 15, 3, [], 0) := (lk_3 (Nat.le_of_ble_eq_true rfl)).trans rfl
theorem i_L_law_441 : am_i m_L_law 441 = some (441, .aload_n 3, 1, [], 0) := (lk_3 (Nat.le_of_ble_eq_true rfl)).trans rfl
theorem i_L_law_442 : am_i m_L_law 442 = some (442, .iconst 0, 1, [], 0) := (lk_3 (Nat.le_of_ble_eq_true rfl)).trans rfl
theorem i_L_law_443 : am_i m_L_law 443 = some (443, .laload, 1, [], 0) := (lk_3 (Nat.le_of_ble_eq_true rfl)).trans rfl
theorem i_L_law_444 : am_i m_L_law 444 = some (444, .iload 7, 2, [], 0) := (lk_3 (Nat.le_of_ble_eq_true rfl)).trans rfl
theorem i_L_law_446 : am_i m_L_law 446 = some (446, .i2l, 1, [], 0) := (lk_3 (Nat.le_of_ble_eq_true rfl)).trans rfl
theorem i_L_law_447 : am_i m_L_law 447 = some (447, .lcmp, 1, [], 0) := (lk_3 (Nat.le_of_ble_eq_true rfl)).trans rfl
theorem i_L_law_448 : am_i m_L_law 448 = some (448, .ifCond .eq 5, 3, [], 0) := (lk_3 (Nat.le_of_ble_eq_true rfl)).trans rfl
theorem i_L_law_451 : am_i m_L_law 451 = some (451, .iconst 0, 1, [], 0) := (lk_3 (Nat.le_of_ble_eq_true rfl)).trans rfl
theorem i_L_law_452 : am_i m_L_law 452 = some (452, .ireturn, 1, [], 0) := (lk_3 (Nat.le_of_ble_eq_true rfl)).trans rfl
theorem i_L_law_453 : am_i m_L_law 453 = some (453, .goto 1930, 3, [], 0) := (lk_3 (Nat.le_of_ble_eq_true rfl)).trans rfl
theorem b_L_law_423 {a0 a1 a2 a3 a4 n_a3 : Nat} {x5 x6 xs0 x6' xs0' : Int} {v7 v8 : Value} {h : am_H} (w6 : wr x6 = x6') (ws0 : wr xs0 = xs0') (k1 : K10 h a2) (n2 : gn h a3 = n_a3) (s3 : sh h a3 = (2, 3)) (g4 : ((fZ h a2 0) = x6') → (¬ (¬ x6' = 0)) → ((0 : Int) ≤ 0 ∧ 0 < (n_a3 : Int))) : rn m_L_law 423 [.ref a0, .ref a1, .ref a2, .ref a3, .ref a4, .int (mI x5), .int (mI x6), v7, v8] [.int (mI xs0)] h = if (fZ h a2 0) = x6' then if ¬ x6' = 0 then rn m_L_law 2383 [.ref a0, .ref a1, .ref a2, .ref a3, .ref a4, .int (mI x5), .int (mI x6), .int (mI xs0), v8] [] h else if (gJ h a3 0) = xs0' then rn m_L_law 2383 [.ref a0, .ref a1, .ref a2, .ref a3, .ref a4, .int (mI x5), .int (mI x6), .int (mI xs0), v8] [] h else some (.inl (some (.int (mI 0))), h) else some (.inl (some (.int (mI 0))), h) := by
  refine (tq_istore (L' := [.ref a0, .ref a1, .ref a2, .ref a3, .ref a4, .int (mI x5), .int (mI x6), .int (mI xs0), v8]) i_L_law_423 rfl rfl).trans ?_
  refine (tq_aload_n i_L_law_425 rfl (isA_ref _) rfl).trans ?_
  refine (c_X12_thrown i_L_law_426 (K10_s k1) (ltd d_L_law (by decide)) stOk_0 rfl).trans ?_
  refine (congrArg (cl _ _ _ _) (b_X12_thrown_0 k1)).trans ?_
  refine (cl_v _ _ _ _ _ _).trans ?_
  refine (tq_iload i_L_law_429 rfl rfl).trans ?_
  refine (tq_icmp_eq (pt := 436) i_L_law_431 (wr_fZ _ _ _) w6 (by decide) rfl).trans ?_
  refine ite_congr rfl (fun c1 => ?_) (fun c1 => ?_)
  · refine (tq_iload i_L_law_436 rfl rfl).trans ?_
    refine (tq_if_ne (pt := 453) i_L_law_438 w6 (by decide) rfl).trans ?_
    refine ite_congr rfl (fun c2 => ?_) (fun c2 => ?_)
    · refine (tq_goto (pc' := 2383) i_L_law_453 (by decide)).trans ?_
      rfl
    · refine (tq_aload_n i_L_law_441 rfl (isA_ref _) rfl).trans ?_
      refine (tq_iconst i_L_law_442 rfl).trans ?_
      refine (tq_laload i_L_law_443 s3 w_0 (g4 c1 c2).1 (lt_gn n2 (g4 c1 c2).2) rfl).trans ?_
      refine (tq_iload i_L_law_444 rfl rfl).trans ?_
      refine (tq_i2l i_L_law_446 ws0 rfl).trans ?_
      refine (tq_lcmp_eq (pt := 453) i_L_law_447 i_L_law_448 rfl (wl_gJ _ _ _) (wl_of_wr ws0) (by decide) rfl).trans ?_
      refine ite_congr rfl (fun c3 => ?_) (fun c3 => ?_)
      · refine (tq_goto (pc' := 2383) i_L_law_453 (by decide)).trans ?_
        rfl
      · refine (tq_iconst i_L_law_451 rfl).trans ?_
        exact tq_ireturn i_L_law_452 r_L_law (okB w_0 (by decide))
  · refine (tq_iconst i_L_law_434 rfl).trans ?_
    exact tq_ireturn i_L_law_435 r_L_law (okB w_0 (by decide))
theorem i_L_law_456 : am_i m_L_law 456 = some (456, .aload_n 1, 1, [], 0) := (lk_3 (Nat.le_of_ble_eq_true rfl)).trans rfl
theorem i_L_law_457 : am_i m_L_law 457 = some (457, .aload_n 0, 1, [], 0) := (lk_3 (Nat.le_of_ble_eq_true rfl)).trans rfl
theorem i_L_law_458 : am_i m_L_law 458 = some (458, .iload 5, 2, [], 0) := (lk_3 (Nat.le_of_ble_eq_true rfl)).trans rfl
theorem i_L_law_460 : am_i m_L_law 460 = some (460, .iconst 1, 1, [], 1) := (lk_3 (Nat.le_of_ble_eq_true rfl)).trans rfl
theorem i_L_law_461 : am_i m_L_law 461 = some (461, .iadd, 1, [], 0) := (lk_3 (Nat.le_of_ble_eq_true rfl)).trans rfl
theorem i_L_law_462 : am_i m_L_law 462 = some (462, .iaload, 1, [], 0) := (lk_3 (Nat.le_of_ble_eq_true rfl)).trans rfl
theorem i_L_law_463 : am_i m_L_law 463 = some (463, .aload_n 0, 1, [], 0) := (lk_3 (Nat.le_of_ble_eq_true rfl)).trans rfl
theorem i_L_law_464 : am_i m_L_law 464 = some (464, .iload 5, 2, [], 0) := (lk_3 (Nat.le_of_ble_eq_true rfl)).trans rfl
theorem i_L_law_466 : am_i m_L_law 466 = some (466, .iconst 2, 1, [], 2) := (lk_3 (Nat.le_of_ble_eq_true rfl)).trans rfl
theorem i_L_law_467 : am_i m_L_law 467 = some (467, .iadd, 1, [], 0) := (lk_3 (Nat.le_of_ble_eq_true rfl)).trans rfl
theorem i_L_law_468 : am_i m_L_law 468 = some (468, .iaload, 1, [], 0) := (lk_3 (Nat.le_of_ble_eq_true rfl)).trans rfl
theorem i_L_law_469 : am_i m_L_law 469 = some (469, .aload_n 3, 1, [], 0) := (lk_3 (Nat.le_of_ble_eq_true rfl)).trans rfl
theorem i_L_law_470 : am_i m_L_law 470 = some (470, .invokestatic 150, 3, [211], 0) := (lk_3 (Nat.le_of_ble_eq_true rfl)).trans rfl
theorem b_L_law_456 {a0 a1 a2 a3 a4 n_a0 : Nat} {x5 : Int} {v6 v7 v8 : Value} {h : am_H} (n1 : gn h a0 = n_a0) (s2 : sh h a0 = (1, 7)) (g3 : 0 ≤ wr (x5 + 1) ∧ wr (x5 + 1) < (n_a0 : Int)) (g4 : 0 ≤ wr (x5 + 2) ∧ wr (x5 + 2) < (n_a0 : Int)) : rn m_L_law 456 [.ref a0, .ref a1, .ref a2, .ref a3, .ref a4, .int (mI x5), v6, v7, v8] [] h = cl m_L_law 473 [.ref a0, .ref a1, .ref a2, .ref a3, .ref a4, .int (mI x5), v6, v7, v8] [] (rn m_L_move 0 [.ref a1, .int (mI (gZ h a0 (wr (x5 + 1)))), .int (mI (gZ h a0 (wr (x5 + 2)))), .ref a3, am_J] [] h) := by
  refine (tq_aload_n i_L_law_456 rfl (isA_ref _) rfl).trans ?_
  refine (tq_aload_n i_L_law_457 rfl (isA_ref _) rfl).trans ?_
  refine (tq_iload i_L_law_458 rfl rfl).trans ?_
  refine (tq_iconst i_L_law_460 rfl).trans ?_
  refine (tq_iadd i_L_law_461 rfl).trans ?_
  refine (tq_iaload i_L_law_462 s2 (by decide) rfl g3.1 (lt_gn n1 g3.2) rfl).trans ?_
  refine (tq_aload_n i_L_law_463 rfl (isA_ref _) rfl).trans ?_
  refine (tq_iload i_L_law_464 rfl rfl).trans ?_
  refine (tq_iconst i_L_law_466 rfl).trans ?_
  refine (tq_iadd i_L_law_467 rfl).trans ?_
  refine (tq_iaload i_L_law_468 s2 (by decide) rfl g4.1 (lt_gn n1 g4.2) rfl).trans ?_
  refine (tq_aload_n i_L_law_469 rfl (isA_ref _) rfl).trans ?_
  exact c_L_move i_L_law_470 (ltd d_L_law (by decide)) (isA_ref _) (isA_ref _) stOk_0 rfl
theorem i_L_law_473 : am_i m_L_law 473 = some (473, .istore 6, 2, [], 0) := (lk_3 (Nat.le_of_ble_eq_true rfl)).trans rfl
theorem i_L_law_475 : am_i m_L_law 475 = some (475, .aload_n 2, 1, [], 0) := (lk_3 (Nat.le_of_ble_eq_true rfl)).trans rfl
theorem i_L_law_476 : am_i m_L_law 476 = some (476, .aload_n 0, 1, [], 0) := (lk_3 (Nat.le_of_ble_eq_true rfl)).trans rfl
theorem i_L_law_477 : am_i m_L_law 477 = some (477, .iload 5, 2, [], 0) := (lk_3 (Nat.le_of_ble_eq_true rfl)).trans rfl
theorem i_L_law_479 : am_i m_L_law 479 = some (479, .iconst 1, 1, [], 1) := (lk_3 (Nat.le_of_ble_eq_true rfl)).trans rfl
theorem i_L_law_480 : am_i m_L_law 480 = some (480, .iadd, 1, [], 0) := (lk_3 (Nat.le_of_ble_eq_true rfl)).trans rfl
theorem i_L_law_481 : am_i m_L_law 481 = some (481, .iaload, 1, [], 0) := (lk_3 (Nat.le_of_ble_eq_true rfl)).trans rfl
theorem i_L_law_482 : am_i m_L_law 482 = some (482, .aload_n 0, 1, [], 0) := (lk_3 (Nat.le_of_ble_eq_true rfl)).trans rfl
theorem i_L_law_483 : am_i m_L_law 483 = some (483, .iload 5, 2, [], 0) := (lk_3 (Nat.le_of_ble_eq_true rfl)).trans rfl
theorem i_L_law_485 : am_i m_L_law 485 = some (485, .iconst 2, 1, [], 2) := (lk_3 (Nat.le_of_ble_eq_true rfl)).trans rfl
theorem i_L_law_486 : am_i m_L_law 486 = some (486, .iadd, 1, [], 0) := (lk_3 (Nat.le_of_ble_eq_true rfl)).trans rfl
theorem i_L_law_487 : am_i m_L_law 487 = some (487, .iaload, 1, [], 0) := (lk_3 (Nat.le_of_ble_eq_true rfl)).trans rfl
theorem i_L_law_488 : am_i m_L_law 488 = some (488, .invokevirtual 152, 3, [87, 10], 0) := (lk_3 (Nat.le_of_ble_eq_true rfl)).trans rfl
theorem b_L_law_473 {a0 a1 a2 a3 a4 n_a0 : Nat} {x5 xs0 : Int} {v6 v7 v8 : Value} {h : am_H} (n1 : gn h a0 = n_a0) (s2 : sh h a0 = (1, 7)) (g3 : 0 ≤ wr (x5 + 1) ∧ wr (x5 + 1) < (n_a0 : Int)) (g4 : 0 ≤ wr (x5 + 2) ∧ wr (x5 + 2) < (n_a0 : Int)) (k5 : K10 h a2) : rn m_L_law 473 [.ref a0, .ref a1, .ref a2, .ref a3, .ref a4, .int (mI x5), v6, v7, v8] [.int (mI xs0)] h = cl m_L_law 491 [.ref a0, .ref a1, .ref a2, .ref a3, .ref a4, .int (mI x5), .int (mI xs0), v7, v8] [] (rn m_X12_move 0 [.ref a2, .int (mI (gZ h a0 (wr (x5 + 1)))), .int (mI (gZ h a0 (wr (x5 + 2)))), am_J, am_J, am_J, am_J] [] h) := by
  refine (tq_istore (L' := [.ref a0, .ref a1, .ref a2, .ref a3, .ref a4, .int (mI x5), .int (mI xs0), v7, v8]) i_L_law_473 rfl rfl).trans ?_
  refine (tq_aload_n i_L_law_475 rfl (isA_ref _) rfl).trans ?_
  refine (tq_aload_n i_L_law_476 rfl (isA_ref _) rfl).trans ?_
  refine (tq_iload i_L_law_477 rfl rfl).trans ?_
  refine (tq_iconst i_L_law_479 rfl).trans ?_
  refine (tq_iadd i_L_law_480 rfl).trans ?_
  refine (tq_iaload i_L_law_481 s2 (by decide) rfl g3.1 (lt_gn n1 g3.2) rfl).trans ?_
  refine (tq_aload_n i_L_law_482 rfl (isA_ref _) rfl).trans ?_
  refine (tq_iload i_L_law_483 rfl rfl).trans ?_
  refine (tq_iconst i_L_law_485 rfl).trans ?_
  refine (tq_iadd i_L_law_486 rfl).trans ?_
  refine (tq_iaload i_L_law_487 s2 (by decide) rfl g4.1 (lt_gn n1 g4.2) rfl).trans ?_
  exact c_X12_move i_L_law_488 (K10_s k5) (ltd d_L_law (by decide)) stOk_0 rfl
theorem i_L_law_491 : am_i m_L_law 491 = some (491, .istore 7, 2, [], 0) := (lk_3 (Nat.le_of_ble_eq_true rfl)).trans rfl
theorem i_L_law_493 : am_i m_L_law 493 = some (493, .aload_n 2, 1, [], 0) := (lk_3 (Nat.le_of_ble_eq_true rfl)).trans rfl
theorem i_L_law_494 : am_i m_L_law 494 = some (494, .invokevirtual 139, 3, [39, 10], 0) := (lk_3 (Nat.le_of_ble_eq_true rfl)).trans rfl
theorem i_L_law_497 : am_i m_L_law 497 = some (497, .iload 6, 2, [], 0) := (lk_3 (Nat.le_of_ble_eq_true rfl)).trans rfl
theorem i_L_law_499 : am_i m_L_law 499 = some (499, .if_icmp .eq 5, 3, [], 0) := (lk_3 (Nat.le_of_ble_eq_true rfl)).trans rfl
theorem i_L_law_502 : am_i m_L_law 502 = some (502, .iconst 0, 1, [], 0) := (lk_3 (Nat.le_of_ble_eq_true rfl)).trans rfl
theorem i_L_law_503 : am_i m_L_law 503 = some (503, .ireturn, 1, [], 0) := (lk_3 (Nat.le_of_ble_eq_true rfl)).trans rfl
theorem i_L_law_504 : am_i m_L_law 504 = some (504, .iload 6, 2, [], 0) := (lk_3 (Nat.le_of_ble_eq_true rfl)).trans rfl
theorem i_L_law_506 : am_i m_L_law 506 = some (506, .ifCond .ne 15, 3, [], 0) := (lk_3 (Nat.le_of_ble_eq_true rfl)).trans rfl
theorem i_L_law_509 : am_i m_L_law 509 = some (509, .aload_n 3, 1, [], 0) := (lk_3 (Nat.le_of_ble_eq_true rfl)).trans rfl
theorem i_L_law_510 : am_i m_L_law 510 = some (510, .iconst 0, 1, [], 0) := (lk_3 (Nat.le_of_ble_eq_true rfl)).trans rfl
theorem i_L_law_511 : am_i m_L_law 511 = some (511, .laload, 1, [], 0) := (lk_4 (Nat.le_of_ble_eq_true rfl)).trans rfl
theorem i_L_law_512 : am_i m_L_law 512 = some (512, .iload 7, 2, [], 0) := (lk_4 (Nat.le_of_ble_eq_true rfl)).trans rfl
theorem i_L_law_514 : am_i m_L_law 514 = some (514, .i2l, 1, [], 0) := (lk_4 (Nat.le_of_ble_eq_true rfl)).trans rfl
theorem i_L_law_515 : am_i m_L_law 515 = some (515, .lcmp, 1, [], 0) := (lk_4 (Nat.le_of_ble_eq_true rfl)).trans rfl
theorem i_L_law_516 : am_i m_L_law 516 = some (516, .ifCond .eq 5, 3, [], 0) := (lk_4 (Nat.le_of_ble_eq_true rfl)).trans rfl
theorem i_L_law_519 : am_i m_L_law 519 = some (519, .iconst 0, 1, [], 0) := (lk_4 (Nat.le_of_ble_eq_true rfl)).trans rfl
theorem i_L_law_520 : am_i m_L_law 520 = some (520, .ireturn, 1, [], 0) := (lk_4 (Nat.le_of_ble_eq_true rfl)).trans rfl
theorem i_L_law_521 : am_i m_L_law 521 = some (521, .goto 1862, 3, [], 0) := (lk_4 (Nat.le_of_ble_eq_true rfl)).trans rfl
theorem b_L_law_491 {a0 a1 a2 a3 a4 n_a3 : Nat} {x5 x6 xs0 x6' xs0' : Int} {v7 v8 : Value} {h : am_H} (w6 : wr x6 = x6') (ws0 : wr xs0 = xs0') (k1 : K10 h a2) (n2 : gn h a3 = n_a3) (s3 : sh h a3 = (2, 3)) (g4 : ((fZ h a2 0) = x6') → (¬ (¬ x6' = 0)) → ((0 : Int) ≤ 0 ∧ 0 < (n_a3 : Int))) : rn m_L_law 491 [.ref a0, .ref a1, .ref a2, .ref a3, .ref a4, .int (mI x5), .int (mI x6), v7, v8] [.int (mI xs0)] h = if (fZ h a2 0) = x6' then if ¬ x6' = 0 then rn m_L_law 2383 [.ref a0, .ref a1, .ref a2, .ref a3, .ref a4, .int (mI x5), .int (mI x6), .int (mI xs0), v8] [] h else if (gJ h a3 0) = xs0' then rn m_L_law 2383 [.ref a0, .ref a1, .ref a2, .ref a3, .ref a4, .int (mI x5), .int (mI x6), .int (mI xs0), v8] [] h else some (.inl (some (.int (mI 0))), h) else some (.inl (some (.int (mI 0))), h) := by
  refine (tq_istore (L' := [.ref a0, .ref a1, .ref a2, .ref a3, .ref a4, .int (mI x5), .int (mI x6), .int (mI xs0), v8]) i_L_law_491 rfl rfl).trans ?_
  refine (tq_aload_n i_L_law_493 rfl (isA_ref _) rfl).trans ?_
  refine (c_X12_thrown i_L_law_494 (K10_s k1) (ltd d_L_law (by decide)) stOk_0 rfl).trans ?_
  refine (congrArg (cl _ _ _ _) (b_X12_thrown_0 k1)).trans ?_
  refine (cl_v _ _ _ _ _ _).trans ?_
  refine (tq_iload i_L_law_497 rfl rfl).trans ?_
  refine (tq_icmp_eq (pt := 504) i_L_law_499 (wr_fZ _ _ _) w6 (by decide) rfl).trans ?_
  refine ite_congr rfl (fun c1 => ?_) (fun c1 => ?_)
  · refine (tq_iload i_L_law_504 rfl rfl).trans ?_
    refine (tq_if_ne (pt := 521) i_L_law_506 w6 (by decide) rfl).trans ?_
    refine ite_congr rfl (fun c2 => ?_) (fun c2 => ?_)
    · refine (tq_goto (pc' := 2383) i_L_law_521 (by decide)).trans ?_
      rfl
    · refine (tq_aload_n i_L_law_509 rfl (isA_ref _) rfl).trans ?_
      refine (tq_iconst i_L_law_510 rfl).trans ?_
      refine (tq_laload i_L_law_511 s3 w_0 (g4 c1 c2).1 (lt_gn n2 (g4 c1 c2).2) rfl).trans ?_
      refine (tq_iload i_L_law_512 rfl rfl).trans ?_
      refine (tq_i2l i_L_law_514 ws0 rfl).trans ?_
      refine (tq_lcmp_eq (pt := 521) i_L_law_515 i_L_law_516 rfl (wl_gJ _ _ _) (wl_of_wr ws0) (by decide) rfl).trans ?_
      refine ite_congr rfl (fun c3 => ?_) (fun c3 => ?_)
      · refine (tq_goto (pc' := 2383) i_L_law_521 (by decide)).trans ?_
        rfl
      · refine (tq_iconst i_L_law_519 rfl).trans ?_
        exact tq_ireturn i_L_law_520 r_L_law (okB w_0 (by decide))
  · refine (tq_iconst i_L_law_502 rfl).trans ?_
    exact tq_ireturn i_L_law_503 r_L_law (okB w_0 (by decide))
theorem i_L_law_524 : am_i m_L_law 524 = some (524, .aload_n 1, 1, [], 0) := (lk_4 (Nat.le_of_ble_eq_true rfl)).trans rfl
theorem i_L_law_525 : am_i m_L_law 525 = some (525, .aload_n 0, 1, [], 0) := (lk_4 (Nat.le_of_ble_eq_true rfl)).trans rfl
theorem i_L_law_526 : am_i m_L_law 526 = some (526, .iload 5, 2, [], 0) := (lk_4 (Nat.le_of_ble_eq_true rfl)).trans rfl
theorem i_L_law_528 : am_i m_L_law 528 = some (528, .iconst 1, 1, [], 1) := (lk_4 (Nat.le_of_ble_eq_true rfl)).trans rfl
theorem i_L_law_529 : am_i m_L_law 529 = some (529, .iadd, 1, [], 0) := (lk_4 (Nat.le_of_ble_eq_true rfl)).trans rfl
theorem i_L_law_530 : am_i m_L_law 530 = some (530, .iaload, 1, [], 0) := (lk_4 (Nat.le_of_ble_eq_true rfl)).trans rfl
theorem i_L_law_531 : am_i m_L_law 531 = some (531, .aload_n 0, 1, [], 0) := (lk_4 (Nat.le_of_ble_eq_true rfl)).trans rfl
theorem i_L_law_532 : am_i m_L_law 532 = some (532, .iload 5, 2, [], 0) := (lk_4 (Nat.le_of_ble_eq_true rfl)).trans rfl
theorem i_L_law_534 : am_i m_L_law 534 = some (534, .iconst 2, 1, [], 2) := (lk_4 (Nat.le_of_ble_eq_true rfl)).trans rfl
theorem i_L_law_535 : am_i m_L_law 535 = some (535, .iadd, 1, [], 0) := (lk_4 (Nat.le_of_ble_eq_true rfl)).trans rfl
theorem i_L_law_536 : am_i m_L_law 536 = some (536, .iaload, 1, [], 0) := (lk_4 (Nat.le_of_ble_eq_true rfl)).trans rfl
theorem i_L_law_537 : am_i m_L_law 537 = some (537, .aload_n 3, 1, [], 0) := (lk_4 (Nat.le_of_ble_eq_true rfl)).trans rfl
theorem i_L_law_538 : am_i m_L_law 538 = some (538, .invokestatic 153, 3, [249], 0) := (lk_4 (Nat.le_of_ble_eq_true rfl)).trans rfl
theorem b_L_law_524 {a0 a1 a2 a3 a4 n_a0 : Nat} {x5 : Int} {v6 v7 v8 : Value} {h : am_H} (n1 : gn h a0 = n_a0) (s2 : sh h a0 = (1, 7)) (g3 : 0 ≤ wr (x5 + 1) ∧ wr (x5 + 1) < (n_a0 : Int)) (g4 : 0 ≤ wr (x5 + 2) ∧ wr (x5 + 2) < (n_a0 : Int)) : rn m_L_law 524 [.ref a0, .ref a1, .ref a2, .ref a3, .ref a4, .int (mI x5), v6, v7, v8] [] h = cl m_L_law 541 [.ref a0, .ref a1, .ref a2, .ref a3, .ref a4, .int (mI x5), v6, v7, v8] [] (rn m_L_pixel 0 [.ref a1, .int (mI (gZ h a0 (wr (x5 + 1)))), .int (mI (gZ h a0 (wr (x5 + 2)))), .ref a3, am_J] [] h) := by
  refine (tq_aload_n i_L_law_524 rfl (isA_ref _) rfl).trans ?_
  refine (tq_aload_n i_L_law_525 rfl (isA_ref _) rfl).trans ?_
  refine (tq_iload i_L_law_526 rfl rfl).trans ?_
  refine (tq_iconst i_L_law_528 rfl).trans ?_
  refine (tq_iadd i_L_law_529 rfl).trans ?_
  refine (tq_iaload i_L_law_530 s2 (by decide) rfl g3.1 (lt_gn n1 g3.2) rfl).trans ?_
  refine (tq_aload_n i_L_law_531 rfl (isA_ref _) rfl).trans ?_
  refine (tq_iload i_L_law_532 rfl rfl).trans ?_
  refine (tq_iconst i_L_law_534 rfl).trans ?_
  refine (tq_iadd i_L_law_535 rfl).trans ?_
  refine (tq_iaload i_L_law_536 s2 (by decide) rfl g4.1 (lt_gn n1 g4.2) rfl).trans ?_
  refine (tq_aload_n i_L_law_537 rfl (isA_ref _) rfl).trans ?_
  exact c_L_pixel i_L_law_538 (ltd d_L_law (by decide)) (isA_ref _) (isA_ref _) stOk_0 rfl
theorem i_L_law_541 : am_i m_L_law 541 = some (541, .istore 6, 2, [], 0) := (lk_4 (Nat.le_of_ble_eq_true rfl)).trans rfl
theorem i_L_law_543 : am_i m_L_law 543 = some (543, .aload_n 2, 1, [], 0) := (lk_4 (Nat.le_of_ble_eq_true rfl)).trans rfl
theorem i_L_law_544 : am_i m_L_law 544 = some (544, .aload_n 0, 1, [], 0) := (lk_4 (Nat.le_of_ble_eq_true rfl)).trans rfl
theorem i_L_law_545 : am_i m_L_law 545 = some (545, .iload 5, 2, [], 0) := (lk_4 (Nat.le_of_ble_eq_true rfl)).trans rfl
theorem i_L_law_547 : am_i m_L_law 547 = some (547, .iconst 1, 1, [], 1) := (lk_4 (Nat.le_of_ble_eq_true rfl)).trans rfl
theorem i_L_law_548 : am_i m_L_law 548 = some (548, .iadd, 1, [], 0) := (lk_4 (Nat.le_of_ble_eq_true rfl)).trans rfl
theorem i_L_law_549 : am_i m_L_law 549 = some (549, .iaload, 1, [], 0) := (lk_4 (Nat.le_of_ble_eq_true rfl)).trans rfl
theorem i_L_law_550 : am_i m_L_law 550 = some (550, .aload_n 0, 1, [], 0) := (lk_4 (Nat.le_of_ble_eq_true rfl)).trans rfl
theorem i_L_law_551 : am_i m_L_law 551 = some (551, .iload 5, 2, [], 0) := (lk_4 (Nat.le_of_ble_eq_true rfl)).trans rfl
theorem i_L_law_553 : am_i m_L_law 553 = some (553, .iconst 2, 1, [], 2) := (lk_4 (Nat.le_of_ble_eq_true rfl)).trans rfl
theorem i_L_law_554 : am_i m_L_law 554 = some (554, .iadd, 1, [], 0) := (lk_4 (Nat.le_of_ble_eq_true rfl)).trans rfl
theorem i_L_law_555 : am_i m_L_law 555 = some (555, .iaload, 1, [], 0) := (lk_4 (Nat.le_of_ble_eq_true rfl)).trans rfl
theorem i_L_law_556 : am_i m_L_law 556 = some (556, .invokevirtual 155, 3, [137, 10], 0) := (lk_4 (Nat.le_of_ble_eq_true rfl)).trans rfl
theorem b_L_law_541 {a0 a1 a2 a3 a4 n_a0 : Nat} {x5 xs0 : Int} {v6 v7 v8 : Value} {h : am_H} (n1 : gn h a0 = n_a0) (s2 : sh h a0 = (1, 7)) (g3 : 0 ≤ wr (x5 + 1) ∧ wr (x5 + 1) < (n_a0 : Int)) (g4 : 0 ≤ wr (x5 + 2) ∧ wr (x5 + 2) < (n_a0 : Int)) (k5 : K10 h a2) : rn m_L_law 541 [.ref a0, .ref a1, .ref a2, .ref a3, .ref a4, .int (mI x5), v6, v7, v8] [.int (mI xs0)] h = cl m_L_law 559 [.ref a0, .ref a1, .ref a2, .ref a3, .ref a4, .int (mI x5), .int (mI xs0), v7, v8] [] (rn m_X12_pixel 0 [.ref a2, .int (mI (gZ h a0 (wr (x5 + 1)))), .int (mI (gZ h a0 (wr (x5 + 2))))] [] h) := by
  refine (tq_istore (L' := [.ref a0, .ref a1, .ref a2, .ref a3, .ref a4, .int (mI x5), .int (mI xs0), v7, v8]) i_L_law_541 rfl rfl).trans ?_
  refine (tq_aload_n i_L_law_543 rfl (isA_ref _) rfl).trans ?_
  refine (tq_aload_n i_L_law_544 rfl (isA_ref _) rfl).trans ?_
  refine (tq_iload i_L_law_545 rfl rfl).trans ?_
  refine (tq_iconst i_L_law_547 rfl).trans ?_
  refine (tq_iadd i_L_law_548 rfl).trans ?_
  refine (tq_iaload i_L_law_549 s2 (by decide) rfl g3.1 (lt_gn n1 g3.2) rfl).trans ?_
  refine (tq_aload_n i_L_law_550 rfl (isA_ref _) rfl).trans ?_
  refine (tq_iload i_L_law_551 rfl rfl).trans ?_
  refine (tq_iconst i_L_law_553 rfl).trans ?_
  refine (tq_iadd i_L_law_554 rfl).trans ?_
  refine (tq_iaload i_L_law_555 s2 (by decide) rfl g4.1 (lt_gn n1 g4.2) rfl).trans ?_
  exact c_X12_pixel i_L_law_556 (K10_s k5) (ltd d_L_law (by decide)) stOk_0 rfl
theorem i_L_law_559 : am_i m_L_law 559 = some (559, .istore 7, 2, [], 0) := (lk_4 (Nat.le_of_ble_eq_true rfl)).trans rfl
theorem i_L_law_561 : am_i m_L_law 561 = some (561, .aload_n 2, 1, [], 0) := (lk_4 (Nat.le_of_ble_eq_true rfl)).trans rfl
theorem i_L_law_562 : am_i m_L_law 562 = some (562, .invokevirtual 139, 3, [39, 10], 0) := (lk_4 (Nat.le_of_ble_eq_true rfl)).trans rfl
theorem i_L_law_565 : am_i m_L_law 565 = some (565, .iload 6, 2, [], 0) := (lk_4 (Nat.le_of_ble_eq_true rfl)).trans rfl
theorem i_L_law_567 : am_i m_L_law 567 = some (567, .if_icmp .eq 5, 3, [], 0) := (lk_4 (Nat.le_of_ble_eq_true rfl)).trans rfl
theorem i_L_law_570 : am_i m_L_law 570 = some (570, .iconst 0, 1, [], 0) := (lk_4 (Nat.le_of_ble_eq_true rfl)).trans rfl
theorem i_L_law_571 : am_i m_L_law 571 = some (571, .ireturn, 1, [], 0) := (lk_4 (Nat.le_of_ble_eq_true rfl)).trans rfl
theorem i_L_law_572 : am_i m_L_law 572 = some (572, .iload 6, 2, [], 0) := (lk_4 (Nat.le_of_ble_eq_true rfl)).trans rfl
theorem i_L_law_574 : am_i m_L_law 574 = some (574, .ifCond .ne 15, 3, [], 0) := (lk_4 (Nat.le_of_ble_eq_true rfl)).trans rfl
theorem i_L_law_577 : am_i m_L_law 577 = some (577, .aload_n 3, 1, [], 0) := (lk_4 (Nat.le_of_ble_eq_true rfl)).trans rfl
theorem i_L_law_578 : am_i m_L_law 578 = some (578, .iconst 0, 1, [], 0) := (lk_4 (Nat.le_of_ble_eq_true rfl)).trans rfl
theorem i_L_law_579 : am_i m_L_law 579 = some (579, .laload, 1, [], 0) := (lk_4 (Nat.le_of_ble_eq_true rfl)).trans rfl
theorem i_L_law_580 : am_i m_L_law 580 = some (580, .iload 7, 2, [], 0) := (lk_4 (Nat.le_of_ble_eq_true rfl)).trans rfl
theorem i_L_law_582 : am_i m_L_law 582 = some (582, .i2l, 1, [], 0) := (lk_4 (Nat.le_of_ble_eq_true rfl)).trans rfl
theorem i_L_law_583 : am_i m_L_law 583 = some (583, .lcmp, 1, [], 0) := (lk_4 (Nat.le_of_ble_eq_true rfl)).trans rfl
theorem i_L_law_584 : am_i m_L_law 584 = some (584, .ifCond .eq 5, 3, [], 0) := (lk_4 (Nat.le_of_ble_eq_true rfl)).trans rfl
theorem i_L_law_587 : am_i m_L_law 587 = some (587, .iconst 0, 1, [], 0) := (lk_4 (Nat.le_of_ble_eq_true rfl)).trans rfl
theorem i_L_law_588 : am_i m_L_law 588 = some (588, .ireturn, 1, [], 0) := (lk_4 (Nat.le_of_ble_eq_true rfl)).trans rfl
theorem i_L_law_589 : am_i m_L_law 589 = some (589, .goto 1794, 3, [], 0) := (lk_4 (Nat.le_of_ble_eq_true rfl)).trans rfl
theorem b_L_law_559 {a0 a1 a2 a3 a4 n_a3 : Nat} {x5 x6 xs0 x6' xs0' : Int} {v7 v8 : Value} {h : am_H} (w6 : wr x6 = x6') (ws0 : wr xs0 = xs0') (k1 : K10 h a2) (n2 : gn h a3 = n_a3) (s3 : sh h a3 = (2, 3)) (g4 : ((fZ h a2 0) = x6') → (¬ (¬ x6' = 0)) → ((0 : Int) ≤ 0 ∧ 0 < (n_a3 : Int))) : rn m_L_law 559 [.ref a0, .ref a1, .ref a2, .ref a3, .ref a4, .int (mI x5), .int (mI x6), v7, v8] [.int (mI xs0)] h = if (fZ h a2 0) = x6' then if ¬ x6' = 0 then rn m_L_law 2383 [.ref a0, .ref a1, .ref a2, .ref a3, .ref a4, .int (mI x5), .int (mI x6), .int (mI xs0), v8] [] h else if (gJ h a3 0) = xs0' then rn m_L_law 2383 [.ref a0, .ref a1, .ref a2, .ref a3, .ref a4, .int (mI x5), .int (mI x6), .int (mI xs0), v8] [] h else some (.inl (some (.int (mI 0))), h) else some (.inl (some (.int (mI 0))), h) := by
  refine (tq_istore (L' := [.ref a0, .ref a1, .ref a2, .ref a3, .ref a4, .int (mI x5), .int (mI x6), .int (mI xs0), v8]) i_L_law_559 rfl rfl).trans ?_
  refine (tq_aload_n i_L_law_561 rfl (isA_ref _) rfl).trans ?_
  refine (c_X12_thrown i_L_law_562 (K10_s k1) (ltd d_L_law (by decide)) stOk_0 rfl).trans ?_
  refine (congrArg (cl _ _ _ _) (b_X12_thrown_0 k1)).trans ?_
  refine (cl_v _ _ _ _ _ _).trans ?_
  refine (tq_iload i_L_law_565 rfl rfl).trans ?_
  refine (tq_icmp_eq (pt := 572) i_L_law_567 (wr_fZ _ _ _) w6 (by decide) rfl).trans ?_
  refine ite_congr rfl (fun c1 => ?_) (fun c1 => ?_)
  · refine (tq_iload i_L_law_572 rfl rfl).trans ?_
    refine (tq_if_ne (pt := 589) i_L_law_574 w6 (by decide) rfl).trans ?_
    refine ite_congr rfl (fun c2 => ?_) (fun c2 => ?_)
    · refine (tq_goto (pc' := 2383) i_L_law_589 (by decide)).trans ?_
      rfl
    · refine (tq_aload_n i_L_law_577 rfl (isA_ref _) rfl).trans ?_
      refine (tq_iconst i_L_law_578 rfl).trans ?_
      refine (tq_laload i_L_law_579 s3 w_0 (g4 c1 c2).1 (lt_gn n2 (g4 c1 c2).2) rfl).trans ?_
      refine (tq_iload i_L_law_580 rfl rfl).trans ?_
      refine (tq_i2l i_L_law_582 ws0 rfl).trans ?_
      refine (tq_lcmp_eq (pt := 589) i_L_law_583 i_L_law_584 rfl (wl_gJ _ _ _) (wl_of_wr ws0) (by decide) rfl).trans ?_
      refine ite_congr rfl (fun c3 => ?_) (fun c3 => ?_)
      · refine (tq_goto (pc' := 2383) i_L_law_589 (by decide)).trans ?_
        rfl
      · refine (tq_iconst i_L_law_587 rfl).trans ?_
        exact tq_ireturn i_L_law_588 r_L_law (okB w_0 (by decide))
  · refine (tq_iconst i_L_law_570 rfl).trans ?_
    exact tq_ireturn i_L_law_571 r_L_law (okB w_0 (by decide))
theorem i_L_law_592 : am_i m_L_law 592 = some (592, .aload_n 1, 1, [], 0) := (lk_4 (Nat.le_of_ble_eq_true rfl)).trans rfl
theorem i_L_law_593 : am_i m_L_law 593 = some (593, .aload_n 0, 1, [], 0) := (lk_4 (Nat.le_of_ble_eq_true rfl)).trans rfl
theorem i_L_law_594 : am_i m_L_law 594 = some (594, .iload 5, 2, [], 0) := (lk_4 (Nat.le_of_ble_eq_true rfl)).trans rfl
theorem i_L_law_596 : am_i m_L_law 596 = some (596, .iconst 1, 1, [], 1) := (lk_4 (Nat.le_of_ble_eq_true rfl)).trans rfl
theorem i_L_law_597 : am_i m_L_law 597 = some (597, .iadd, 1, [], 0) := (lk_4 (Nat.le_of_ble_eq_true rfl)).trans rfl
theorem i_L_law_598 : am_i m_L_law 598 = some (598, .iaload, 1, [], 0) := (lk_4 (Nat.le_of_ble_eq_true rfl)).trans rfl
theorem i_L_law_599 : am_i m_L_law 599 = some (599, .aload_n 3, 1, [], 0) := (lk_4 (Nat.le_of_ble_eq_true rfl)).trans rfl
theorem i_L_law_600 : am_i m_L_law 600 = some (600, .invokestatic 156, 3, [213], 0) := (lk_5 (Nat.le_of_ble_eq_true rfl)).trans rfl
theorem b_L_law_592 {a0 a1 a2 a3 a4 n_a0 : Nat} {x5 : Int} {v6 v7 v8 : Value} {h : am_H} (n1 : gn h a0 = n_a0) (s2 : sh h a0 = (1, 7)) (g3 : 0 ≤ wr (x5 + 1) ∧ wr (x5 + 1) < (n_a0 : Int)) : rn m_L_law 592 [.ref a0, .ref a1, .ref a2, .ref a3, .ref a4, .int (mI x5), v6, v7, v8] [] h = cl m_L_law 603 [.ref a0, .ref a1, .ref a2, .ref a3, .ref a4, .int (mI x5), v6, v7, v8] [] (rn m_L_setCoarseness 0 [.ref a1, .int (mI (gZ h a0 (wr (x5 + 1)))), .ref a3, am_J] [] h) := by
  refine (tq_aload_n i_L_law_592 rfl (isA_ref _) rfl).trans ?_
  refine (tq_aload_n i_L_law_593 rfl (isA_ref _) rfl).trans ?_
  refine (tq_iload i_L_law_594 rfl rfl).trans ?_
  refine (tq_iconst i_L_law_596 rfl).trans ?_
  refine (tq_iadd i_L_law_597 rfl).trans ?_
  refine (tq_iaload i_L_law_598 s2 (by decide) rfl g3.1 (lt_gn n1 g3.2) rfl).trans ?_
  refine (tq_aload_n i_L_law_599 rfl (isA_ref _) rfl).trans ?_
  exact c_L_setCoarseness i_L_law_600 (ltd d_L_law (by decide)) (isA_ref _) (isA_ref _) stOk_0 rfl
theorem i_L_law_603 : am_i m_L_law 603 = some (603, .istore 6, 2, [], 0) := (lk_5 (Nat.le_of_ble_eq_true rfl)).trans rfl
theorem i_L_law_605 : am_i m_L_law 605 = some (605, .aload_n 2, 1, [], 0) := (lk_5 (Nat.le_of_ble_eq_true rfl)).trans rfl
theorem i_L_law_606 : am_i m_L_law 606 = some (606, .aload_n 0, 1, [], 0) := (lk_5 (Nat.le_of_ble_eq_true rfl)).trans rfl
theorem i_L_law_607 : am_i m_L_law 607 = some (607, .iload 5, 2, [], 0) := (lk_5 (Nat.le_of_ble_eq_true rfl)).trans rfl
theorem i_L_law_609 : am_i m_L_law 609 = some (609, .iconst 1, 1, [], 1) := (lk_5 (Nat.le_of_ble_eq_true rfl)).trans rfl
theorem i_L_law_610 : am_i m_L_law 610 = some (610, .iadd, 1, [], 0) := (lk_5 (Nat.le_of_ble_eq_true rfl)).trans rfl
theorem i_L_law_611 : am_i m_L_law 611 = some (611, .iaload, 1, [], 0) := (lk_5 (Nat.le_of_ble_eq_true rfl)).trans rfl
theorem i_L_law_612 : am_i m_L_law 612 = some (612, .invokevirtual 159, 3, [93, 10], 0) := (lk_5 (Nat.le_of_ble_eq_true rfl)).trans rfl
theorem b_L_law_603 {a0 a1 a2 a3 a4 n_a0 : Nat} {x5 xs0 : Int} {v6 v7 v8 : Value} {h : am_H} (n1 : gn h a0 = n_a0) (s2 : sh h a0 = (1, 7)) (g3 : 0 ≤ wr (x5 + 1) ∧ wr (x5 + 1) < (n_a0 : Int)) (k4 : K10 h a2) : rn m_L_law 603 [.ref a0, .ref a1, .ref a2, .ref a3, .ref a4, .int (mI x5), v6, v7, v8] [.int (mI xs0)] h = cl m_L_law 615 [.ref a0, .ref a1, .ref a2, .ref a3, .ref a4, .int (mI x5), .int (mI xs0), v7, v8] [] (rn m_X12_setCoarseness 0 [.ref a2, .int (mI (gZ h a0 (wr (x5 + 1)))), am_J] [] h) := by
  refine (tq_istore (L' := [.ref a0, .ref a1, .ref a2, .ref a3, .ref a4, .int (mI x5), .int (mI xs0), v7, v8]) i_L_law_603 rfl rfl).trans ?_
  refine (tq_aload_n i_L_law_605 rfl (isA_ref _) rfl).trans ?_
  refine (tq_aload_n i_L_law_606 rfl (isA_ref _) rfl).trans ?_
  refine (tq_iload i_L_law_607 rfl rfl).trans ?_
  refine (tq_iconst i_L_law_609 rfl).trans ?_
  refine (tq_iadd i_L_law_610 rfl).trans ?_
  refine (tq_iaload i_L_law_611 s2 (by decide) rfl g3.1 (lt_gn n1 g3.2) rfl).trans ?_
  exact c_X12_setCoarseness i_L_law_612 (K10_s k4) (ltd d_L_law (by decide)) stOk_0 rfl
theorem i_L_law_615 : am_i m_L_law 615 = some (615, .istore 7, 2, [], 0) := (lk_5 (Nat.le_of_ble_eq_true rfl)).trans rfl
theorem i_L_law_617 : am_i m_L_law 617 = some (617, .aload_n 2, 1, [], 0) := (lk_5 (Nat.le_of_ble_eq_true rfl)).trans rfl
theorem i_L_law_618 : am_i m_L_law 618 = some (618, .invokevirtual 139, 3, [39, 10], 0) := (lk_5 (Nat.le_of_ble_eq_true rfl)).trans rfl
theorem i_L_law_621 : am_i m_L_law 621 = some (621, .iload 6, 2, [], 0) := (lk_5 (Nat.le_of_ble_eq_true rfl)).trans rfl
theorem i_L_law_623 : am_i m_L_law 623 = some (623, .if_icmp .eq 5, 3, [], 0) := (lk_5 (Nat.le_of_ble_eq_true rfl)).trans rfl
theorem i_L_law_626 : am_i m_L_law 626 = some (626, .iconst 0, 1, [], 0) := (lk_5 (Nat.le_of_ble_eq_true rfl)).trans rfl
theorem i_L_law_627 : am_i m_L_law 627 = some (627, .ireturn, 1, [], 0) := (lk_5 (Nat.le_of_ble_eq_true rfl)).trans rfl
theorem i_L_law_628 : am_i m_L_law 628 = some (628, .iload 6, 2, [], 0) := (lk_5 (Nat.le_of_ble_eq_true rfl)).trans rfl
theorem i_L_law_630 : am_i m_L_law 630 = some (630, .ifCond .ne 15, 3, [], 0) := (lk_5 (Nat.le_of_ble_eq_true rfl)).trans rfl
theorem i_L_law_633 : am_i m_L_law 633 = some (633, .aload_n 3, 1, [], 0) := (lk_5 (Nat.le_of_ble_eq_true rfl)).trans rfl
theorem i_L_law_634 : am_i m_L_law 634 = some (634, .iconst 0, 1, [], 0) := (lk_5 (Nat.le_of_ble_eq_true rfl)).trans rfl
theorem i_L_law_635 : am_i m_L_law 635 = some (635, .laload, 1, [], 0) := (lk_5 (Nat.le_of_ble_eq_true rfl)).trans rfl
theorem i_L_law_636 : am_i m_L_law 636 = some (636, .iload 7, 2, [], 0) := (lk_5 (Nat.le_of_ble_eq_true rfl)).trans rfl
theorem i_L_law_638 : am_i m_L_law 638 = some (638, .i2l, 1, [], 0) := (lk_5 (Nat.le_of_ble_eq_true rfl)).trans rfl
theorem i_L_law_639 : am_i m_L_law 639 = some (639, .lcmp, 1, [], 0) := (lk_5 (Nat.le_of_ble_eq_true rfl)).trans rfl
theorem i_L_law_640 : am_i m_L_law 640 = some (640, .ifCond .eq 5, 3, [], 0) := (lk_5 (Nat.le_of_ble_eq_true rfl)).trans rfl
theorem i_L_law_643 : am_i m_L_law 643 = some (643, .iconst 0, 1, [], 0) := (lk_5 (Nat.le_of_ble_eq_true rfl)).trans rfl
theorem i_L_law_644 : am_i m_L_law 644 = some (644, .ireturn, 1, [], 0) := (lk_5 (Nat.le_of_ble_eq_true rfl)).trans rfl
theorem i_L_law_645 : am_i m_L_law 645 = some (645, .goto 1738, 3, [], 0) := (lk_5 (Nat.le_of_ble_eq_true rfl)).trans rfl
theorem b_L_law_615 {a0 a1 a2 a3 a4 n_a3 : Nat} {x5 x6 xs0 x6' xs0' : Int} {v7 v8 : Value} {h : am_H} (w6 : wr x6 = x6') (ws0 : wr xs0 = xs0') (k1 : K10 h a2) (n2 : gn h a3 = n_a3) (s3 : sh h a3 = (2, 3)) (g4 : ((fZ h a2 0) = x6') → (¬ (¬ x6' = 0)) → ((0 : Int) ≤ 0 ∧ 0 < (n_a3 : Int))) : rn m_L_law 615 [.ref a0, .ref a1, .ref a2, .ref a3, .ref a4, .int (mI x5), .int (mI x6), v7, v8] [.int (mI xs0)] h = if (fZ h a2 0) = x6' then if ¬ x6' = 0 then rn m_L_law 2383 [.ref a0, .ref a1, .ref a2, .ref a3, .ref a4, .int (mI x5), .int (mI x6), .int (mI xs0), v8] [] h else if (gJ h a3 0) = xs0' then rn m_L_law 2383 [.ref a0, .ref a1, .ref a2, .ref a3, .ref a4, .int (mI x5), .int (mI x6), .int (mI xs0), v8] [] h else some (.inl (some (.int (mI 0))), h) else some (.inl (some (.int (mI 0))), h) := by
  refine (tq_istore (L' := [.ref a0, .ref a1, .ref a2, .ref a3, .ref a4, .int (mI x5), .int (mI x6), .int (mI xs0), v8]) i_L_law_615 rfl rfl).trans ?_
  refine (tq_aload_n i_L_law_617 rfl (isA_ref _) rfl).trans ?_
  refine (c_X12_thrown i_L_law_618 (K10_s k1) (ltd d_L_law (by decide)) stOk_0 rfl).trans ?_
  refine (congrArg (cl _ _ _ _) (b_X12_thrown_0 k1)).trans ?_
  refine (cl_v _ _ _ _ _ _).trans ?_
  refine (tq_iload i_L_law_621 rfl rfl).trans ?_
  refine (tq_icmp_eq (pt := 628) i_L_law_623 (wr_fZ _ _ _) w6 (by decide) rfl).trans ?_
  refine ite_congr rfl (fun c1 => ?_) (fun c1 => ?_)
  · refine (tq_iload i_L_law_628 rfl rfl).trans ?_
    refine (tq_if_ne (pt := 645) i_L_law_630 w6 (by decide) rfl).trans ?_
    refine ite_congr rfl (fun c2 => ?_) (fun c2 => ?_)
    · refine (tq_goto (pc' := 2383) i_L_law_645 (by decide)).trans ?_
      rfl
    · refine (tq_aload_n i_L_law_633 rfl (isA_ref _) rfl).trans ?_
      refine (tq_iconst i_L_law_634 rfl).trans ?_
      refine (tq_laload i_L_law_635 s3 w_0 (g4 c1 c2).1 (lt_gn n2 (g4 c1 c2).2) rfl).trans ?_
      refine (tq_iload i_L_law_636 rfl rfl).trans ?_
      refine (tq_i2l i_L_law_638 ws0 rfl).trans ?_
      refine (tq_lcmp_eq (pt := 645) i_L_law_639 i_L_law_640 rfl (wl_gJ _ _ _) (wl_of_wr ws0) (by decide) rfl).trans ?_
      refine ite_congr rfl (fun c3 => ?_) (fun c3 => ?_)
      · refine (tq_goto (pc' := 2383) i_L_law_645 (by decide)).trans ?_
        rfl
      · refine (tq_iconst i_L_law_643 rfl).trans ?_
        exact tq_ireturn i_L_law_644 r_L_law (okB w_0 (by decide))
  · refine (tq_iconst i_L_law_626 rfl).trans ?_
    exact tq_ireturn i_L_law_627 r_L_law (okB w_0 (by decide))
theorem i_L_law_648 : am_i m_L_law 648 = some (648, .aload_n 1, 1, [], 0) := (lk_5 (Nat.le_of_ble_eq_true rfl)).trans rfl
theorem i_L_law_649 : am_i m_L_law 649 = some (649, .aload_n 0, 1, [], 0) := (lk_5 (Nat.le_of_ble_eq_true rfl)).trans rfl
theorem i_L_law_650 : am_i m_L_law 650 = some (650, .iload 5, 2, [], 0) := (lk_5 (Nat.le_of_ble_eq_true rfl)).trans rfl
theorem i_L_law_652 : am_i m_L_law 652 = some (652, .iconst 1, 1, [], 1) := (lk_5 (Nat.le_of_ble_eq_true rfl)).trans rfl
theorem i_L_law_653 : am_i m_L_law 653 = some (653, .iadd, 1, [], 0) := (lk_5 (Nat.le_of_ble_eq_true rfl)).trans rfl
theorem i_L_law_654 : am_i m_L_law 654 = some (654, .iaload, 1, [], 0) := (lk_5 (Nat.le_of_ble_eq_true rfl)).trans rfl
theorem i_L_law_655 : am_i m_L_law 655 = some (655, .aload_n 3, 1, [], 0) := (lk_5 (Nat.le_of_ble_eq_true rfl)).trans rfl
theorem i_L_law_656 : am_i m_L_law 656 = some (656, .invokestatic 160, 3, [215], 0) := (lk_5 (Nat.le_of_ble_eq_true rfl)).trans rfl
theorem b_L_law_648 {a0 a1 a2 a3 a4 n_a0 : Nat} {x5 : Int} {v6 v7 v8 : Value} {h : am_H} (n1 : gn h a0 = n_a0) (s2 : sh h a0 = (1, 7)) (g3 : 0 ≤ wr (x5 + 1) ∧ wr (x5 + 1) < (n_a0 : Int)) : rn m_L_law 648 [.ref a0, .ref a1, .ref a2, .ref a3, .ref a4, .int (mI x5), v6, v7, v8] [] h = cl m_L_law 659 [.ref a0, .ref a1, .ref a2, .ref a3, .ref a4, .int (mI x5), v6, v7, v8] [] (rn m_L_setTools 0 [.ref a1, .int (mI (gZ h a0 (wr (x5 + 1)))), .ref a3, am_J] [] h) := by
  refine (tq_aload_n i_L_law_648 rfl (isA_ref _) rfl).trans ?_
  refine (tq_aload_n i_L_law_649 rfl (isA_ref _) rfl).trans ?_
  refine (tq_iload i_L_law_650 rfl rfl).trans ?_
  refine (tq_iconst i_L_law_652 rfl).trans ?_
  refine (tq_iadd i_L_law_653 rfl).trans ?_
  refine (tq_iaload i_L_law_654 s2 (by decide) rfl g3.1 (lt_gn n1 g3.2) rfl).trans ?_
  refine (tq_aload_n i_L_law_655 rfl (isA_ref _) rfl).trans ?_
  exact c_L_setTools i_L_law_656 (ltd d_L_law (by decide)) (isA_ref _) (isA_ref _) stOk_0 rfl
theorem i_L_law_659 : am_i m_L_law 659 = some (659, .istore 6, 2, [], 0) := (lk_5 (Nat.le_of_ble_eq_true rfl)).trans rfl
theorem i_L_law_661 : am_i m_L_law 661 = some (661, .aload_n 2, 1, [], 0) := (lk_5 (Nat.le_of_ble_eq_true rfl)).trans rfl
theorem i_L_law_662 : am_i m_L_law 662 = some (662, .aload_n 0, 1, [], 0) := (lk_5 (Nat.le_of_ble_eq_true rfl)).trans rfl
theorem i_L_law_663 : am_i m_L_law 663 = some (663, .iload 5, 2, [], 0) := (lk_5 (Nat.le_of_ble_eq_true rfl)).trans rfl
theorem i_L_law_665 : am_i m_L_law 665 = some (665, .iconst 1, 1, [], 1) := (lk_5 (Nat.le_of_ble_eq_true rfl)).trans rfl
theorem i_L_law_666 : am_i m_L_law 666 = some (666, .iadd, 1, [], 0) := (lk_5 (Nat.le_of_ble_eq_true rfl)).trans rfl
theorem i_L_law_667 : am_i m_L_law 667 = some (667, .iaload, 1, [], 0) := (lk_5 (Nat.le_of_ble_eq_true rfl)).trans rfl
theorem i_L_law_668 : am_i m_L_law 668 = some (668, .invokevirtual 162, 3, [95, 10], 0) := (lk_5 (Nat.le_of_ble_eq_true rfl)).trans rfl
theorem b_L_law_659 {a0 a1 a2 a3 a4 n_a0 : Nat} {x5 xs0 : Int} {v6 v7 v8 : Value} {h : am_H} (n1 : gn h a0 = n_a0) (s2 : sh h a0 = (1, 7)) (g3 : 0 ≤ wr (x5 + 1) ∧ wr (x5 + 1) < (n_a0 : Int)) (k4 : K10 h a2) : rn m_L_law 659 [.ref a0, .ref a1, .ref a2, .ref a3, .ref a4, .int (mI x5), v6, v7, v8] [.int (mI xs0)] h = cl m_L_law 671 [.ref a0, .ref a1, .ref a2, .ref a3, .ref a4, .int (mI x5), .int (mI xs0), v7, v8] [] (rn m_X12_setTools 0 [.ref a2, .int (mI (gZ h a0 (wr (x5 + 1)))), am_J] [] h) := by
  refine (tq_istore (L' := [.ref a0, .ref a1, .ref a2, .ref a3, .ref a4, .int (mI x5), .int (mI xs0), v7, v8]) i_L_law_659 rfl rfl).trans ?_
  refine (tq_aload_n i_L_law_661 rfl (isA_ref _) rfl).trans ?_
  refine (tq_aload_n i_L_law_662 rfl (isA_ref _) rfl).trans ?_
  refine (tq_iload i_L_law_663 rfl rfl).trans ?_
  refine (tq_iconst i_L_law_665 rfl).trans ?_
  refine (tq_iadd i_L_law_666 rfl).trans ?_
  refine (tq_iaload i_L_law_667 s2 (by decide) rfl g3.1 (lt_gn n1 g3.2) rfl).trans ?_
  exact c_X12_setTools i_L_law_668 (K10_s k4) (ltd d_L_law (by decide)) stOk_0 rfl
theorem i_L_law_671 : am_i m_L_law 671 = some (671, .istore 7, 2, [], 0) := (lk_5 (Nat.le_of_ble_eq_true rfl)).trans rfl
theorem i_L_law_673 : am_i m_L_law 673 = some (673, .aload_n 2, 1, [], 0) := (lk_5 (Nat.le_of_ble_eq_true rfl)).trans rfl
theorem i_L_law_674 : am_i m_L_law 674 = some (674, .invokevirtual 139, 3, [39, 10], 0) := (lk_5 (Nat.le_of_ble_eq_true rfl)).trans rfl
theorem i_L_law_677 : am_i m_L_law 677 = some (677, .iload 6, 2, [], 0) := (lk_5 (Nat.le_of_ble_eq_true rfl)).trans rfl
theorem i_L_law_679 : am_i m_L_law 679 = some (679, .if_icmp .eq 5, 3, [], 0) := (lk_5 (Nat.le_of_ble_eq_true rfl)).trans rfl
theorem i_L_law_682 : am_i m_L_law 682 = some (682, .iconst 0, 1, [], 0) := (lk_5 (Nat.le_of_ble_eq_true rfl)).trans rfl
theorem i_L_law_683 : am_i m_L_law 683 = some (683, .ireturn, 1, [], 0) := (lk_5 (Nat.le_of_ble_eq_true rfl)).trans rfl
theorem i_L_law_684 : am_i m_L_law 684 = some (684, .iload 6, 2, [], 0) := (lk_5 (Nat.le_of_ble_eq_true rfl)).trans rfl
theorem i_L_law_686 : am_i m_L_law 686 = some (686, .ifCond .ne 15, 3, [], 0) := (lk_5 (Nat.le_of_ble_eq_true rfl)).trans rfl
theorem i_L_law_689 : am_i m_L_law 689 = some (689, .aload_n 3, 1, [], 0) := (lk_5 (Nat.le_of_ble_eq_true rfl)).trans rfl
theorem i_L_law_690 : am_i m_L_law 690 = some (690, .iconst 0, 1, [], 0) := (lk_5 (Nat.le_of_ble_eq_true rfl)).trans rfl
theorem i_L_law_691 : am_i m_L_law 691 = some (691, .laload, 1, [], 0) := (lk_5 (Nat.le_of_ble_eq_true rfl)).trans rfl
theorem i_L_law_692 : am_i m_L_law 692 = some (692, .iload 7, 2, [], 0) := (lk_5 (Nat.le_of_ble_eq_true rfl)).trans rfl
theorem i_L_law_694 : am_i m_L_law 694 = some (694, .i2l, 1, [], 0) := (lk_5 (Nat.le_of_ble_eq_true rfl)).trans rfl
theorem i_L_law_695 : am_i m_L_law 695 = some (695, .lcmp, 1, [], 0) := (lk_5 (Nat.le_of_ble_eq_true rfl)).trans rfl
theorem i_L_law_696 : am_i m_L_law 696 = some (696, .ifCond .eq 5, 3, [], 0) := (lk_5 (Nat.le_of_ble_eq_true rfl)).trans rfl
theorem i_L_law_699 : am_i m_L_law 699 = some (699, .iconst 0, 1, [], 0) := (lk_6 (Nat.le_of_ble_eq_true rfl)).trans rfl
theorem i_L_law_700 : am_i m_L_law 700 = some (700, .ireturn, 1, [], 0) := (lk_6 (Nat.le_of_ble_eq_true rfl)).trans rfl
theorem i_L_law_701 : am_i m_L_law 701 = some (701, .goto 1682, 3, [], 0) := (lk_6 (Nat.le_of_ble_eq_true rfl)).trans rfl
theorem b_L_law_671 {a0 a1 a2 a3 a4 n_a3 : Nat} {x5 x6 xs0 x6' xs0' : Int} {v7 v8 : Value} {h : am_H} (w6 : wr x6 = x6') (ws0 : wr xs0 = xs0') (k1 : K10 h a2) (n2 : gn h a3 = n_a3) (s3 : sh h a3 = (2, 3)) (g4 : ((fZ h a2 0) = x6') → (¬ (¬ x6' = 0)) → ((0 : Int) ≤ 0 ∧ 0 < (n_a3 : Int))) : rn m_L_law 671 [.ref a0, .ref a1, .ref a2, .ref a3, .ref a4, .int (mI x5), .int (mI x6), v7, v8] [.int (mI xs0)] h = if (fZ h a2 0) = x6' then if ¬ x6' = 0 then rn m_L_law 2383 [.ref a0, .ref a1, .ref a2, .ref a3, .ref a4, .int (mI x5), .int (mI x6), .int (mI xs0), v8] [] h else if (gJ h a3 0) = xs0' then rn m_L_law 2383 [.ref a0, .ref a1, .ref a2, .ref a3, .ref a4, .int (mI x5), .int (mI x6), .int (mI xs0), v8] [] h else some (.inl (some (.int (mI 0))), h) else some (.inl (some (.int (mI 0))), h) := by
  refine (tq_istore (L' := [.ref a0, .ref a1, .ref a2, .ref a3, .ref a4, .int (mI x5), .int (mI x6), .int (mI xs0), v8]) i_L_law_671 rfl rfl).trans ?_
  refine (tq_aload_n i_L_law_673 rfl (isA_ref _) rfl).trans ?_
  refine (c_X12_thrown i_L_law_674 (K10_s k1) (ltd d_L_law (by decide)) stOk_0 rfl).trans ?_
  refine (congrArg (cl _ _ _ _) (b_X12_thrown_0 k1)).trans ?_
  refine (cl_v _ _ _ _ _ _).trans ?_
  refine (tq_iload i_L_law_677 rfl rfl).trans ?_
  refine (tq_icmp_eq (pt := 684) i_L_law_679 (wr_fZ _ _ _) w6 (by decide) rfl).trans ?_
  refine ite_congr rfl (fun c1 => ?_) (fun c1 => ?_)
  · refine (tq_iload i_L_law_684 rfl rfl).trans ?_
    refine (tq_if_ne (pt := 701) i_L_law_686 w6 (by decide) rfl).trans ?_
    refine ite_congr rfl (fun c2 => ?_) (fun c2 => ?_)
    · refine (tq_goto (pc' := 2383) i_L_law_701 (by decide)).trans ?_
      rfl
    · refine (tq_aload_n i_L_law_689 rfl (isA_ref _) rfl).trans ?_
      refine (tq_iconst i_L_law_690 rfl).trans ?_
      refine (tq_laload i_L_law_691 s3 w_0 (g4 c1 c2).1 (lt_gn n2 (g4 c1 c2).2) rfl).trans ?_
      refine (tq_iload i_L_law_692 rfl rfl).trans ?_
      refine (tq_i2l i_L_law_694 ws0 rfl).trans ?_
      refine (tq_lcmp_eq (pt := 701) i_L_law_695 i_L_law_696 rfl (wl_gJ _ _ _) (wl_of_wr ws0) (by decide) rfl).trans ?_
      refine ite_congr rfl (fun c3 => ?_) (fun c3 => ?_)
      · refine (tq_goto (pc' := 2383) i_L_law_701 (by decide)).trans ?_
        rfl
      · refine (tq_iconst i_L_law_699 rfl).trans ?_
        exact tq_ireturn i_L_law_700 r_L_law (okB w_0 (by decide))
  · refine (tq_iconst i_L_law_682 rfl).trans ?_
    exact tq_ireturn i_L_law_683 r_L_law (okB w_0 (by decide))
theorem i_L_law_704 : am_i m_L_law 704 = some (704, .aload_n 1, 1, [], 0) := (lk_6 (Nat.le_of_ble_eq_true rfl)).trans rfl
theorem i_L_law_705 : am_i m_L_law 705 = some (705, .aload_n 0, 1, [], 0) := (lk_6 (Nat.le_of_ble_eq_true rfl)).trans rfl
theorem i_L_law_706 : am_i m_L_law 706 = some (706, .iload 5, 2, [], 0) := (lk_6 (Nat.le_of_ble_eq_true rfl)).trans rfl
theorem i_L_law_708 : am_i m_L_law 708 = some (708, .iconst 1, 1, [], 1) := (lk_6 (Nat.le_of_ble_eq_true rfl)).trans rfl
theorem i_L_law_709 : am_i m_L_law 709 = some (709, .iadd, 1, [], 0) := (lk_6 (Nat.le_of_ble_eq_true rfl)).trans rfl
theorem i_L_law_710 : am_i m_L_law 710 = some (710, .iaload, 1, [], 0) := (lk_6 (Nat.le_of_ble_eq_true rfl)).trans rfl
theorem i_L_law_711 : am_i m_L_law 711 = some (711, .aload_n 3, 1, [], 0) := (lk_6 (Nat.le_of_ble_eq_true rfl)).trans rfl
theorem i_L_law_712 : am_i m_L_law 712 = some (712, .invokestatic 163, 3, [214], 0) := (lk_6 (Nat.le_of_ble_eq_true rfl)).trans rfl
theorem b_L_law_704 {a0 a1 a2 a3 a4 n_a0 : Nat} {x5 : Int} {v6 v7 v8 : Value} {h : am_H} (n1 : gn h a0 = n_a0) (s2 : sh h a0 = (1, 7)) (g3 : 0 ≤ wr (x5 + 1) ∧ wr (x5 + 1) < (n_a0 : Int)) : rn m_L_law 704 [.ref a0, .ref a1, .ref a2, .ref a3, .ref a4, .int (mI x5), v6, v7, v8] [] h = cl m_L_law 715 [.ref a0, .ref a1, .ref a2, .ref a3, .ref a4, .int (mI x5), v6, v7, v8] [] (rn m_L_setSlices 0 [.ref a1, .int (mI (gZ h a0 (wr (x5 + 1)))), .ref a3, am_J] [] h) := by
  refine (tq_aload_n i_L_law_704 rfl (isA_ref _) rfl).trans ?_
  refine (tq_aload_n i_L_law_705 rfl (isA_ref _) rfl).trans ?_
  refine (tq_iload i_L_law_706 rfl rfl).trans ?_
  refine (tq_iconst i_L_law_708 rfl).trans ?_
  refine (tq_iadd i_L_law_709 rfl).trans ?_
  refine (tq_iaload i_L_law_710 s2 (by decide) rfl g3.1 (lt_gn n1 g3.2) rfl).trans ?_
  refine (tq_aload_n i_L_law_711 rfl (isA_ref _) rfl).trans ?_
  exact c_L_setSlices i_L_law_712 (ltd d_L_law (by decide)) (isA_ref _) (isA_ref _) stOk_0 rfl
theorem i_L_law_715 : am_i m_L_law 715 = some (715, .istore 6, 2, [], 0) := (lk_6 (Nat.le_of_ble_eq_true rfl)).trans rfl
theorem i_L_law_717 : am_i m_L_law 717 = some (717, .aload_n 2, 1, [], 0) := (lk_6 (Nat.le_of_ble_eq_true rfl)).trans rfl
theorem i_L_law_718 : am_i m_L_law 718 = some (718, .aload_n 0, 1, [], 0) := (lk_6 (Nat.le_of_ble_eq_true rfl)).trans rfl
theorem i_L_law_719 : am_i m_L_law 719 = some (719, .iload 5, 2, [], 0) := (lk_6 (Nat.le_of_ble_eq_true rfl)).trans rfl
theorem i_L_law_721 : am_i m_L_law 721 = some (721, .iconst 1, 1, [], 1) := (lk_6 (Nat.le_of_ble_eq_true rfl)).trans rfl
theorem i_L_law_722 : am_i m_L_law 722 = some (722, .iadd, 1, [], 0) := (lk_6 (Nat.le_of_ble_eq_true rfl)).trans rfl
theorem i_L_law_723 : am_i m_L_law 723 = some (723, .iaload, 1, [], 0) := (lk_6 (Nat.le_of_ble_eq_true rfl)).trans rfl
theorem i_L_law_724 : am_i m_L_law 724 = some (724, .invokevirtual 165, 3, [94, 10], 0) := (lk_6 (Nat.le_of_ble_eq_true rfl)).trans rfl
theorem b_L_law_715 {a0 a1 a2 a3 a4 n_a0 : Nat} {x5 xs0 : Int} {v6 v7 v8 : Value} {h : am_H} (n1 : gn h a0 = n_a0) (s2 : sh h a0 = (1, 7)) (g3 : 0 ≤ wr (x5 + 1) ∧ wr (x5 + 1) < (n_a0 : Int)) (k4 : K10 h a2) : rn m_L_law 715 [.ref a0, .ref a1, .ref a2, .ref a3, .ref a4, .int (mI x5), v6, v7, v8] [.int (mI xs0)] h = cl m_L_law 727 [.ref a0, .ref a1, .ref a2, .ref a3, .ref a4, .int (mI x5), .int (mI xs0), v7, v8] [] (rn m_X12_setSlices 0 [.ref a2, .int (mI (gZ h a0 (wr (x5 + 1)))), am_J] [] h) := by
  refine (tq_istore (L' := [.ref a0, .ref a1, .ref a2, .ref a3, .ref a4, .int (mI x5), .int (mI xs0), v7, v8]) i_L_law_715 rfl rfl).trans ?_
  refine (tq_aload_n i_L_law_717 rfl (isA_ref _) rfl).trans ?_
  refine (tq_aload_n i_L_law_718 rfl (isA_ref _) rfl).trans ?_
  refine (tq_iload i_L_law_719 rfl rfl).trans ?_
  refine (tq_iconst i_L_law_721 rfl).trans ?_
  refine (tq_iadd i_L_law_722 rfl).trans ?_
  refine (tq_iaload i_L_law_723 s2 (by decide) rfl g3.1 (lt_gn n1 g3.2) rfl).trans ?_
  exact c_X12_setSlices i_L_law_724 (K10_s k4) (ltd d_L_law (by decide)) stOk_0 rfl
theorem i_L_law_727 : am_i m_L_law 727 = some (727, .istore 7, 2, [], 0) := (lk_6 (Nat.le_of_ble_eq_true rfl)).trans rfl
theorem i_L_law_729 : am_i m_L_law 729 = some (729, .aload_n 2, 1, [], 0) := (lk_6 (Nat.le_of_ble_eq_true rfl)).trans rfl
theorem i_L_law_730 : am_i m_L_law 730 = some (730, .invokevirtual 139, 3, [39, 10], 0) := (lk_6 (Nat.le_of_ble_eq_true rfl)).trans rfl
theorem i_L_law_733 : am_i m_L_law 733 = some (733, .iload 6, 2, [], 0) := (lk_6 (Nat.le_of_ble_eq_true rfl)).trans rfl
theorem i_L_law_735 : am_i m_L_law 735 = some (735, .if_icmp .eq 5, 3, [], 0) := (lk_6 (Nat.le_of_ble_eq_true rfl)).trans rfl
theorem i_L_law_738 : am_i m_L_law 738 = some (738, .iconst 0, 1, [], 0) := (lk_6 (Nat.le_of_ble_eq_true rfl)).trans rfl
theorem i_L_law_739 : am_i m_L_law 739 = some (739, .ireturn, 1, [], 0) := (lk_6 (Nat.le_of_ble_eq_true rfl)).trans rfl
theorem i_L_law_740 : am_i m_L_law 740 = some (740, .iload 6, 2, [], 0) := (lk_6 (Nat.le_of_ble_eq_true rfl)).trans rfl
theorem i_L_law_742 : am_i m_L_law 742 = some (742, .ifCond .ne 15, 3, [], 0) := (lk_6 (Nat.le_of_ble_eq_true rfl)).trans rfl
theorem i_L_law_745 : am_i m_L_law 745 = some (745, .aload_n 3, 1, [], 0) := (lk_6 (Nat.le_of_ble_eq_true rfl)).trans rfl
theorem i_L_law_746 : am_i m_L_law 746 = some (746, .iconst 0, 1, [], 0) := (lk_6 (Nat.le_of_ble_eq_true rfl)).trans rfl
theorem i_L_law_747 : am_i m_L_law 747 = some (747, .laload, 1, [], 0) := (lk_6 (Nat.le_of_ble_eq_true rfl)).trans rfl
theorem i_L_law_748 : am_i m_L_law 748 = some (748, .iload 7, 2, [], 0) := (lk_6 (Nat.le_of_ble_eq_true rfl)).trans rfl
theorem i_L_law_750 : am_i m_L_law 750 = some (750, .i2l, 1, [], 0) := (lk_6 (Nat.le_of_ble_eq_true rfl)).trans rfl
theorem i_L_law_751 : am_i m_L_law 751 = some (751, .lcmp, 1, [], 0) := (lk_6 (Nat.le_of_ble_eq_true rfl)).trans rfl
theorem i_L_law_752 : am_i m_L_law 752 = some (752, .ifCond .eq 5, 3, [], 0) := (lk_6 (Nat.le_of_ble_eq_true rfl)).trans rfl
theorem i_L_law_755 : am_i m_L_law 755 = some (755, .iconst 0, 1, [], 0) := (lk_6 (Nat.le_of_ble_eq_true rfl)).trans rfl
theorem i_L_law_756 : am_i m_L_law 756 = some (756, .ireturn, 1, [], 0) := (lk_6 (Nat.le_of_ble_eq_true rfl)).trans rfl
theorem i_L_law_757 : am_i m_L_law 757 = some (757, .goto 1626, 3, [], 0) := (lk_6 (Nat.le_of_ble_eq_true rfl)).trans rfl
theorem b_L_law_727 {a0 a1 a2 a3 a4 n_a3 : Nat} {x5 x6 xs0 x6' xs0' : Int} {v7 v8 : Value} {h : am_H} (w6 : wr x6 = x6') (ws0 : wr xs0 = xs0') (k1 : K10 h a2) (n2 : gn h a3 = n_a3) (s3 : sh h a3 = (2, 3)) (g4 : ((fZ h a2 0) = x6') → (¬ (¬ x6' = 0)) → ((0 : Int) ≤ 0 ∧ 0 < (n_a3 : Int))) : rn m_L_law 727 [.ref a0, .ref a1, .ref a2, .ref a3, .ref a4, .int (mI x5), .int (mI x6), v7, v8] [.int (mI xs0)] h = if (fZ h a2 0) = x6' then if ¬ x6' = 0 then rn m_L_law 2383 [.ref a0, .ref a1, .ref a2, .ref a3, .ref a4, .int (mI x5), .int (mI x6), .int (mI xs0), v8] [] h else if (gJ h a3 0) = xs0' then rn m_L_law 2383 [.ref a0, .ref a1, .ref a2, .ref a3, .ref a4, .int (mI x5), .int (mI x6), .int (mI xs0), v8] [] h else some (.inl (some (.int (mI 0))), h) else some (.inl (some (.int (mI 0))), h) := by
  refine (tq_istore (L' := [.ref a0, .ref a1, .ref a2, .ref a3, .ref a4, .int (mI x5), .int (mI x6), .int (mI xs0), v8]) i_L_law_727 rfl rfl).trans ?_
  refine (tq_aload_n i_L_law_729 rfl (isA_ref _) rfl).trans ?_
  refine (c_X12_thrown i_L_law_730 (K10_s k1) (ltd d_L_law (by decide)) stOk_0 rfl).trans ?_
  refine (congrArg (cl _ _ _ _) (b_X12_thrown_0 k1)).trans ?_
  refine (cl_v _ _ _ _ _ _).trans ?_
  refine (tq_iload i_L_law_733 rfl rfl).trans ?_
  refine (tq_icmp_eq (pt := 740) i_L_law_735 (wr_fZ _ _ _) w6 (by decide) rfl).trans ?_
  refine ite_congr rfl (fun c1 => ?_) (fun c1 => ?_)
  · refine (tq_iload i_L_law_740 rfl rfl).trans ?_
    refine (tq_if_ne (pt := 757) i_L_law_742 w6 (by decide) rfl).trans ?_
    refine ite_congr rfl (fun c2 => ?_) (fun c2 => ?_)
    · refine (tq_goto (pc' := 2383) i_L_law_757 (by decide)).trans ?_
      rfl
    · refine (tq_aload_n i_L_law_745 rfl (isA_ref _) rfl).trans ?_
      refine (tq_iconst i_L_law_746 rfl).trans ?_
      refine (tq_laload i_L_law_747 s3 w_0 (g4 c1 c2).1 (lt_gn n2 (g4 c1 c2).2) rfl).trans ?_
      refine (tq_iload i_L_law_748 rfl rfl).trans ?_
      refine (tq_i2l i_L_law_750 ws0 rfl).trans ?_
      refine (tq_lcmp_eq (pt := 757) i_L_law_751 i_L_law_752 rfl (wl_gJ _ _ _) (wl_of_wr ws0) (by decide) rfl).trans ?_
      refine ite_congr rfl (fun c3 => ?_) (fun c3 => ?_)
      · refine (tq_goto (pc' := 2383) i_L_law_757 (by decide)).trans ?_
        rfl
      · refine (tq_iconst i_L_law_755 rfl).trans ?_
        exact tq_ireturn i_L_law_756 r_L_law (okB w_0 (by decide))
  · refine (tq_iconst i_L_law_738 rfl).trans ?_
    exact tq_ireturn i_L_law_739 r_L_law (okB w_0 (by decide))
theorem i_L_law_760 : am_i m_L_law 760 = some (760, .aload_n 1, 1, [], 0) := (lk_6 (Nat.le_of_ble_eq_true rfl)).trans rfl
theorem i_L_law_761 : am_i m_L_law 761 = some (761, .aload_n 0, 1, [], 0) := (lk_6 (Nat.le_of_ble_eq_true rfl)).trans rfl
theorem i_L_law_762 : am_i m_L_law 762 = some (762, .iload 5, 2, [], 0) := (lk_6 (Nat.le_of_ble_eq_true rfl)).trans rfl
theorem i_L_law_764 : am_i m_L_law 764 = some (764, .iconst 1, 1, [], 1) := (lk_6 (Nat.le_of_ble_eq_true rfl)).trans rfl
theorem i_L_law_765 : am_i m_L_law 765 = some (765, .iadd, 1, [], 0) := (lk_6 (Nat.le_of_ble_eq_true rfl)).trans rfl
theorem i_L_law_766 : am_i m_L_law 766 = some (766, .iaload, 1, [], 0) := (lk_6 (Nat.le_of_ble_eq_true rfl)).trans rfl
theorem i_L_law_767 : am_i m_L_law 767 = some (767, .ifCond .eq 7, 3, [], 0) := (lk_6 (Nat.le_of_ble_eq_true rfl)).trans rfl
theorem i_L_law_770 : am_i m_L_law 770 = some (770, .iconst 1, 1, [], 1) := (lk_6 (Nat.le_of_ble_eq_true rfl)).trans rfl
theorem i_L_law_771 : am_i m_L_law 771 = some (771, .goto 4, 3, [], 0) := (lk_6 (Nat.le_of_ble_eq_true rfl)).trans rfl
theorem i_L_law_774 : am_i m_L_law 774 = some (774, .iconst 0, 1, [], 0) := (lk_6 (Nat.le_of_ble_eq_true rfl)).trans rfl
theorem i_L_law_775 : am_i m_L_law 775 = some (775, .invokevirtual 166, 3, [14, 9], 0) := (lk_6 (Nat.le_of_ble_eq_true rfl)).trans rfl
theorem b_L_law_760 {a0 a1 a2 a3 a4 n_a0 : Nat} {x5 : Int} {v6 v7 v8 : Value} {h : am_H} (n1 : gn h a0 = n_a0) (s2 : sh h a0 = (1, 7)) (g3 : 0 ≤ wr (x5 + 1) ∧ wr (x5 + 1) < (n_a0 : Int)) (k4 : K9 h a1) : rn m_L_law 760 [.ref a0, .ref a1, .ref a2, .ref a3, .ref a4, .int (mI x5), v6, v7, v8] [] h = cl m_L_law 778 [.ref a0, .ref a1, .ref a2, .ref a3, .ref a4, .int (mI x5), v6, v7, v8] [] (rn m_X11_setKept 0 [.ref a1, .int (mI (bZ (¬ ((gZ h a0 (wr (x5 + 1))) = 0)))), am_J] [] h) := by
  refine (tq_aload_n i_L_law_760 rfl (isA_ref _) rfl).trans ?_
  refine (tq_aload_n i_L_law_761 rfl (isA_ref _) rfl).trans ?_
  refine (tq_iload i_L_law_762 rfl rfl).trans ?_
  refine (tq_iconst i_L_law_764 rfl).trans ?_
  refine (tq_iadd i_L_law_765 rfl).trans ?_
  refine (tq_iaload i_L_law_766 s2 (by decide) rfl g3.1 (lt_gn n1 g3.2) rfl).trans ?_
  refine (tq_if_eq (pt := 774) i_L_law_767 (wr_gZ _ _ _) (by decide) rfl).trans ?_
  refine Eq.trans (b := if (gZ h a0 (wr (x5 + 1))) = 0 then rn m_L_law 775 [.ref a0, .ref a1, .ref a2, .ref a3, .ref a4, .int (mI x5), v6, v7, v8] [.int (mI 0), .ref a1] h else rn m_L_law 775 [.ref a0, .ref a1, .ref a2, .ref a3, .ref a4, .int (mI x5), v6, v7, v8] [.int (mI 1), .ref a1] h) (ite_congr rfl (fun c1 => ?_) (fun c1 => ?_)) ?_
  · refine (tq_iconst i_L_law_774 rfl).trans ?_
    rfl
  · refine (tq_iconst i_L_law_770 rfl).trans ?_
    refine (tq_goto (pc' := 775) i_L_law_771 (by decide)).trans ?_
    rfl
  refine Eq.trans ite_b01 ?_
  exact c_X11_setKept i_L_law_775 (K9_s k4) (ltd d_L_law (by decide)) stOk_0 rfl
theorem i_L_law_778 : am_i m_L_law 778 = some (778, .aload_n 2, 1, [], 0) := (lk_6 (Nat.le_of_ble_eq_true rfl)).trans rfl
theorem i_L_law_779 : am_i m_L_law 779 = some (779, .aload_n 0, 1, [], 0) := (lk_6 (Nat.le_of_ble_eq_true rfl)).trans rfl
theorem i_L_law_780 : am_i m_L_law 780 = some (780, .iload 5, 2, [], 0) := (lk_6 (Nat.le_of_ble_eq_true rfl)).trans rfl
theorem i_L_law_782 : am_i m_L_law 782 = some (782, .iconst 1, 1, [], 1) := (lk_6 (Nat.le_of_ble_eq_true rfl)).trans rfl
theorem i_L_law_783 : am_i m_L_law 783 = some (783, .iadd, 1, [], 0) := (lk_6 (Nat.le_of_ble_eq_true rfl)).trans rfl
theorem i_L_law_784 : am_i m_L_law 784 = some (784, .iaload, 1, [], 0) := (lk_6 (Nat.le_of_ble_eq_true rfl)).trans rfl
theorem i_L_law_785 : am_i m_L_law 785 = some (785, .ifCond .eq 7, 3, [], 0) := (lk_6 (Nat.le_of_ble_eq_true rfl)).trans rfl
theorem i_L_law_788 : am_i m_L_law 788 = some (788, .iconst 1, 1, [], 1) := (lk_6 (Nat.le_of_ble_eq_true rfl)).trans rfl
theorem i_L_law_789 : am_i m_L_law 789 = some (789, .goto 4, 3, [], 0) := (lk_6 (Nat.le_of_ble_eq_true rfl)).trans rfl
theorem i_L_law_792 : am_i m_L_law 792 = some (792, .iconst 0, 1, [], 0) := (lk_6 (Nat.le_of_ble_eq_true rfl)).trans rfl
theorem i_L_law_793 : am_i m_L_law 793 = some (793, .invokevirtual 170, 3, [35, 10], 0) := (lk_6 (Nat.le_of_ble_eq_true rfl)).trans rfl
theorem b_L_law_778 {a0 a1 a2 a3 a4 n_a0 : Nat} {x5 xs0 : Int} {v6 v7 v8 : Value} {h : am_H} (n1 : gn h a0 = n_a0) (s2 : sh h a0 = (1, 7)) (g3 : 0 ≤ wr (x5 + 1) ∧ wr (x5 + 1) < (n_a0 : Int)) (k4 : K10 h a2) : rn m_L_law 778 [.ref a0, .ref a1, .ref a2, .ref a3, .ref a4, .int (mI x5), v6, v7, v8] [.int (mI xs0)] h = cl m_L_law 796 [.ref a0, .ref a1, .ref a2, .ref a3, .ref a4, .int (mI x5), v6, v7, v8] [.int (mI xs0)] (rn m_X12_setKept 0 [.ref a2, .int (mI (bZ (¬ ((gZ h a0 (wr (x5 + 1))) = 0)))), am_J] [] h) := by
  refine (tq_aload_n i_L_law_778 rfl (isA_ref _) rfl).trans ?_
  refine (tq_aload_n i_L_law_779 rfl (isA_ref _) rfl).trans ?_
  refine (tq_iload i_L_law_780 rfl rfl).trans ?_
  refine (tq_iconst i_L_law_782 rfl).trans ?_
  refine (tq_iadd i_L_law_783 rfl).trans ?_
  refine (tq_iaload i_L_law_784 s2 (by decide) rfl g3.1 (lt_gn n1 g3.2) rfl).trans ?_
  refine (tq_if_eq (pt := 792) i_L_law_785 (wr_gZ _ _ _) (by decide) rfl).trans ?_
  refine Eq.trans (b := if (gZ h a0 (wr (x5 + 1))) = 0 then rn m_L_law 793 [.ref a0, .ref a1, .ref a2, .ref a3, .ref a4, .int (mI x5), v6, v7, v8] [.int (mI 0), .ref a2, .int (mI xs0)] h else rn m_L_law 793 [.ref a0, .ref a1, .ref a2, .ref a3, .ref a4, .int (mI x5), v6, v7, v8] [.int (mI 1), .ref a2, .int (mI xs0)] h) (ite_congr rfl (fun c1 => ?_) (fun c1 => ?_)) ?_
  · refine (tq_iconst i_L_law_792 rfl).trans ?_
    rfl
  · refine (tq_iconst i_L_law_788 rfl).trans ?_
    refine (tq_goto (pc' := 793) i_L_law_789 (by decide)).trans ?_
    rfl
  refine Eq.trans ite_b01 ?_
  exact c_X12_setKept i_L_law_793 (K10_s k4) (ltd d_L_law (by decide)) (stOk_1 _) rfl
theorem i_L_law_796 : am_i m_L_law 796 = some (796, .if_icmp .eq 1587, 3, [], 0) := (lk_7 (Nat.le_of_ble_eq_true rfl)).trans rfl
theorem i_L_law_799 : am_i m_L_law 799 = some (799, .iconst 0, 1, [], 0) := (lk_7 (Nat.le_of_ble_eq_true rfl)).trans rfl
theorem i_L_law_800 : am_i m_L_law 800 = some (800, .ireturn, 1, [], 0) := (lk_7 (Nat.le_of_ble_eq_true rfl)).trans rfl
theorem b_L_law_796 {a0 a1 a2 a3 a4 : Nat} {x5 xs0 xs1 xs0' xs1' : Int} {v6 v7 v8 : Value} {h : am_H} (ws0 : wr xs0 = xs0') (ws1 : wr xs1 = xs1') : rn m_L_law 796 [.ref a0, .ref a1, .ref a2, .ref a3, .ref a4, .int (mI x5), v6, v7, v8] [.int (mI xs0), .int (mI xs1)] h = if xs1' = xs0' then rn m_L_law 2383 [.ref a0, .ref a1, .ref a2, .ref a3, .ref a4, .int (mI x5), v6, v7, v8] [] h else some (.inl (some (.int (mI 0))), h) := by
  refine (tq_icmp_eq (pt := 2383) i_L_law_796 ws1 ws0 (by decide) rfl).trans ?_
  refine ite_congr rfl (fun c1 => ?_) (fun c1 => ?_)
  · rfl
  · refine (tq_iconst i_L_law_799 rfl).trans ?_
    exact tq_ireturn i_L_law_800 r_L_law (okB w_0 (by decide))
theorem i_L_law_801 : am_i m_L_law 801 = some (801, .aload_n 1, 1, [], 0) := (lk_7 (Nat.le_of_ble_eq_true rfl)).trans rfl
theorem i_L_law_802 : am_i m_L_law 802 = some (802, .aload_n 0, 1, [], 0) := (lk_7 (Nat.le_of_ble_eq_true rfl)).trans rfl
theorem i_L_law_803 : am_i m_L_law 803 = some (803, .iload 5, 2, [], 0) := (lk_7 (Nat.le_of_ble_eq_true rfl)).trans rfl
theorem i_L_law_805 : am_i m_L_law 805 = some (805, .iconst 1, 1, [], 1) := (lk_7 (Nat.le_of_ble_eq_true rfl)).trans rfl
theorem i_L_law_806 : am_i m_L_law 806 = some (806, .iadd, 1, [], 0) := (lk_7 (Nat.le_of_ble_eq_true rfl)).trans rfl
theorem i_L_law_807 : am_i m_L_law 807 = some (807, .iaload, 1, [], 0) := (lk_7 (Nat.le_of_ble_eq_true rfl)).trans rfl
theorem i_L_law_808 : am_i m_L_law 808 = some (808, .aload_n 0, 1, [], 0) := (lk_7 (Nat.le_of_ble_eq_true rfl)).trans rfl
theorem i_L_law_809 : am_i m_L_law 809 = some (809, .iload 5, 2, [], 0) := (lk_7 (Nat.le_of_ble_eq_true rfl)).trans rfl
theorem i_L_law_811 : am_i m_L_law 811 = some (811, .iconst 2, 1, [], 2) := (lk_7 (Nat.le_of_ble_eq_true rfl)).trans rfl
theorem i_L_law_812 : am_i m_L_law 812 = some (812, .iadd, 1, [], 0) := (lk_7 (Nat.le_of_ble_eq_true rfl)).trans rfl
theorem i_L_law_813 : am_i m_L_law 813 = some (813, .iaload, 1, [], 0) := (lk_7 (Nat.le_of_ble_eq_true rfl)).trans rfl
theorem i_L_law_814 : am_i m_L_law 814 = some (814, .aload_n 3, 1, [], 0) := (lk_7 (Nat.le_of_ble_eq_true rfl)).trans rfl
theorem i_L_law_815 : am_i m_L_law 815 = some (815, .invokestatic 171, 3, [212], 0) := (lk_7 (Nat.le_of_ble_eq_true rfl)).trans rfl
theorem b_L_law_801 {a0 a1 a2 a3 a4 n_a0 : Nat} {x5 : Int} {v6 v7 v8 : Value} {h : am_H} (n1 : gn h a0 = n_a0) (s2 : sh h a0 = (1, 7)) (g3 : 0 ≤ wr (x5 + 1) ∧ wr (x5 + 1) < (n_a0 : Int)) (g4 : 0 ≤ wr (x5 + 2) ∧ wr (x5 + 2) < (n_a0 : Int)) : rn m_L_law 801 [.ref a0, .ref a1, .ref a2, .ref a3, .ref a4, .int (mI x5), v6, v7, v8] [] h = cl m_L_law 818 [.ref a0, .ref a1, .ref a2, .ref a3, .ref a4, .int (mI x5), v6, v7, v8] [] (rn m_L_setBucket 0 [.ref a1, .int (mI (gZ h a0 (wr (x5 + 1)))), .int (mI (gZ h a0 (wr (x5 + 2)))), .ref a3, am_J] [] h) := by
  refine (tq_aload_n i_L_law_801 rfl (isA_ref _) rfl).trans ?_
  refine (tq_aload_n i_L_law_802 rfl (isA_ref _) rfl).trans ?_
  refine (tq_iload i_L_law_803 rfl rfl).trans ?_
  refine (tq_iconst i_L_law_805 rfl).trans ?_
  refine (tq_iadd i_L_law_806 rfl).trans ?_
  refine (tq_iaload i_L_law_807 s2 (by decide) rfl g3.1 (lt_gn n1 g3.2) rfl).trans ?_
  refine (tq_aload_n i_L_law_808 rfl (isA_ref _) rfl).trans ?_
  refine (tq_iload i_L_law_809 rfl rfl).trans ?_
  refine (tq_iconst i_L_law_811 rfl).trans ?_
  refine (tq_iadd i_L_law_812 rfl).trans ?_
  refine (tq_iaload i_L_law_813 s2 (by decide) rfl g4.1 (lt_gn n1 g4.2) rfl).trans ?_
  refine (tq_aload_n i_L_law_814 rfl (isA_ref _) rfl).trans ?_
  exact c_L_setBucket i_L_law_815 (ltd d_L_law (by decide)) (isA_ref _) (isA_ref _) stOk_0 rfl
theorem i_L_law_818 : am_i m_L_law 818 = some (818, .istore 6, 2, [], 0) := (lk_7 (Nat.le_of_ble_eq_true rfl)).trans rfl
theorem i_L_law_820 : am_i m_L_law 820 = some (820, .aload_n 2, 1, [], 0) := (lk_7 (Nat.le_of_ble_eq_true rfl)).trans rfl
theorem i_L_law_821 : am_i m_L_law 821 = some (821, .aload_n 0, 1, [], 0) := (lk_7 (Nat.le_of_ble_eq_true rfl)).trans rfl
theorem i_L_law_822 : am_i m_L_law 822 = some (822, .iload 5, 2, [], 0) := (lk_7 (Nat.le_of_ble_eq_true rfl)).trans rfl
theorem i_L_law_824 : am_i m_L_law 824 = some (824, .iconst 1, 1, [], 1) := (lk_7 (Nat.le_of_ble_eq_true rfl)).trans rfl
theorem i_L_law_825 : am_i m_L_law 825 = some (825, .iadd, 1, [], 0) := (lk_7 (Nat.le_of_ble_eq_true rfl)).trans rfl
theorem i_L_law_826 : am_i m_L_law 826 = some (826, .iaload, 1, [], 0) := (lk_7 (Nat.le_of_ble_eq_true rfl)).trans rfl
theorem i_L_law_827 : am_i m_L_law 827 = some (827, .aload_n 0, 1, [], 0) := (lk_7 (Nat.le_of_ble_eq_true rfl)).trans rfl
theorem i_L_law_828 : am_i m_L_law 828 = some (828, .iload 5, 2, [], 0) := (lk_7 (Nat.le_of_ble_eq_true rfl)).trans rfl
theorem i_L_law_830 : am_i m_L_law 830 = some (830, .iconst 2, 1, [], 2) := (lk_7 (Nat.le_of_ble_eq_true rfl)).trans rfl
theorem i_L_law_831 : am_i m_L_law 831 = some (831, .iadd, 1, [], 0) := (lk_7 (Nat.le_of_ble_eq_true rfl)).trans rfl
theorem i_L_law_832 : am_i m_L_law 832 = some (832, .iaload, 1, [], 0) := (lk_7 (Nat.le_of_ble_eq_true rfl)).trans rfl
theorem i_L_law_833 : am_i m_L_law 833 = some (833, .invokevirtual 173, 3, [92, 10], 0) := (lk_7 (Nat.le_of_ble_eq_true rfl)).trans rfl
theorem b_L_law_818 {a0 a1 a2 a3 a4 n_a0 : Nat} {x5 xs0 : Int} {v6 v7 v8 : Value} {h : am_H} (n1 : gn h a0 = n_a0) (s2 : sh h a0 = (1, 7)) (g3 : 0 ≤ wr (x5 + 1) ∧ wr (x5 + 1) < (n_a0 : Int)) (g4 : 0 ≤ wr (x5 + 2) ∧ wr (x5 + 2) < (n_a0 : Int)) (k5 : K10 h a2) : rn m_L_law 818 [.ref a0, .ref a1, .ref a2, .ref a3, .ref a4, .int (mI x5), v6, v7, v8] [.int (mI xs0)] h = cl m_L_law 836 [.ref a0, .ref a1, .ref a2, .ref a3, .ref a4, .int (mI x5), .int (mI xs0), v7, v8] [] (rn m_X12_setBucket 0 [.ref a2, .int (mI (gZ h a0 (wr (x5 + 1)))), .int (mI (gZ h a0 (wr (x5 + 2)))), am_J] [] h) := by
  refine (tq_istore (L' := [.ref a0, .ref a1, .ref a2, .ref a3, .ref a4, .int (mI x5), .int (mI xs0), v7, v8]) i_L_law_818 rfl rfl).trans ?_
  refine (tq_aload_n i_L_law_820 rfl (isA_ref _) rfl).trans ?_
  refine (tq_aload_n i_L_law_821 rfl (isA_ref _) rfl).trans ?_
  refine (tq_iload i_L_law_822 rfl rfl).trans ?_
  refine (tq_iconst i_L_law_824 rfl).trans ?_
  refine (tq_iadd i_L_law_825 rfl).trans ?_
  refine (tq_iaload i_L_law_826 s2 (by decide) rfl g3.1 (lt_gn n1 g3.2) rfl).trans ?_
  refine (tq_aload_n i_L_law_827 rfl (isA_ref _) rfl).trans ?_
  refine (tq_iload i_L_law_828 rfl rfl).trans ?_
  refine (tq_iconst i_L_law_830 rfl).trans ?_
  refine (tq_iadd i_L_law_831 rfl).trans ?_
  refine (tq_iaload i_L_law_832 s2 (by decide) rfl g4.1 (lt_gn n1 g4.2) rfl).trans ?_
  exact c_X12_setBucket i_L_law_833 (K10_s k5) (ltd d_L_law (by decide)) stOk_0 rfl
theorem i_L_law_836 : am_i m_L_law 836 = some (836, .istore 7, 2, [], 0) := (lk_7 (Nat.le_of_ble_eq_true rfl)).trans rfl
theorem i_L_law_838 : am_i m_L_law 838 = some (838, .aload_n 2, 1, [], 0) := (lk_7 (Nat.le_of_ble_eq_true rfl)).trans rfl
theorem i_L_law_839 : am_i m_L_law 839 = some (839, .invokevirtual 139, 3, [39, 10], 0) := (lk_7 (Nat.le_of_ble_eq_true rfl)).trans rfl
theorem i_L_law_842 : am_i m_L_law 842 = some (842, .iload 6, 2, [], 0) := (lk_7 (Nat.le_of_ble_eq_true rfl)).trans rfl
theorem i_L_law_844 : am_i m_L_law 844 = some (844, .if_icmp .eq 5, 3, [], 0) := (lk_7 (Nat.le_of_ble_eq_true rfl)).trans rfl
theorem i_L_law_847 : am_i m_L_law 847 = some (847, .iconst 0, 1, [], 0) := (lk_7 (Nat.le_of_ble_eq_true rfl)).trans rfl
theorem i_L_law_848 : am_i m_L_law 848 = some (848, .ireturn, 1, [], 0) := (lk_7 (Nat.le_of_ble_eq_true rfl)).trans rfl
theorem i_L_law_849 : am_i m_L_law 849 = some (849, .iload 6, 2, [], 0) := (lk_7 (Nat.le_of_ble_eq_true rfl)).trans rfl
theorem i_L_law_851 : am_i m_L_law 851 = some (851, .ifCond .ne 15, 3, [], 0) := (lk_7 (Nat.le_of_ble_eq_true rfl)).trans rfl
theorem i_L_law_854 : am_i m_L_law 854 = some (854, .aload_n 3, 1, [], 0) := (lk_7 (Nat.le_of_ble_eq_true rfl)).trans rfl
theorem i_L_law_855 : am_i m_L_law 855 = some (855, .iconst 0, 1, [], 0) := (lk_7 (Nat.le_of_ble_eq_true rfl)).trans rfl
theorem i_L_law_856 : am_i m_L_law 856 = some (856, .laload, 1, [], 0) := (lk_7 (Nat.le_of_ble_eq_true rfl)).trans rfl
theorem i_L_law_857 : am_i m_L_law 857 = some (857, .iload 7, 2, [], 0) := (lk_7 (Nat.le_of_ble_eq_true rfl)).trans rfl
theorem i_L_law_859 : am_i m_L_law 859 = some (859, .i2l, 1, [], 0) := (lk_7 (Nat.le_of_ble_eq_true rfl)).trans rfl
theorem i_L_law_860 : am_i m_L_law 860 = some (860, .lcmp, 1, [], 0) := (lk_7 (Nat.le_of_ble_eq_true rfl)).trans rfl
theorem i_L_law_861 : am_i m_L_law 861 = some (861, .ifCond .eq 5, 3, [], 0) := (lk_7 (Nat.le_of_ble_eq_true rfl)).trans rfl
theorem i_L_law_864 : am_i m_L_law 864 = some (864, .iconst 0, 1, [], 0) := (lk_7 (Nat.le_of_ble_eq_true rfl)).trans rfl
theorem i_L_law_865 : am_i m_L_law 865 = some (865, .ireturn, 1, [], 0) := (lk_7 (Nat.le_of_ble_eq_true rfl)).trans rfl
theorem i_L_law_866 : am_i m_L_law 866 = some (866, .goto 1517, 3, [], 0) := (lk_7 (Nat.le_of_ble_eq_true rfl)).trans rfl
theorem b_L_law_836 {a0 a1 a2 a3 a4 n_a3 : Nat} {x5 x6 xs0 x6' xs0' : Int} {v7 v8 : Value} {h : am_H} (w6 : wr x6 = x6') (ws0 : wr xs0 = xs0') (k1 : K10 h a2) (n2 : gn h a3 = n_a3) (s3 : sh h a3 = (2, 3)) (g4 : ((fZ h a2 0) = x6') → (¬ (¬ x6' = 0)) → ((0 : Int) ≤ 0 ∧ 0 < (n_a3 : Int))) : rn m_L_law 836 [.ref a0, .ref a1, .ref a2, .ref a3, .ref a4, .int (mI x5), .int (mI x6), v7, v8] [.int (mI xs0)] h = if (fZ h a2 0) = x6' then if ¬ x6' = 0 then rn m_L_law 2383 [.ref a0, .ref a1, .ref a2, .ref a3, .ref a4, .int (mI x5), .int (mI x6), .int (mI xs0), v8] [] h else if (gJ h a3 0) = xs0' then rn m_L_law 2383 [.ref a0, .ref a1, .ref a2, .ref a3, .ref a4, .int (mI x5), .int (mI x6), .int (mI xs0), v8] [] h else some (.inl (some (.int (mI 0))), h) else some (.inl (some (.int (mI 0))), h) := by
  refine (tq_istore (L' := [.ref a0, .ref a1, .ref a2, .ref a3, .ref a4, .int (mI x5), .int (mI x6), .int (mI xs0), v8]) i_L_law_836 rfl rfl).trans ?_
  refine (tq_aload_n i_L_law_838 rfl (isA_ref _) rfl).trans ?_
  refine (c_X12_thrown i_L_law_839 (K10_s k1) (ltd d_L_law (by decide)) stOk_0 rfl).trans ?_
  refine (congrArg (cl _ _ _ _) (b_X12_thrown_0 k1)).trans ?_
  refine (cl_v _ _ _ _ _ _).trans ?_
  refine (tq_iload i_L_law_842 rfl rfl).trans ?_
  refine (tq_icmp_eq (pt := 849) i_L_law_844 (wr_fZ _ _ _) w6 (by decide) rfl).trans ?_
  refine ite_congr rfl (fun c1 => ?_) (fun c1 => ?_)
  · refine (tq_iload i_L_law_849 rfl rfl).trans ?_
    refine (tq_if_ne (pt := 866) i_L_law_851 w6 (by decide) rfl).trans ?_
    refine ite_congr rfl (fun c2 => ?_) (fun c2 => ?_)
    · refine (tq_goto (pc' := 2383) i_L_law_866 (by decide)).trans ?_
      rfl
    · refine (tq_aload_n i_L_law_854 rfl (isA_ref _) rfl).trans ?_
      refine (tq_iconst i_L_law_855 rfl).trans ?_
      refine (tq_laload i_L_law_856 s3 w_0 (g4 c1 c2).1 (lt_gn n2 (g4 c1 c2).2) rfl).trans ?_
      refine (tq_iload i_L_law_857 rfl rfl).trans ?_
      refine (tq_i2l i_L_law_859 ws0 rfl).trans ?_
      refine (tq_lcmp_eq (pt := 866) i_L_law_860 i_L_law_861 rfl (wl_gJ _ _ _) (wl_of_wr ws0) (by decide) rfl).trans ?_
      refine ite_congr rfl (fun c3 => ?_) (fun c3 => ?_)
      · refine (tq_goto (pc' := 2383) i_L_law_866 (by decide)).trans ?_
        rfl
      · refine (tq_iconst i_L_law_864 rfl).trans ?_
        exact tq_ireturn i_L_law_865 r_L_law (okB w_0 (by decide))
  · refine (tq_iconst i_L_law_847 rfl).trans ?_
    exact tq_ireturn i_L_law_848 r_L_law (okB w_0 (by decide))
