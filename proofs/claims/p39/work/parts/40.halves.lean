/-! ===== the halves of a picture ===== -/
theorem pw1 : (2 : Int) ^ 1 = 2 := rfl
theorem pw2 : (2 : Int) ^ 2 = 4 := rfl
theorem i_X4_between_0 : am_i m_X4_between 0 = some (0, .iload_n 2, 1, [], 0) := rfl
theorem i_X4_between_1 : am_i m_X4_between 1 = some (1, .iconst 1, 1, [], 1) := rfl
theorem i_X4_between_2 : am_i m_X4_between 2 = some (2, .ishr, 1, [], 0) := rfl
theorem i_X4_between_3 : am_i m_X4_between 3 = some (3, .invokestatic 25, 3, [18], 0) := rfl
theorem i_X4_between_6 : am_i m_X4_between 6 = some (6, .istore 4, 2, [], 0) := rfl
theorem i_X4_between_8 : am_i m_X4_between 8 = some (8, .iload_n 2, 1, [], 0) := rfl
theorem i_X4_between_9 : am_i m_X4_between 9 = some (9, .iconst 1, 1, [], 1) := rfl
theorem i_X4_between_10 : am_i m_X4_between 10 = some (10, .iadd, 1, [], 0) := rfl
theorem i_X4_between_11 : am_i m_X4_between 11 = some (11, .iconst 1, 1, [], 1) := rfl
theorem i_X4_between_12 : am_i m_X4_between 12 = some (12, .ishr, 1, [], 0) := rfl
theorem i_X4_between_13 : am_i m_X4_between 13 = some (13, .invokestatic 25, 3, [18], 0) := rfl
theorem i_X4_between_16 : am_i m_X4_between 16 = some (16, .istore 5, 2, [], 0) := rfl
theorem i_X4_between_18 : am_i m_X4_between 18 = some (18, .iload_n 1, 1, [], 0) := rfl
theorem i_X4_between_19 : am_i m_X4_between 19 = some (19, .bipush 16, 2, [], 16) := rfl
theorem i_X4_between_21 : am_i m_X4_between 21 = some (21, .iload_n 3, 1, [], 0) := rfl
theorem i_X4_between_22 : am_i m_X4_between 22 = some (22, .iconst 1, 1, [], 1) := rfl
theorem i_X4_between_23 : am_i m_X4_between 23 = some (23, .ishr, 1, [], 0) := rfl
theorem i_X4_between_24 : am_i m_X4_between 24 = some (24, .invokestatic 25, 3, [18], 0) := rfl
theorem i_X4_between_27 : am_i m_X4_between 27 = some (27, .imul, 1, [], 0) := rfl
theorem i_X4_between_28 : am_i m_X4_between 28 = some (28, .iadd, 1, [], 0) := rfl
theorem i_X4_between_29 : am_i m_X4_between 29 = some (29, .istore 6, 2, [], 0) := rfl
theorem i_X4_between_31 : am_i m_X4_between 31 = some (31, .iload_n 1, 1, [], 0) := rfl
theorem i_X4_between_32 : am_i m_X4_between 32 = some (32, .bipush 16, 2, [], 16) := rfl
theorem i_X4_between_34 : am_i m_X4_between 34 = some (34, .iload_n 3, 1, [], 0) := rfl
theorem i_X4_between_35 : am_i m_X4_between 35 = some (35, .iconst 1, 1, [], 1) := rfl
theorem i_X4_between_36 : am_i m_X4_between 36 = some (36, .iadd, 1, [], 0) := rfl
theorem i_X4_between_37 : am_i m_X4_between 37 = some (37, .iconst 1, 1, [], 1) := rfl
theorem i_X4_between_38 : am_i m_X4_between 38 = some (38, .ishr, 1, [], 0) := rfl
theorem i_X4_between_39 : am_i m_X4_between 39 = some (39, .invokestatic 25, 3, [18], 0) := rfl
theorem i_X4_between_42 : am_i m_X4_between 42 = some (42, .imul, 1, [], 0) := rfl
theorem i_X4_between_43 : am_i m_X4_between 43 = some (43, .iadd, 1, [], 0) := rfl
theorem i_X4_between_44 : am_i m_X4_between 44 = some (44, .istore 7, 2, [], 0) := rfl
theorem i_X4_between_46 : am_i m_X4_between 46 = some (46, .aload_n 0, 1, [], 0) := rfl
theorem i_X4_between_47 : am_i m_X4_between 47 = some (47, .iload 6, 2, [], 0) := rfl
theorem i_X4_between_49 : am_i m_X4_between 49 = some (49, .iload 4, 2, [], 0) := rfl
theorem i_X4_between_51 : am_i m_X4_between 51 = some (51, .iadd, 1, [], 0) := rfl
theorem i_X4_between_52 : am_i m_X4_between 52 = some (52, .invokestatic 29, 3, [32], 0) := rfl
theorem i_X4_between_55 : am_i m_X4_between 55 = some (55, .aload_n 0, 1, [], 0) := rfl
theorem i_X4_between_56 : am_i m_X4_between 56 = some (56, .iload 6, 2, [], 0) := rfl
theorem i_X4_between_58 : am_i m_X4_between 58 = some (58, .iload 5, 2, [], 0) := rfl
theorem i_X4_between_60 : am_i m_X4_between 60 = some (60, .iadd, 1, [], 0) := rfl
theorem i_X4_between_61 : am_i m_X4_between 61 = some (61, .invokestatic 29, 3, [32], 0) := rfl
theorem i_X4_between_64 : am_i m_X4_between 64 = some (64, .iadd, 1, [], 0) := rfl
theorem i_X4_between_65 : am_i m_X4_between 65 = some (65, .aload_n 0, 1, [], 0) := rfl
theorem i_X4_between_66 : am_i m_X4_between 66 = some (66, .iload 7, 2, [], 0) := rfl
theorem i_X4_between_68 : am_i m_X4_between 68 = some (68, .iload 4, 2, [], 0) := rfl
theorem i_X4_between_70 : am_i m_X4_between 70 = some (70, .iadd, 1, [], 0) := rfl
theorem i_X4_between_71 : am_i m_X4_between 71 = some (71, .invokestatic 29, 3, [32], 0) := rfl
theorem i_X4_between_74 : am_i m_X4_between 74 = some (74, .iadd, 1, [], 0) := rfl
theorem i_X4_between_75 : am_i m_X4_between 75 = some (75, .aload_n 0, 1, [], 0) := rfl
theorem i_X4_between_76 : am_i m_X4_between 76 = some (76, .iload 7, 2, [], 0) := rfl
theorem i_X4_between_78 : am_i m_X4_between 78 = some (78, .iload 5, 2, [], 0) := rfl
theorem i_X4_between_80 : am_i m_X4_between 80 = some (80, .iadd, 1, [], 0) := rfl
theorem i_X4_between_81 : am_i m_X4_between 81 = some (81, .invokestatic 29, 3, [32], 0) := rfl
theorem i_X4_between_84 : am_i m_X4_between 84 = some (84, .iadd, 1, [], 0) := rfl
theorem i_X4_between_85 : am_i m_X4_between 85 = some (85, .istore 8, 2, [], 0) := rfl
theorem i_X4_between_87 : am_i m_X4_between 87 = some (87, .iload 8, 2, [], 0) := rfl
theorem i_X4_between_89 : am_i m_X4_between 89 = some (89, .iconst 2, 1, [], 2) := rfl
theorem i_X4_between_90 : am_i m_X4_between 90 = some (90, .iadd, 1, [], 0) := rfl
theorem i_X4_between_91 : am_i m_X4_between 91 = some (91, .iconst 2, 1, [], 2) := rfl
theorem i_X4_between_92 : am_i m_X4_between 92 = some (92, .ishr, 1, [], 0) := rfl
theorem i_X4_between_93 : am_i m_X4_between 93 = some (93, .ireturn, 1, [], 0) := rfl
theorem b_X4_between_0 {a0 n_a0 : Nat} {x1 x2 x3 x2' x3' : Int} {h : am_H} (w2 : wr x2 = x2') (w3 : wr x3 = x3') (n1 : gn h a0 = n_a0) (s2 : sh h a0 = (1, 0)) (g3 : 0 ≤ (wr ((x1 + (16 * (ixs (wr (x3' / 2 ^ 1))))) + (ixs (wr (x2' / 2 ^ 1))))) ∧ (wr ((x1 + (16 * (ixs (wr (x3' / 2 ^ 1))))) + (ixs (wr (x2' / 2 ^ 1))))) < (n_a0 : Int)) (g4 : 0 ≤ (wr ((x1 + (16 * (ixs (wr (x3' / 2 ^ 1))))) + (ixs (wr ((wr (x2 + 1)) / 2 ^ 1))))) ∧ (wr ((x1 + (16 * (ixs (wr (x3' / 2 ^ 1))))) + (ixs (wr ((wr (x2 + 1)) / 2 ^ 1))))) < (n_a0 : Int)) (g5 : 0 ≤ (wr ((x1 + (16 * (ixs (wr ((wr (x3 + 1)) / 2 ^ 1))))) + (ixs (wr (x2' / 2 ^ 1))))) ∧ (wr ((x1 + (16 * (ixs (wr ((wr (x3 + 1)) / 2 ^ 1))))) + (ixs (wr (x2' / 2 ^ 1))))) < (n_a0 : Int)) (g6 : 0 ≤ (wr ((x1 + (16 * (ixs (wr ((wr (x3 + 1)) / 2 ^ 1))))) + (ixs (wr ((wr (x2 + 1)) / 2 ^ 1))))) ∧ (wr ((x1 + (16 * (ixs (wr ((wr (x3 + 1)) / 2 ^ 1))))) + (ixs (wr ((wr (x2 + 1)) / 2 ^ 1))))) < (n_a0 : Int)) : rn m_X4_between 0 [.ref a0, .int (mI x1), .int (mI x2), .int (mI x3), am_J, am_J, am_J, am_J, am_J] [] h = some (.inl (some (.int (mI ((wr (((((gZ h a0 (wr ((x1 + (16 * (ixs (wr (x3' / 2 ^ 1))))) + (ixs (wr (x2' / 2 ^ 1)))))) + (gZ h a0 (wr ((x1 + (16 * (ixs (wr (x3' / 2 ^ 1))))) + (ixs (wr ((wr (x2 + 1)) / 2 ^ 1))))))) + (gZ h a0 (wr ((x1 + (16 * (ixs (wr ((wr (x3 + 1)) / 2 ^ 1))))) + (ixs (wr (x2' / 2 ^ 1))))))) + (gZ h a0 (wr ((x1 + (16 * (ixs (wr ((wr (x3 + 1)) / 2 ^ 1))))) + (ixs (wr ((wr (x2 + 1)) / 2 ^ 1))))))) + 2)) / 2 ^ 2)))), h) := by
  refine (tq_iload_n i_X4_between_0 rfl rfl).trans ?_
  refine (tq_iconst i_X4_between_1 rfl).trans ?_
  refine (tq_ishr (k := 1) i_X4_between_2 w2 w_1 (by decide) rfl).trans ?_
  refine (c_X4_inside i_X4_between_3 (ltd d_X4_between (by decide)) stOk_0 rfl).trans ?_
  refine (congrArg (cl _ _ _ _) (inside4_ok rfl)).trans ?_
  refine (cl_v _ _ _ _ _ _).trans ?_
  refine (tq_istore (L' := [.ref a0, .int (mI x1), .int (mI x2), .int (mI x3), .int (mI (ixs (wr (x2' / 2 ^ 1)))), am_J, am_J, am_J, am_J]) i_X4_between_6 rfl rfl).trans ?_
  refine (tq_iload_n i_X4_between_8 rfl rfl).trans ?_
  refine (tq_iconst i_X4_between_9 rfl).trans ?_
  refine (tq_iadd i_X4_between_10 rfl).trans ?_
  refine (tq_iconst i_X4_between_11 rfl).trans ?_
  refine (tq_ishr (k := 1) i_X4_between_12 rfl w_1 (by decide) rfl).trans ?_
  refine (c_X4_inside i_X4_between_13 (ltd d_X4_between (by decide)) stOk_0 rfl).trans ?_
  refine (congrArg (cl _ _ _ _) (inside4_ok rfl)).trans ?_
  refine (cl_v _ _ _ _ _ _).trans ?_
  refine (tq_istore (L' := [.ref a0, .int (mI x1), .int (mI x2), .int (mI x3), .int (mI (ixs (wr (x2' / 2 ^ 1)))), .int (mI (ixs (wr ((wr (x2 + 1)) / 2 ^ 1)))), am_J, am_J, am_J]) i_X4_between_16 rfl rfl).trans ?_
  refine (tq_iload_n i_X4_between_18 rfl rfl).trans ?_
  refine (tq_bipush i_X4_between_19 rfl).trans ?_
  refine (tq_iload_n i_X4_between_21 rfl rfl).trans ?_
  refine (tq_iconst i_X4_between_22 rfl).trans ?_
  refine (tq_ishr (k := 1) i_X4_between_23 w3 w_1 (by decide) rfl).trans ?_
  refine (c_X4_inside i_X4_between_24 (ltd d_X4_between (by decide)) (stOk_2 _ _) rfl).trans ?_
  refine (congrArg (cl _ _ _ _) (inside4_ok rfl)).trans ?_
  refine (cl_v _ _ _ _ _ _).trans ?_
  refine (tq_imul i_X4_between_27 rfl).trans ?_
  refine (tq_iadd i_X4_between_28 rfl).trans ?_
  refine (tq_istore (L' := [.ref a0, .int (mI x1), .int (mI x2), .int (mI x3), .int (mI (ixs (wr (x2' / 2 ^ 1)))), .int (mI (ixs (wr ((wr (x2 + 1)) / 2 ^ 1)))), .int (mI (x1 + (16 * (ixs (wr (x3' / 2 ^ 1)))))), am_J, am_J]) i_X4_between_29 rfl rfl).trans ?_
  refine (tq_iload_n i_X4_between_31 rfl rfl).trans ?_
  refine (tq_bipush i_X4_between_32 rfl).trans ?_
  refine (tq_iload_n i_X4_between_34 rfl rfl).trans ?_
  refine (tq_iconst i_X4_between_35 rfl).trans ?_
  refine (tq_iadd i_X4_between_36 rfl).trans ?_
  refine (tq_iconst i_X4_between_37 rfl).trans ?_
  refine (tq_ishr (k := 1) i_X4_between_38 rfl w_1 (by decide) rfl).trans ?_
  refine (c_X4_inside i_X4_between_39 (ltd d_X4_between (by decide)) (stOk_2 _ _) rfl).trans ?_
  refine (congrArg (cl _ _ _ _) (inside4_ok rfl)).trans ?_
  refine (cl_v _ _ _ _ _ _).trans ?_
  refine (tq_imul i_X4_between_42 rfl).trans ?_
  refine (tq_iadd i_X4_between_43 rfl).trans ?_
  refine (tq_istore (L' := [.ref a0, .int (mI x1), .int (mI x2), .int (mI x3), .int (mI (ixs (wr (x2' / 2 ^ 1)))), .int (mI (ixs (wr ((wr (x2 + 1)) / 2 ^ 1)))), .int (mI (x1 + (16 * (ixs (wr (x3' / 2 ^ 1)))))), .int (mI (x1 + (16 * (ixs (wr ((wr (x3 + 1)) / 2 ^ 1)))))), am_J]) i_X4_between_44 rfl rfl).trans ?_
  refine (tq_aload_n i_X4_between_46 rfl (isA_ref _) rfl).trans ?_
  refine (tq_iload i_X4_between_47 rfl rfl).trans ?_
  refine (tq_iload i_X4_between_49 rfl rfl).trans ?_
  refine (tq_iadd i_X4_between_51 rfl).trans ?_
  refine (c_X7_get i_X4_between_52 (ltd d_X4_between (by decide)) (isA_ref _) stOk_0 rfl).trans ?_
  refine (congrArg (cl _ _ _ _) (get_ok rfl n1 s2 (by decide) g3)).trans ?_
  refine (cl_v _ _ _ _ _ _).trans ?_
  refine (tq_aload_n i_X4_between_55 rfl (isA_ref _) rfl).trans ?_
  refine (tq_iload i_X4_between_56 rfl rfl).trans ?_
  refine (tq_iload i_X4_between_58 rfl rfl).trans ?_
  refine (tq_iadd i_X4_between_60 rfl).trans ?_
  refine (c_X7_get i_X4_between_61 (ltd d_X4_between (by decide)) (isA_ref _) (stOk_1 _) rfl).trans ?_
  refine (congrArg (cl _ _ _ _) (get_ok rfl n1 s2 (by decide) g4)).trans ?_
  refine (cl_v _ _ _ _ _ _).trans ?_
  refine (tq_iadd i_X4_between_64 rfl).trans ?_
  refine (tq_aload_n i_X4_between_65 rfl (isA_ref _) rfl).trans ?_
  refine (tq_iload i_X4_between_66 rfl rfl).trans ?_
  refine (tq_iload i_X4_between_68 rfl rfl).trans ?_
  refine (tq_iadd i_X4_between_70 rfl).trans ?_
  refine (c_X7_get i_X4_between_71 (ltd d_X4_between (by decide)) (isA_ref _) (stOk_1 _) rfl).trans ?_
  refine (congrArg (cl _ _ _ _) (get_ok rfl n1 s2 (by decide) g5)).trans ?_
  refine (cl_v _ _ _ _ _ _).trans ?_
  refine (tq_iadd i_X4_between_74 rfl).trans ?_
  refine (tq_aload_n i_X4_between_75 rfl (isA_ref _) rfl).trans ?_
  refine (tq_iload i_X4_between_76 rfl rfl).trans ?_
  refine (tq_iload i_X4_between_78 rfl rfl).trans ?_
  refine (tq_iadd i_X4_between_80 rfl).trans ?_
  refine (c_X7_get i_X4_between_81 (ltd d_X4_between (by decide)) (isA_ref _) (stOk_1 _) rfl).trans ?_
  refine (congrArg (cl _ _ _ _) (get_ok rfl n1 s2 (by decide) g6)).trans ?_
  refine (cl_v _ _ _ _ _ _).trans ?_
  refine (tq_iadd i_X4_between_84 rfl).trans ?_
  refine (tq_istore (L' := [.ref a0, .int (mI x1), .int (mI x2), .int (mI x3), .int (mI (ixs (wr (x2' / 2 ^ 1)))), .int (mI (ixs (wr ((wr (x2 + 1)) / 2 ^ 1)))), .int (mI (x1 + (16 * (ixs (wr (x3' / 2 ^ 1)))))), .int (mI (x1 + (16 * (ixs (wr ((wr (x3 + 1)) / 2 ^ 1)))))), .int (mI ((((gZ h a0 (wr ((x1 + (16 * (ixs (wr (x3' / 2 ^ 1))))) + (ixs (wr (x2' / 2 ^ 1)))))) + (gZ h a0 (wr ((x1 + (16 * (ixs (wr (x3' / 2 ^ 1))))) + (ixs (wr ((wr (x2 + 1)) / 2 ^ 1))))))) + (gZ h a0 (wr ((x1 + (16 * (ixs (wr ((wr (x3 + 1)) / 2 ^ 1))))) + (ixs (wr (x2' / 2 ^ 1))))))) + (gZ h a0 (wr ((x1 + (16 * (ixs (wr ((wr (x3 + 1)) / 2 ^ 1))))) + (ixs (wr ((wr (x2 + 1)) / 2 ^ 1))))))))]) i_X4_between_85 rfl rfl).trans ?_
  refine (tq_iload i_X4_between_87 rfl rfl).trans ?_
  refine (tq_iconst i_X4_between_89 rfl).trans ?_
  refine (tq_iadd i_X4_between_90 rfl).trans ?_
  refine (tq_iconst i_X4_between_91 rfl).trans ?_
  refine (tq_ishr (k := 2) i_X4_between_92 rfl w_2 (by decide) rfl).trans ?_
  exact tq_ireturn i_X4_between_93 r_X4_between rfl
theorem between_ok {h : am_H} {a n : Nat} {f x y : Int} (s : sh h a = (1, 0)) (n1 : gn h a = n) (h0 : 0 ≤ f) (h1 : f + 256 ≤ n) (hp : pixels (fun i => gZ h a (f + i))) (hx : -100 ≤ x ∧ x ≤ 100) (hy : -100 ≤ y ∧ y ≤ 100) : rn m_X4_between 0 [.ref a, .int (mI f), .int (mI x), .int (mI y), am_J, am_J, am_J, am_J, am_J] [] h = some (.inl (some (.int (mI (hv (fun i => gZ h a (f + i)) x y)))), h) := by
  have nle := gn_ok s n1
  have a1 := ixs_b (y / 2)
  have a2 := ixs_b (x / 2)
  have a3 := ixs_b ((y + 1) / 2)
  have a4 := ixs_b ((x + 1) / 2)
  have b1 : 0 ≤ gZ h a (f + (16 * ixs (y / 2) + ixs (x / 2))) ∧ gZ h a (f + (16 * ixs (y / 2) + ixs (x / 2))) ≤ 255 := hp _ (by omega) (by omega)
  have b2 : 0 ≤ gZ h a (f + (16 * ixs (y / 2) + ixs ((x + 1) / 2))) ∧ gZ h a (f + (16 * ixs (y / 2) + ixs ((x + 1) / 2))) ≤ 255 := hp _ (by omega) (by omega)
  have b3 : 0 ≤ gZ h a (f + (16 * ixs ((y + 1) / 2) + ixs (x / 2))) ∧ gZ h a (f + (16 * ixs ((y + 1) / 2) + ixs (x / 2))) ≤ 255 := hp _ (by omega) (by omega)
  have b4 : 0 ≤ gZ h a (f + (16 * ixs ((y + 1) / 2) + ixs ((x + 1) / 2))) ∧ gZ h a (f + (16 * ixs ((y + 1) / 2) + ixs ((x + 1) / 2))) ≤ 255 := hp _ (by omega) (by omega)
  rw [b_X4_between_0 (x2' := x) (x3' := y) (wr_id (by omega) (by omega)) (wr_id (by omega) (by omega)) n1 s (by (simp (disch := omega) only [wr_id, pw1, pw2, Int.add_assoc]) <;> omega) (by (simp (disch := omega) only [wr_id, pw1, pw2, Int.add_assoc]) <;> omega) (by (simp (disch := omega) only [wr_id, pw1, pw2, Int.add_assoc]) <;> omega) (by (simp (disch := omega) only [wr_id, pw1, pw2, Int.add_assoc]) <;> omega)]
  unfold hv
  simp (disch := omega) only [wr_id, pw1, pw2, Int.add_assoc]
def isH (h : am_H) (a : Nat) (f : Int → Int) : Prop := ∀ X Y : Int, 0 ≤ X → X < 47 → 0 ≤ Y → Y < 47 → gZ h (a + 1) (47 * Y + X) = hv f (X - 8) (Y - 8)
theorem i_X4_take_0 : am_i m_X4_take 0 = some (0, .iconst 0, 1, [], 0) := rfl
theorem i_X4_take_1 : am_i m_X4_take 1 = some (1, .istore_n 3, 1, [], 0) := rfl
theorem b_X4_take_0 {a0 a1 : Nat} {x2 : Int} {h : am_H} : rn m_X4_take 0 [.ref a0, .ref a1, .int (mI x2), am_J, am_J] [] h = rn m_X4_take 2 [.ref a0, .ref a1, .int (mI x2), .int (mI 0), am_J] [] h := by
  refine (tq_iconst i_X4_take_0 rfl).trans ?_
  refine (tq_istore_n (L' := [.ref a0, .ref a1, .int (mI x2), .int (mI 0), am_J]) i_X4_take_1 rfl rfl).trans ?_
  rfl
theorem i_X4_take_2 : am_i m_X4_take 2 = some (2, .iload_n 3, 1, [], 0) := rfl
theorem i_X4_take_3 : am_i m_X4_take 3 = some (3, .bipush 47, 2, [], 47) := rfl
theorem i_X4_take_5 : am_i m_X4_take 5 = some (5, .if_icmp .ge 53, 3, [], 0) := rfl
theorem i_X4_take_8 : am_i m_X4_take 8 = some (8, .iconst 0, 1, [], 0) := rfl
theorem i_X4_take_9 : am_i m_X4_take 9 = some (9, .istore 4, 2, [], 0) := rfl
theorem i_X4_take_58 : am_i m_X4_take 58 = some (58, .return_, 1, [], 0) := rfl
theorem b_X4_take_2 {a0 a1 : Nat} {x2 x3 x3' : Int} {v4 : Value} {h : am_H} (w3 : wr x3 = x3') : rn m_X4_take 2 [.ref a0, .ref a1, .int (mI x2), .int (mI x3), v4] [] h = if 47 ≤ x3' then some (.inl none, h) else rn m_X4_take 11 [.ref a0, .ref a1, .int (mI x2), .int (mI x3), .int (mI 0)] [] h := by
  refine (tq_iload_n i_X4_take_2 rfl rfl).trans ?_
  refine (tq_bipush i_X4_take_3 rfl).trans ?_
  refine (tq_icmp_ge (pt := 58) i_X4_take_5 w3 w_47 (by decide) rfl).trans ?_
  refine ite_congr rfl (fun c1 => ?_) (fun c1 => ?_)
  · exact tq_return i_X4_take_58 r_X4_take
  · refine (tq_iconst i_X4_take_8 rfl).trans ?_
    refine (tq_istore (L' := [.ref a0, .ref a1, .int (mI x2), .int (mI x3), .int (mI 0)]) i_X4_take_9 rfl rfl).trans ?_
    rfl
theorem i_X4_take_11 : am_i m_X4_take 11 = some (11, .iload 4, 2, [], 0) := rfl
theorem i_X4_take_13 : am_i m_X4_take 13 = some (13, .bipush 47, 2, [], 47) := rfl
theorem i_X4_take_15 : am_i m_X4_take 15 = some (15, .if_icmp .ge 37, 3, [], 0) := rfl
theorem i_X4_take_18 : am_i m_X4_take 18 = some (18, .aload_n 0, 1, [], 0) := rfl
theorem i_X4_take_19 : am_i m_X4_take 19 = some (19, .getfield 11, 3, [4, 0, 0], 0) := rfl
theorem i_X4_take_22 : am_i m_X4_take 22 = some (22, .bipush 47, 2, [], 47) := rfl
theorem i_X4_take_24 : am_i m_X4_take 24 = some (24, .iload_n 3, 1, [], 0) := rfl
theorem i_X4_take_25 : am_i m_X4_take 25 = some (25, .imul, 1, [], 0) := rfl
theorem i_X4_take_26 : am_i m_X4_take 26 = some (26, .iload 4, 2, [], 0) := rfl
theorem i_X4_take_28 : am_i m_X4_take 28 = some (28, .iadd, 1, [], 0) := rfl
theorem i_X4_take_29 : am_i m_X4_take 29 = some (29, .aload_n 1, 1, [], 0) := rfl
theorem i_X4_take_30 : am_i m_X4_take 30 = some (30, .iload_n 2, 1, [], 0) := rfl
theorem i_X4_take_31 : am_i m_X4_take 31 = some (31, .iload 4, 2, [], 0) := rfl
theorem i_X4_take_33 : am_i m_X4_take 33 = some (33, .bipush 8, 2, [], 8) := rfl
theorem i_X4_take_35 : am_i m_X4_take 35 = some (35, .isub, 1, [], 0) := rfl
theorem i_X4_take_36 : am_i m_X4_take 36 = some (36, .iload_n 3, 1, [], 0) := rfl
theorem i_X4_take_37 : am_i m_X4_take 37 = some (37, .bipush 8, 2, [], 8) := rfl
theorem i_X4_take_39 : am_i m_X4_take 39 = some (39, .isub, 1, [], 0) := rfl
theorem i_X4_take_40 : am_i m_X4_take 40 = some (40, .invokestatic 15, 3, [60], 0) := rfl
theorem i_X4_take_52 : am_i m_X4_take 52 = some (52, .iinc 3 1, 3, [], 0) := rfl
theorem i_X4_take_55 : am_i m_X4_take 55 = some (55, .goto (-53), 3, [], 0) := rfl
theorem b_X4_take_11 {a0 a1 : Nat} {x2 x3 x4 x4' : Int} {h : am_H} (w4 : wr x4 = x4') (k1 : K4 h a0) : rn m_X4_take 11 [.ref a0, .ref a1, .int (mI x2), .int (mI x3), .int (mI x4)] [] h = if 47 ≤ x4' then rn m_X4_take 2 [.ref a0, .ref a1, .int (mI x2), .int (mI (x3 + 1)), .int (mI x4)] [] h else cl m_X4_take 43 [.ref a0, .ref a1, .int (mI x2), .int (mI x3), .int (mI x4)] [.int (mI ((47 * x3) + x4)), .ref (a0 + 1)] (rn m_X4_between 0 [.ref a1, .int (mI x2), .int (mI (x4 - 8)), .int (mI (x3 - 8)), am_J, am_J, am_J, am_J, am_J] [] h) := by
  refine (tq_iload i_X4_take_11 rfl rfl).trans ?_
  refine (tq_bipush i_X4_take_13 rfl).trans ?_
  refine (tq_icmp_ge (pt := 52) i_X4_take_15 w4 w_47 (by decide) rfl).trans ?_
  refine ite_congr rfl (fun c1 => ?_) (fun c1 => ?_)
  · refine (tq_iinc (L' := [.ref a0, .ref a1, .int (mI x2), .int (mI (x3 + 1)), .int (mI x4)]) i_X4_take_52 rfl rfl rfl).trans ?_
    refine (tq_goto (pc' := 2) i_X4_take_55 (by decide)).trans ?_
    rfl
  · refine (tq_aload_n i_X4_take_18 rfl (isA_ref _) rfl).trans ?_
    refine (tq_getfield i_X4_take_19 (K4_s k1) (gR (g_4_0 (K4_s k1)) (K4_e0 k1)) (isV_ref _) rfl).trans ?_
    refine (tq_bipush i_X4_take_22 rfl).trans ?_
    refine (tq_iload_n i_X4_take_24 rfl rfl).trans ?_
    refine (tq_imul i_X4_take_25 rfl).trans ?_
    refine (tq_iload i_X4_take_26 rfl rfl).trans ?_
    refine (tq_iadd i_X4_take_28 rfl).trans ?_
    refine (tq_aload_n i_X4_take_29 rfl (isA_ref _) rfl).trans ?_
    refine (tq_iload_n i_X4_take_30 rfl rfl).trans ?_
    refine (tq_iload i_X4_take_31 rfl rfl).trans ?_
    refine (tq_bipush i_X4_take_33 rfl).trans ?_
    refine (tq_isub i_X4_take_35 rfl).trans ?_
    refine (tq_iload_n i_X4_take_36 rfl rfl).trans ?_
    refine (tq_bipush i_X4_take_37 rfl).trans ?_
    refine (tq_isub i_X4_take_39 rfl).trans ?_
    exact c_X4_between i_X4_take_40 (ltd d_X4_take (by decide)) (isA_ref _) (stOk_2 _ _) rfl
theorem i_X4_take_43 : am_i m_X4_take 43 = some (43, .invokestatic 19, 3, [33], 0) := rfl
theorem i_X4_take_46 : am_i m_X4_take 46 = some (46, .iinc 4 1, 3, [], 0) := rfl
theorem i_X4_take_49 : am_i m_X4_take 49 = some (49, .goto (-38), 3, [], 0) := rfl
theorem b_X4_take_43 {a0 a1 as2 n_as2 : Nat} {x2 x3 x4 xs0 xs1 xs1' : Int} {h : am_H} (ws1 : wr xs1 = xs1') (n1 : gn h as2 = n_as2) (s2 : sh h as2 = (1, 0)) (g3 : 0 ≤ xs1' ∧ xs1' < (n_as2 : Int)) : rn m_X4_take 43 [.ref a0, .ref a1, .int (mI x2), .int (mI x3), .int (mI x4)] [.int (mI xs0), .int (mI xs1), .ref as2] h = rn m_X4_take 11 [.ref a0, .ref a1, .int (mI x2), .int (mI x3), .int (mI (x4 + 1))] [] (uZ h as2 xs1' xs0) := by
  refine (c_X7_put i_X4_take_43 (ltd d_X4_take (by decide)) (isA_ref _) stOk_0 rfl).trans ?_
  refine (congrArg (cl _ _ _ _) (put_ok ws1 n1 s2 g3)).trans ?_
  refine (cl_n _ _ _ _ _).trans ?_
  refine (tq_iinc (L' := [.ref a0, .ref a1, .int (mI x2), .int (mI x3), .int (mI (x4 + 1))]) i_X4_take_46 rfl rfl rfl).trans ?_
  refine (tq_goto (pc' := 11) i_X4_take_49 (by decide)).trans ?_
  rfl
theorem wr_255 {z : Int} (h : 0 ≤ z ∧ z ≤ 255) : wr z = z := wr_id (by omega) (by omega)
theorem take_ok {h : am_H} {a b n : Nat} {f : Int} (k : K4 h a) (s : sh h b = (1, 0)) (n1 : gn h b = n) (h0 : 0 ≤ f) (h1 : f + 256 ≤ n) (ab : b ≠ a + 1) (hp : pixels (fun i => gZ h b (f + i))) : ∃ h', rn m_X4_take 0 [.ref a, .ref b, .int (mI f), am_J, am_J] [] h = some (.inl none, h') ∧ Md (fun c _ => c = a + 1) h h' ∧ isH h' a (fun i => gZ h b (f + i)) := by
  rw [b_X4_take_0]
  refine lp (m := m_X4_take) (pc := 2) (L := fun i (v : Value) => [.ref a, .ref b, .int (mI f), .int (mI i), v]) (N := 47) (P := fun r => ∃ h', r = some (.inl none, h') ∧ Md (fun c _ => c = a + 1) h h' ∧ isH h' a (fun i => gZ h b (f + i))) (fun i _ h' => 0 ≤ i ∧ Md (fun c _ => c = a + 1) h h' ∧ ∀ X Y : Int, 0 ≤ X → X < 47 → 0 ≤ Y → Y < i → gZ h' (a + 1) (47 * Y + X) = hv (fun i => gZ h b (f + i)) (X - 8) (Y - 8)) ?_ ?_ 0 am_J h (by omega) ⟨by omega, Md_rf _ _, fun X Y _ _ _ _ => by omega⟩
  · intro i v h' hi ⟨i0, md, hh⟩
    rw [b_X4_take_2 (wr_id (by omega) (by omega)), if_neg (by omega)]
    refine lp (m := m_X4_take) (pc := 11) (L := fun j (_ : Unit) => [.ref a, .ref b, .int (mI f), .int (mI i), .int (mI j)]) (N := 47) (P := fun r => ∃ s' h', r = rn m_X4_take 2 [.ref a, .ref b, .int (mI f), .int (mI (i + 1)), s'] [] h' ∧ 0 ≤ i + 1 ∧ Md (fun c _ => c = a + 1) h h' ∧ ∀ X Y : Int, 0 ≤ X → X < 47 → 0 ≤ Y → Y < i + 1 → gZ h' (a + 1) (47 * Y + X) = hv (fun i => gZ h b (f + i)) (X - 8) (Y - 8)) (fun j _ h' => 0 ≤ j ∧ Md (fun c _ => c = a + 1) h h' ∧ ∀ X Y : Int, 0 ≤ X → X < 47 → 0 ≤ Y → (Y < i ∨ Y = i ∧ X < j) → gZ h' (a + 1) (47 * Y + X) = hv (fun i => gZ h b (f + i)) (X - 8) (Y - 8)) ?_ ?_ 0 () h' (by omega) ⟨by omega, md, fun X Y x0 x1 y0 y1 => hh X Y x0 x1 y0 (by omega)⟩
    · intro j _ h2 hj ⟨j0, md2, hh2⟩
      have k2 : K4 h2 a := K4_sm md2.1 k
      have sb : sh h2 b = (1, 0) := (md_sh md2 b).trans s
      have nb : gn h2 b = n := (md_gn md2 b).trans n1
      have e : (fun i => gZ h2 b (f + i)) = fun i => gZ h b (f + i) := funext fun i => md_gZ md2 ab _
      have hb := hv_b hp (j - 8) (i - 8)
      refine ⟨(), uZ h2 (a + 1) (47 * i + j) (hv (fun i => gZ h b (f + i)) (j - 8) (i - 8)), ?_, by omega, ?_⟩
      · refine (b_X4_take_11 (wr_id (by omega) (by omega)) k2).trans ((if_neg (by omega)).trans ?_)
        rw [between_ok sb nb h0 h1 (by rw [e]; exact hp) ⟨by omega, by omega⟩ ⟨by omega, by omega⟩, cl_v, e]
        exact b_X4_take_43 (wr_id (by omega) (by omega)) (K4_n0 k2) (K4_s0 k2) ⟨by omega, by omega⟩
      · refine ⟨Md_tr md2 (Md_uZ _ _ _ _), fun X Y x0 x1 y0 y1 => ?_⟩
        by_cases q : 47 * Y + X = 47 * i + j
        · rw [gZ_uZ_eq _ (sh1 (K4_s0 k2)) q, wr_255 hb]
          have e1 : X = j := by omega
          have e2 : Y = i := by omega
          rw [e1, e2]
        · rw [gZ_uZ_nj _ (sh1 (K4_s0 k2)) q]
          exact hh2 X Y x0 x1 y0 (by omega)
    · intro _ h2 ⟨j0, md2, hh2⟩
      refine ⟨_, h2, (b_X4_take_11 (wr_id (by omega) (by omega)) (K4_sm md2.1 k)).trans (if_pos (by omega)), by omega, md2, fun X Y x0 x1 y0 y1 => hh2 X Y x0 x1 y0 (by omega)⟩
  · intro v h' ⟨i0, md, hh⟩
    exact ⟨h', (b_X4_take_2 (wr_id (by omega) (by omega))).trans (if_pos (by omega)), md, hh⟩
theorem i_X4_guessed_0 : am_i m_X4_guessed 0 = some (0, .aload_n 0, 1, [], 0) := rfl
theorem i_X4_guessed_1 : am_i m_X4_guessed 1 = some (1, .getfield 11, 3, [4, 0, 0], 0) := rfl
theorem i_X4_guessed_4 : am_i m_X4_guessed 4 = some (4, .iload_n 1, 1, [], 0) := rfl
theorem i_X4_guessed_5 : am_i m_X4_guessed 5 = some (5, .iload_n 2, 1, [], 0) := rfl
theorem i_X4_guessed_6 : am_i m_X4_guessed 6 = some (6, .iload_n 3, 1, [], 0) := rfl
theorem i_X4_guessed_7 : am_i m_X4_guessed 7 = some (7, .invokestatic 33, 3, [19], 0) := rfl
theorem i_X4_guessed_10 : am_i m_X4_guessed 10 = some (10, .invokestatic 29, 3, [32], 0) := rfl
theorem i_X4_guessed_13 : am_i m_X4_guessed 13 = some (13, .ireturn, 1, [], 0) := rfl
theorem b_X4_guessed_0 {a0 : Nat} {x1 x2 x3 x1' : Int} {h : am_H} (w1 : wr x1 = x1') (k1 : K4 h a0) (g2 : 0 ≤ (wr (((47 * ((2 * x3) + (Int.tmod x1' 100))) + (2 * x2)) + (Int.tdiv x1' 100))) ∧ (wr (((47 * ((2 * x3) + (Int.tmod x1' 100))) + (2 * x2)) + (Int.tdiv x1' 100))) < (2209 : Int)) : rn m_X4_guessed 0 [.ref a0, .int (mI x1), .int (mI x2), .int (mI x3)] [] h = some (.inl (some (.int (mI (gZ h (a0 + 1) (wr (((47 * ((2 * x3) + (Int.tmod x1' 100))) + (2 * x2)) + (Int.tdiv x1' 100))))))), h) := by
  refine (tq_aload_n i_X4_guessed_0 rfl (isA_ref _) rfl).trans ?_
  refine (tq_getfield i_X4_guessed_1 (K4_s k1) (gR (g_4_0 (K4_s k1)) (K4_e0 k1)) (isV_ref _) rfl).trans ?_
  refine (tq_iload_n i_X4_guessed_4 rfl rfl).trans ?_
  refine (tq_iload_n i_X4_guessed_5 rfl rfl).trans ?_
  refine (tq_iload_n i_X4_guessed_6 rfl rfl).trans ?_
  refine (c_X4_placeFrom i_X4_guessed_7 (ltd d_X4_guessed (by decide)) (stOk_1 _) rfl).trans ?_
  refine (congrArg (cl _ _ _ _) (b_X4_placeFrom_0 w1)).trans ?_
  refine (cl_v _ _ _ _ _ _).trans ?_
  refine (c_X7_get i_X4_guessed_10 (ltd d_X4_guessed (by decide)) (isA_ref _) stOk_0 rfl).trans ?_
  refine (congrArg (cl _ _ _ _) (get_ok rfl (K4_n0 k1) (K4_s0 k1) (by decide) g2)).trans ?_
  refine (cl_v _ _ _ _ _ _).trans ?_
  exact tq_ireturn i_X4_guessed_13 r_X4_guessed rfl
theorem guessed_ok {h : am_H} {a : Nat} {f : Int → Int} {v x y : Int} (k : K4 h a) (q : isH h a f) (v0 : 0 ≤ v) (v1 : v / 100 ≤ 16) (v2 : v % 100 ≤ 16) (hx : 0 ≤ x ∧ x < 16) (hy : 0 ≤ y ∧ y < 16) : rn m_X4_guessed 0 [.ref a, .int (mI v), .int (mI x), .int (mI y)] [] h = some (.inl (some (.int (mI (hv f (2 * x + vX v) (2 * y + vY v))))), h) := by
  have w : wr (47 * (2 * y + Int.tmod v 100) + 2 * x + Int.tdiv v 100) = 47 * (2 * y + v % 100) + (2 * x + v / 100) := by
    rw [tdv v0, tmd v0, wr_id (by omega) (by omega)]
    omega
  rw [b_X4_guessed_0 (wr_id (by omega) (by omega)) k (by rw [w]; omega), w, q _ _ (by omega) (by omega) (by omega) (by omega)]
  unfold vX vY
  rw [show 2 * x + v / 100 - 8 = 2 * x + (v / 100 - 8) by omega, show 2 * y + v % 100 - 8 = 2 * y + (v % 100 - 8) by omega]
