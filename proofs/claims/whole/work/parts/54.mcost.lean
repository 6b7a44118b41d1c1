/-! ===== the model's costs ===== -/
def picR (h : am_H) (M N : Nat) (r : Option Nat) (f : Int → Int) : Prop := ∃ F, r = some F ∧ (M + 22 < F ∧ F < N) ∧ sh h F = (1, 0) ∧ gn h F = 256 ∧ gZ h F = f ∧ pixels f
def vecAt (h : am_H) (V : Nat) (r m v1 v2 : Int) : Prop := (m ≠ 5 → gZ h V (4 * r) = vX v1 ∧ gZ h V (4 * r + 1) = vY v1 ∧ okv v1) ∧ (m ≠ 4 → gZ h V (4 * r + 2) = vX v2 ∧ gZ h V (4 * r + 3) = vY v2 ∧ okv v2)
theorem vXY_b {v : Int} (h : okv v) : (-8 ≤ vX v ∧ vX v ≤ 8) ∧ -8 ≤ vY v ∧ vY v ≤ 8 := by unfold okv at h; unfold vX vY; omega
theorem i_X12_byPictures_0 : am_i m_X12_byPictures 0 = some (0, .iconst 4, 1, [], 4) := rfl
theorem i_X12_byPictures_1 : am_i m_X12_byPictures 1 = some (1, .iconst 4, 1, [], 4) := rfl
theorem i_X12_byPictures_2 : am_i m_X12_byPictures 2 = some (2, .iload_n 3, 1, [], 0) := rfl
theorem i_X12_byPictures_3 : am_i m_X12_byPictures 3 = some (3, .iconst 4, 1, [], 4) := rfl
theorem i_X12_byPictures_4 : am_i m_X12_byPictures 4 = some (4, .idiv, 1, [], 0) := rfl
theorem i_X12_byPictures_5 : am_i m_X12_byPictures 5 = some (5, .imul, 1, [], 0) := rfl
theorem i_X12_byPictures_6 : am_i m_X12_byPictures 6 = some (6, .iload_n 2, 1, [], 0) := rfl
theorem i_X12_byPictures_7 : am_i m_X12_byPictures 7 = some (7, .iconst 4, 1, [], 4) := rfl
theorem i_X12_byPictures_8 : am_i m_X12_byPictures 8 = some (8, .idiv, 1, [], 0) := rfl
theorem i_X12_byPictures_9 : am_i m_X12_byPictures 9 = some (9, .iadd, 1, [], 0) := rfl
theorem i_X12_byPictures_10 : am_i m_X12_byPictures 10 = some (10, .imul, 1, [], 0) := rfl
theorem i_X12_byPictures_11 : am_i m_X12_byPictures 11 = some (11, .istore 6, 2, [], 0) := rfl
theorem i_X12_byPictures_13 : am_i m_X12_byPictures 13 = some (13, .iload 4, 2, [], 0) := rfl
theorem i_X12_byPictures_15 : am_i m_X12_byPictures 15 = some (15, .iconst 5, 1, [], 5) := rfl
theorem i_X12_byPictures_16 : am_i m_X12_byPictures 16 = some (16, .if_icmp .ne 7, 3, [], 0) := rfl
theorem i_X12_byPictures_19 : am_i m_X12_byPictures 19 = some (19, .iconst 0, 1, [], 0) := rfl
theorem i_X12_byPictures_20 : am_i m_X12_byPictures 20 = some (20, .goto 21, 3, [], 0) := rfl
theorem i_X12_byPictures_23 : am_i m_X12_byPictures 23 = some (23, .aload_n 0, 1, [], 0) := rfl
theorem i_X12_byPictures_24 : am_i m_X12_byPictures 24 = some (24, .iload_n 2, 1, [], 0) := rfl
theorem i_X12_byPictures_25 : am_i m_X12_byPictures 25 = some (25, .iload_n 3, 1, [], 0) := rfl
theorem i_X12_byPictures_26 : am_i m_X12_byPictures 26 = some (26, .aload 5, 2, [], 0) := rfl
theorem i_X12_byPictures_28 : am_i m_X12_byPictures 28 = some (28, .iload 6, 2, [], 0) := rfl
theorem i_X12_byPictures_30 : am_i m_X12_byPictures 30 = some (30, .iaload, 1, [], 0) := rfl
theorem i_X12_byPictures_31 : am_i m_X12_byPictures 31 = some (31, .aload 5, 2, [], 0) := rfl
theorem i_X12_byPictures_33 : am_i m_X12_byPictures 33 = some (33, .iload 6, 2, [], 0) := rfl
theorem i_X12_byPictures_35 : am_i m_X12_byPictures 35 = some (35, .iconst 1, 1, [], 1) := rfl
theorem i_X12_byPictures_36 : am_i m_X12_byPictures 36 = some (36, .iadd, 1, [], 0) := rfl
theorem i_X12_byPictures_37 : am_i m_X12_byPictures 37 = some (37, .iaload, 1, [], 0) := rfl
theorem i_X12_byPictures_38 : am_i m_X12_byPictures 38 = some (38, .invokestatic 151, 3, [155], 0) := rfl
theorem b_X12_byPictures_0 {r0 r1 : Option Nat} {x2 x3 x4 x2' x3' x4' : Int} {a5 n_a5 : Nat} {h : am_H} (w2 : wr x2 = x2') (w3 : wr x3 = x3') (w4 : wr x4 = x4') (n1 : gn h a5 = n_a5) (s2 : sh h a5 = (1, 0)) (g3 : (¬ x4' = 5) → (0 ≤ wr (4 * ((4 * (Int.tdiv x3' 4)) + (Int.tdiv x2' 4))) ∧ wr (4 * ((4 * (Int.tdiv x3' 4)) + (Int.tdiv x2' 4))) < (n_a5 : Int))) (g4 : (¬ x4' = 5) → (0 ≤ wr ((4 * ((4 * (Int.tdiv x3' 4)) + (Int.tdiv x2' 4))) + 1) ∧ wr ((4 * ((4 * (Int.tdiv x3' 4)) + (Int.tdiv x2' 4))) + 1) < (n_a5 : Int))) : rn m_X12_byPictures 0 [am_rv r0, am_rv r1, .int (mI x2), .int (mI x3), .int (mI x4), .ref a5, am_J, am_J, am_J] [] h = if ¬ x4' = 5 then cl m_X12_byPictures 41 [am_rv r0, am_rv r1, .int (mI x2), .int (mI x3), .int (mI x4), .ref a5, .int (mI (4 * ((4 * (Int.tdiv x3' 4)) + (Int.tdiv x2' 4)))), am_J, am_J] [] (rn m_X12_byVector 0 [am_rv r0, .int (mI x2), .int (mI x3), .int (mI (gZ h a5 (wr (4 * ((4 * (Int.tdiv x3' 4)) + (Int.tdiv x2' 4)))))), .int (mI (gZ h a5 (wr ((4 * ((4 * (Int.tdiv x3' 4)) + (Int.tdiv x2' 4))) + 1)))), am_J, am_J, am_J, am_J, am_J] [] h) else rn m_X12_byPictures 41 [am_rv r0, am_rv r1, .int (mI x2), .int (mI x3), .int (mI x4), .ref a5, .int (mI (4 * ((4 * (Int.tdiv x3' 4)) + (Int.tdiv x2' 4)))), am_J, am_J] [.int (mI 0)] h := by
  refine (tq_iconst i_X12_byPictures_0 rfl).trans ?_
  refine (tq_iconst i_X12_byPictures_1 rfl).trans ?_
  refine (tq_iload_n i_X12_byPictures_2 rfl rfl).trans ?_
  refine (tq_iconst i_X12_byPictures_3 rfl).trans ?_
  refine (tq_idiv i_X12_byPictures_4 w3 w_4 (by decide) rfl).trans ?_
  refine (tq_imul i_X12_byPictures_5 rfl).trans ?_
  refine (tq_iload_n i_X12_byPictures_6 rfl rfl).trans ?_
  refine (tq_iconst i_X12_byPictures_7 rfl).trans ?_
  refine (tq_idiv i_X12_byPictures_8 w2 w_4 (by decide) rfl).trans ?_
  refine (tq_iadd i_X12_byPictures_9 rfl).trans ?_
  refine (tq_imul i_X12_byPictures_10 rfl).trans ?_
  refine (tq_istore (L' := [am_rv r0, am_rv r1, .int (mI x2), .int (mI x3), .int (mI x4), .ref a5, .int (mI (4 * ((4 * (Int.tdiv x3' 4)) + (Int.tdiv x2' 4)))), am_J, am_J]) i_X12_byPictures_11 rfl rfl).trans ?_
  refine (tq_iload i_X12_byPictures_13 rfl rfl).trans ?_
  refine (tq_iconst i_X12_byPictures_15 rfl).trans ?_
  refine (tq_icmp_ne (pt := 23) i_X12_byPictures_16 w4 w_5 (by decide) rfl).trans ?_
  refine ite_congr rfl (fun c1 => ?_) (fun c1 => ?_)
  · refine (tq_aload_n i_X12_byPictures_23 rfl (isA_rv _) rfl).trans ?_
    refine (tq_iload_n i_X12_byPictures_24 rfl rfl).trans ?_
    refine (tq_iload_n i_X12_byPictures_25 rfl rfl).trans ?_
    refine (tq_aload i_X12_byPictures_26 rfl (isA_ref _) rfl).trans ?_
    refine (tq_iload i_X12_byPictures_28 rfl rfl).trans ?_
    refine (tq_iaload i_X12_byPictures_30 s2 (by decide) rfl (g3 c1).1 (lt_gn n1 (g3 c1).2) rfl).trans ?_
    refine (tq_aload i_X12_byPictures_31 rfl (isA_ref _) rfl).trans ?_
    refine (tq_iload i_X12_byPictures_33 rfl rfl).trans ?_
    refine (tq_iconst i_X12_byPictures_35 rfl).trans ?_
    refine (tq_iadd i_X12_byPictures_36 rfl).trans ?_
    refine (tq_iaload i_X12_byPictures_37 s2 (by decide) rfl (g4 c1).1 (lt_gn n1 (g4 c1).2) rfl).trans ?_
    exact c_X12_byVector i_X12_byPictures_38 (ltd d_X12_byPictures (by decide)) (isA_rv _) stOk_0 rfl
  · refine (tq_iconst i_X12_byPictures_19 rfl).trans ?_
    refine (tq_goto (pc' := 41) i_X12_byPictures_20 (by decide)).trans ?_
    rfl
theorem i_X12_byPictures_41 : am_i m_X12_byPictures 41 = some (41, .istore 7, 2, [], 0) := rfl
theorem i_X12_byPictures_43 : am_i m_X12_byPictures 43 = some (43, .iload 4, 2, [], 0) := rfl
theorem i_X12_byPictures_45 : am_i m_X12_byPictures 45 = some (45, .iconst 4, 1, [], 4) := rfl
theorem i_X12_byPictures_46 : am_i m_X12_byPictures 46 = some (46, .if_icmp .ne 7, 3, [], 0) := rfl
theorem i_X12_byPictures_49 : am_i m_X12_byPictures 49 = some (49, .iconst 0, 1, [], 0) := rfl
theorem i_X12_byPictures_50 : am_i m_X12_byPictures 50 = some (50, .goto 23, 3, [], 0) := rfl
theorem i_X12_byPictures_53 : am_i m_X12_byPictures 53 = some (53, .aload_n 1, 1, [], 0) := rfl
theorem i_X12_byPictures_54 : am_i m_X12_byPictures 54 = some (54, .iload_n 2, 1, [], 0) := rfl
theorem i_X12_byPictures_55 : am_i m_X12_byPictures 55 = some (55, .iload_n 3, 1, [], 0) := rfl
theorem i_X12_byPictures_56 : am_i m_X12_byPictures 56 = some (56, .aload 5, 2, [], 0) := rfl
theorem i_X12_byPictures_58 : am_i m_X12_byPictures 58 = some (58, .iload 6, 2, [], 0) := rfl
theorem i_X12_byPictures_60 : am_i m_X12_byPictures 60 = some (60, .iconst 2, 1, [], 2) := rfl
theorem i_X12_byPictures_61 : am_i m_X12_byPictures 61 = some (61, .iadd, 1, [], 0) := rfl
theorem i_X12_byPictures_62 : am_i m_X12_byPictures 62 = some (62, .iaload, 1, [], 0) := rfl
theorem i_X12_byPictures_63 : am_i m_X12_byPictures 63 = some (63, .aload 5, 2, [], 0) := rfl
theorem i_X12_byPictures_65 : am_i m_X12_byPictures 65 = some (65, .iload 6, 2, [], 0) := rfl
theorem i_X12_byPictures_67 : am_i m_X12_byPictures 67 = some (67, .iconst 3, 1, [], 3) := rfl
theorem i_X12_byPictures_68 : am_i m_X12_byPictures 68 = some (68, .iadd, 1, [], 0) := rfl
theorem i_X12_byPictures_69 : am_i m_X12_byPictures 69 = some (69, .iaload, 1, [], 0) := rfl
theorem i_X12_byPictures_70 : am_i m_X12_byPictures 70 = some (70, .invokestatic 151, 3, [155], 0) := rfl
theorem b_X12_byPictures_41 {v0 v7 v8 : Value} {r1 : Option Nat} {x2 x3 x4 x6 xs0 x4' : Int} {a5 n_a5 : Nat} {h : am_H} (w4 : wr x4 = x4') (n1 : gn h a5 = n_a5) (s2 : sh h a5 = (1, 0)) (g3 : (¬ x4' = 4) → (0 ≤ wr (x6 + 2) ∧ wr (x6 + 2) < (n_a5 : Int))) (g4 : (¬ x4' = 4) → (0 ≤ wr (x6 + 3) ∧ wr (x6 + 3) < (n_a5 : Int))) : rn m_X12_byPictures 41 [v0, am_rv r1, .int (mI x2), .int (mI x3), .int (mI x4), .ref a5, .int (mI x6), v7, v8] [.int (mI xs0)] h = if ¬ x4' = 4 then cl m_X12_byPictures 73 [v0, am_rv r1, .int (mI x2), .int (mI x3), .int (mI x4), .ref a5, .int (mI x6), .int (mI xs0), v8] [] (rn m_X12_byVector 0 [am_rv r1, .int (mI x2), .int (mI x3), .int (mI (gZ h a5 (wr (x6 + 2)))), .int (mI (gZ h a5 (wr (x6 + 3)))), am_J, am_J, am_J, am_J, am_J] [] h) else rn m_X12_byPictures 73 [v0, am_rv r1, .int (mI x2), .int (mI x3), .int (mI x4), .ref a5, .int (mI x6), .int (mI xs0), v8] [.int (mI 0)] h := by
  refine (tq_istore (L' := [v0, am_rv r1, .int (mI x2), .int (mI x3), .int (mI x4), .ref a5, .int (mI x6), .int (mI xs0), v8]) i_X12_byPictures_41 rfl rfl).trans ?_
  refine (tq_iload i_X12_byPictures_43 rfl rfl).trans ?_
  refine (tq_iconst i_X12_byPictures_45 rfl).trans ?_
  refine (tq_icmp_ne (pt := 53) i_X12_byPictures_46 w4 w_4 (by decide) rfl).trans ?_
  refine ite_congr rfl (fun c1 => ?_) (fun c1 => ?_)
  · refine (tq_aload_n i_X12_byPictures_53 rfl (isA_rv _) rfl).trans ?_
    refine (tq_iload_n i_X12_byPictures_54 rfl rfl).trans ?_
    refine (tq_iload_n i_X12_byPictures_55 rfl rfl).trans ?_
    refine (tq_aload i_X12_byPictures_56 rfl (isA_ref _) rfl).trans ?_
    refine (tq_iload i_X12_byPictures_58 rfl rfl).trans ?_
    refine (tq_iconst i_X12_byPictures_60 rfl).trans ?_
    refine (tq_iadd i_X12_byPictures_61 rfl).trans ?_
    refine (tq_iaload i_X12_byPictures_62 s2 (by decide) rfl (g3 c1).1 (lt_gn n1 (g3 c1).2) rfl).trans ?_
    refine (tq_aload i_X12_byPictures_63 rfl (isA_ref _) rfl).trans ?_
    refine (tq_iload i_X12_byPictures_65 rfl rfl).trans ?_
    refine (tq_iconst i_X12_byPictures_67 rfl).trans ?_
    refine (tq_iadd i_X12_byPictures_68 rfl).trans ?_
    refine (tq_iaload i_X12_byPictures_69 s2 (by decide) rfl (g4 c1).1 (lt_gn n1 (g4 c1).2) rfl).trans ?_
    exact c_X12_byVector i_X12_byPictures_70 (ltd d_X12_byPictures (by decide)) (isA_rv _) stOk_0 rfl
  · refine (tq_iconst i_X12_byPictures_49 rfl).trans ?_
    refine (tq_goto (pc' := 73) i_X12_byPictures_50 (by decide)).trans ?_
    rfl
theorem i_X12_byPictures_73 : am_i m_X12_byPictures 73 = some (73, .istore 8, 2, [], 0) := rfl
theorem i_X12_byPictures_75 : am_i m_X12_byPictures 75 = some (75, .iload 4, 2, [], 0) := rfl
theorem i_X12_byPictures_77 : am_i m_X12_byPictures 77 = some (77, .iconst 4, 1, [], 4) := rfl
theorem i_X12_byPictures_78 : am_i m_X12_byPictures 78 = some (78, .if_icmp .ne 8, 3, [], 0) := rfl
theorem i_X12_byPictures_81 : am_i m_X12_byPictures 81 = some (81, .iload 7, 2, [], 0) := rfl
theorem i_X12_byPictures_83 : am_i m_X12_byPictures 83 = some (83, .goto 23, 3, [], 0) := rfl
theorem i_X12_byPictures_86 : am_i m_X12_byPictures 86 = some (86, .iload 4, 2, [], 0) := rfl
theorem i_X12_byPictures_88 : am_i m_X12_byPictures 88 = some (88, .iconst 5, 1, [], 5) := rfl
theorem i_X12_byPictures_89 : am_i m_X12_byPictures 89 = some (89, .if_icmp .ne 8, 3, [], 0) := rfl
theorem i_X12_byPictures_92 : am_i m_X12_byPictures 92 = some (92, .iload 8, 2, [], 0) := rfl
theorem i_X12_byPictures_94 : am_i m_X12_byPictures 94 = some (94, .goto 12, 3, [], 0) := rfl
theorem i_X12_byPictures_97 : am_i m_X12_byPictures 97 = some (97, .iload 7, 2, [], 0) := rfl
theorem i_X12_byPictures_99 : am_i m_X12_byPictures 99 = some (99, .iload 8, 2, [], 0) := rfl
theorem i_X12_byPictures_101 : am_i m_X12_byPictures 101 = some (101, .iadd, 1, [], 0) := rfl
theorem i_X12_byPictures_102 : am_i m_X12_byPictures 102 = some (102, .iconst 1, 1, [], 1) := rfl
theorem i_X12_byPictures_103 : am_i m_X12_byPictures 103 = some (103, .iadd, 1, [], 0) := rfl
theorem i_X12_byPictures_104 : am_i m_X12_byPictures 104 = some (104, .iconst 1, 1, [], 1) := rfl
theorem i_X12_byPictures_105 : am_i m_X12_byPictures 105 = some (105, .ishr, 1, [], 0) := rfl
theorem i_X12_byPictures_106 : am_i m_X12_byPictures 106 = some (106, .ireturn, 1, [], 0) := rfl
theorem b_X12_byPictures_73 {v0 v1 v2 v3 v5 v6 v8 : Value} {x4 x7 xs0 x4' : Int} {h : am_H} (w4 : wr x4 = x4') : rn m_X12_byPictures 73 [v0, v1, v2, v3, .int (mI x4), v5, v6, .int (mI x7), v8] [.int (mI xs0)] h = some (.inl (some (.int (mI (if ¬ x4' = 4 then ((if ¬ x4' = 5 then ((wr ((x7 + xs0) + 1)) / 2 ^ 1 : Int) else xs0) : Int) else x7)))), h) := by
  refine (tq_istore (L' := [v0, v1, v2, v3, .int (mI x4), v5, v6, .int (mI x7), .int (mI xs0)]) i_X12_byPictures_73 rfl rfl).trans ?_
  refine (tq_iload i_X12_byPictures_75 rfl rfl).trans ?_
  refine (tq_iconst i_X12_byPictures_77 rfl).trans ?_
  refine (tq_icmp_ne (pt := 86) i_X12_byPictures_78 w4 w_4 (by decide) rfl).trans ?_
  refine Eq.trans (b := if ¬ x4' = 4 then rn m_X12_byPictures 106 [v0, v1, v2, v3, .int (mI x4), v5, v6, .int (mI x7), .int (mI xs0)] [.int (mI (if ¬ x4' = 5 then ((wr ((x7 + xs0) + 1)) / 2 ^ 1 : Int) else xs0))] h else rn m_X12_byPictures 106 [v0, v1, v2, v3, .int (mI x4), v5, v6, .int (mI x7), .int (mI xs0)] [.int (mI x7)] h) (ite_congr rfl (fun c1 => ?_) (fun c1 => ?_)) ?_
  · refine (tq_iload i_X12_byPictures_86 rfl rfl).trans ?_
    refine (tq_iconst i_X12_byPictures_88 rfl).trans ?_
    refine (tq_icmp_ne (pt := 97) i_X12_byPictures_89 w4 w_5 (by decide) rfl).trans ?_
    refine Eq.trans (b := if ¬ x4' = 5 then rn m_X12_byPictures 106 [v0, v1, v2, v3, .int (mI x4), v5, v6, .int (mI x7), .int (mI xs0)] [.int (mI ((wr ((x7 + xs0) + 1)) / 2 ^ 1))] h else rn m_X12_byPictures 106 [v0, v1, v2, v3, .int (mI x4), v5, v6, .int (mI x7), .int (mI xs0)] [.int (mI xs0)] h) (ite_congr rfl (fun c2 => ?_) (fun c2 => ?_)) ?_
    · refine (tq_iload i_X12_byPictures_97 rfl rfl).trans ?_
      refine (tq_iload i_X12_byPictures_99 rfl rfl).trans ?_
      refine (tq_iadd i_X12_byPictures_101 rfl).trans ?_
      refine (tq_iconst i_X12_byPictures_102 rfl).trans ?_
      refine (tq_iadd i_X12_byPictures_103 rfl).trans ?_
      refine (tq_iconst i_X12_byPictures_104 rfl).trans ?_
      refine (tq_ishr (k := 1) i_X12_byPictures_105 rfl w_1 (by decide) rfl).trans ?_
      rfl
    · refine (tq_iload i_X12_byPictures_92 rfl rfl).trans ?_
      refine (tq_goto (pc' := 106) i_X12_byPictures_94 (by decide)).trans ?_
      rfl
    exact ite_I
  · refine (tq_iload i_X12_byPictures_81 rfl rfl).trans ?_
    refine (tq_goto (pc' := 106) i_X12_byPictures_83 (by decide)).trans ?_
    rfl
  refine Eq.trans ite_I ?_
  exact tq_ireturn i_X12_byPictures_106 r_X12_byPictures rfl
theorem byPictures_ok {h : am_H} {M N V : Nat} {r0 r1 : Option Nat} {f1 f2 : Int → Int} {x y m v1 v2 : Int} (s : sh h V = (1, 0)) (n1 : gn h V = 64) (hx : 0 ≤ x ∧ x < 16) (hy : 0 ≤ y ∧ y < 16) (hm : 4 ≤ m ∧ m ≤ 6) (q1 : m ≠ 5 → picR h M N r0 f1) (q2 : m ≠ 4 → picR h M N r1 f2) (va : vecAt h V (4 * (y / 4) + x / 4) m v1 v2) : rn m_X12_byPictures 0 [am_rv r0, am_rv r1, .int (mI x), .int (mI y), .int (mI m), .ref V, am_J, am_J, am_J] [] h = some (.inl (some (.int (mI (gsK f1 f2 m v1 v2 x y)))), h) := by
  obtain ⟨va1, va2⟩ := va
  have st := b_X12_byPictures_0 (r0 := r0) (r1 := r1) (a5 := V) (n_a5 := 64) (h := h) (wr_id (z := x) (by omega) (by omega)) (wr_id (z := y) (by omega) (by omega)) (wr_id (z := m) (by omega) (by omega)) n1 s
  rw [tdv (x := x) (by omega), tdv (x := y) (by omega), wr_id (z := 4 * (4 * (y / 4) + x / 4)) (by omega) (by omega), wr_id (z := 4 * (4 * (y / 4) + x / 4) + 1) (by omega) (by omega)] at st
  have st := st (fun _ => by omega) (fun _ => by omega)
  have st2 : ∀ u, rn m_X12_byPictures 41 [am_rv r0, am_rv r1, .int (mI x), .int (mI y), .int (mI m), .ref V, .int (mI (4 * (4 * (y / 4) + x / 4))), am_J, am_J] [.int (mI u)] h = _ := fun u => b_X12_byPictures_41 (v0 := am_rv r0) (r1 := r1) (x2 := x) (x3 := y) (a5 := V) (n_a5 := 64) (x6 := 4 * (4 * (y / 4) + x / 4)) (v7 := am_J) (v8 := am_J) (xs0 := u) (h := h) (wr_id (z := m) (by omega) (by omega)) n1 s (fun _ => by rw [wr_id (by omega) (by omega)]; omega) (fun _ => by rw [wr_id (by omega) (by omega)]; omega)
  rw [wr_id (z := 4 * (4 * (y / 4) + x / 4) + 2) (by omega) (by omega), wr_id (z := 4 * (4 * (y / 4) + x / 4) + 3) (by omega) (by omega)] at st2
  have st3 := fun a b (c : List Value) => b_X12_byPictures_73 (v0 := am_rv r0) (v1 := am_rv r1) (v2 := .int (mI x)) (v3 := .int (mI y)) (v5 := .ref V) (v6 := .int (mI (4 * (4 * (y / 4) + x / 4)))) (v8 := am_J) (x7 := a) (xs0 := b) (h := h) (wr_id (z := m) (by omega) (by omega))
  unfold gsK
  have : m = 4 ∨ m = 5 ∨ m = 6 := by omega
  rcases this with rfl | rfl | rfl
  · obtain ⟨F, rfl, -, sF, nF, rfl, pF⟩ := q1 (by decide)
    obtain ⟨e1, e2, o1⟩ := va1 (by decide)
    have vb := vXY_b o1
    rw [if_pos (by decide), e1, e2] at st
    have bv := byVector_ok (x := x) (y := y) (u := vX v1) (v := vY v1) sF nF (by decide) pF ⟨by omega, by omega⟩ ⟨by omega, by omega⟩ ⟨by omega, by omega⟩ ⟨by omega, by omega⟩
    simp only [am_rv] at st st2 st3 ⊢
    rw [bv, cl_v, st2, if_neg (by decide), st3 _ _ []] at st
    rw [st, if_neg (by decide), if_pos (by decide)]
  · obtain ⟨F, rfl, -, sF, nF, rfl, pF⟩ := q2 (by decide)
    obtain ⟨e1, e2, o1⟩ := va2 (by decide)
    have vb := vXY_b o1
    rw [if_neg (by decide), st2, if_pos (by decide), e1, e2] at st
    have bv := byVector_ok (x := x) (y := y) (u := vX v2) (v := vY v2) sF nF (by decide) pF ⟨by omega, by omega⟩ ⟨by omega, by omega⟩ ⟨by omega, by omega⟩ ⟨by omega, by omega⟩
    simp only [am_rv] at st st2 st3 ⊢
    rw [bv, cl_v, st3 _ _ []] at st
    rw [st, if_pos (by decide), if_neg (by decide), if_neg (by decide), if_pos (by decide)]
  · obtain ⟨F, rfl, -, sF, nF, rfl, pF⟩ := q1 (by decide)
    obtain ⟨G, rfl, -, sG, nG, rfl, pG⟩ := q2 (by decide)
    obtain ⟨e1, e2, o1⟩ := va1 (by decide)
    obtain ⟨g1, g2, o2⟩ := va2 (by decide)
    have vb := vXY_b o1
    have vb2 := vXY_b o2
    have h1 := hv_b pF (2 * x + vX v1) (2 * y + vY v1)
    have h2 := hv_b pG (2 * x + vX v2) (2 * y + vY v2)
    rw [if_pos (by decide), e1, e2] at st
    have bv := byVector_ok (u := vX v1) (v := vY v1) sF nF (by decide) pF (x := x) (y := y) ⟨by omega, by omega⟩ ⟨by omega, by omega⟩ ⟨by omega, by omega⟩ ⟨by omega, by omega⟩
    have bv2 := byVector_ok (u := vX v2) (v := vY v2) sG nG (by decide) pG (x := x) (y := y) ⟨by omega, by omega⟩ ⟨by omega, by omega⟩ ⟨by omega, by omega⟩ ⟨by omega, by omega⟩
    simp only [am_rv] at st st2 st3 ⊢
    rw [bv, cl_v, st2, if_pos (by decide), g1, g2, bv2, cl_v, st3 _ _ []] at st
    rw [st, if_pos (by decide), if_pos (by decide), if_neg (by decide), if_neg (by decide), wr_id (by omega) (by omega), pw1]
/-- what stays while the model codes a picture -/
def Mx (h : am_H) (M N : Nat) (c f1 f2 : Int → Int) (kd tl sl q : Int) : Prop := K10 h M ∧ (fA h M 27 = some N ∧ fA h M 30 = some (N + 1) ∧ fA h M 31 = some (N + 2) ∧ fA h M 32 = some (N + 3)) ∧ ((sh h N = (1, 0) ∧ gn h N = 256) ∧ (sh h (N + 1) = (1, 0) ∧ gn h (N + 1) = 16) ∧ (sh h (N + 2) = (1, 0) ∧ gn h (N + 2) = 64) ∧ (sh h (N + 3) = (1, 0) ∧ gn h (N + 3) = 256)) ∧ gZ h (M + 1) = c ∧ (fZ h M 33 = kd ∧ fZ h M 2 = q ∧ fZ h M 3 = tl ∧ fZ h M 4 = sl) ∧ (kd ≠ 105 → picR h M N (fA h M 28) f1) ∧ (kd = 98 → picR h M N (fA h M 29) f2)
def My (M N : Nat) (c : Int → Int) (kd tl sl q : Int) : Prop := M + 22 < N ∧ pixels c ∧ isKind kd ∧ (0 ≤ tl ∧ tl ≤ 7) ∧ (sl = 1 ∨ sl = 2) ∧ (1 ≤ q ∧ q ≤ 40)
def SMo (N : Nat) : Nat → Nat → Prop := fun c _ => N ≤ c
theorem picR_md {h h' : am_H} {M N : Nat} {r : Option Nat} {f : Int → Int} {S : Nat → Nat → Prop} (m : Md S h h') (hS : ∀ c k, c < N → ¬ S c k) (p : picR h M N r f) : picR h' M N r f := by
  obtain ⟨F, e, b, s, n, g, pf⟩ := p
  exact ⟨F, e, b, (md_sh m _).trans s, (md_gn m _).trans n, (md_Z m (hS _ _ b.2)).trans g, pf⟩
theorem Mx_md {h h' : am_H} {M N : Nat} {c f1 f2 : Int → Int} {kd tl sl q : Int} {S : Nat → Nat → Prop} (y : My M N c kd tl sl q) (m : Md S h h') (hS : ∀ c k, c < N → ¬ S c k) (x : Mx h M N c f1 f2 kd tl sl q) : Mx h' M N c f1 f2 kd tl sl q := by
  obtain ⟨y1, -⟩ := y
  obtain ⟨x1, ⟨x2, x3, x4, x5⟩, ⟨⟨u1, u2⟩, ⟨u3, u4⟩, ⟨u5, u6⟩, u7, u8⟩, x6, ⟨x7, x8, x9, x10⟩, x11, x12⟩ := x
  have nM : ∀ k, ¬ S M k := fun k => hS M k (by omega)
  refine ⟨K10_sm m.1 x1, ⟨(md_fA m (nM _)).trans x2, (md_fA m (nM _)).trans x3, (md_fA m (nM _)).trans x4, (md_fA m (nM _)).trans x5⟩, ⟨⟨(md_sh m _).trans u1, (md_gn m _).trans u2⟩, ⟨(md_sh m _).trans u3, (md_gn m _).trans u4⟩, ⟨(md_sh m _).trans u5, (md_gn m _).trans u6⟩, (md_sh m _).trans u7, (md_gn m _).trans u8⟩, (md_Z m (hS _ _ (by omega))).trans x6, ⟨(md_fZ m (nM _)).trans x7, (md_fZ m (nM _)).trans x8, (md_fZ m (nM _)).trans x9, (md_fZ m (nM _)).trans x10⟩, fun e => ?_, fun e => ?_⟩
  · rw [md_fA m (nM _)]; exact picR_md m hS (x11 e)
  · rw [md_fA m (nM _)]; exact picR_md m hS (x12 e)
theorem i_X12_costOf_0 : am_i m_X12_costOf 0 = some (0, .iconst 0, 1, [], 0) := rfl
theorem i_X12_costOf_1 : am_i m_X12_costOf 1 = some (1, .istore 5, 2, [], 0) := rfl
theorem i_X12_costOf_3 : am_i m_X12_costOf 3 = some (3, .iconst 0, 1, [], 0) := rfl
theorem i_X12_costOf_4 : am_i m_X12_costOf 4 = some (4, .istore 6, 2, [], 0) := rfl
theorem b_X12_costOf_0 {a0 : Nat} {x1 x2 x3 x4 : Int} {h : am_H} : rn m_X12_costOf 0 [.ref a0, .int (mI x1), .int (mI x2), .int (mI x3), .int (mI x4), am_J, am_J, am_J, am_J, am_J] [] h = rn m_X12_costOf 6 [.ref a0, .int (mI x1), .int (mI x2), .int (mI x3), .int (mI x4), .int (mI 0), .int (mI 0), am_J, am_J, am_J] [] h := by
  refine (tq_iconst i_X12_costOf_0 rfl).trans ?_
  refine (tq_istore (L' := [.ref a0, .int (mI x1), .int (mI x2), .int (mI x3), .int (mI x4), .int (mI 0), am_J, am_J, am_J, am_J]) i_X12_costOf_1 rfl rfl).trans ?_
  refine (tq_iconst i_X12_costOf_3 rfl).trans ?_
  refine (tq_istore (L' := [.ref a0, .int (mI x1), .int (mI x2), .int (mI x3), .int (mI x4), .int (mI 0), .int (mI 0), am_J, am_J, am_J]) i_X12_costOf_4 rfl rfl).trans ?_
  rfl
theorem i_X12_costOf_6 : am_i m_X12_costOf 6 = some (6, .iload 6, 2, [], 0) := rfl
theorem i_X12_costOf_8 : am_i m_X12_costOf 8 = some (8, .iload_n 3, 1, [], 0) := rfl
theorem i_X12_costOf_9 : am_i m_X12_costOf 9 = some (9, .iload_n 3, 1, [], 0) := rfl
theorem i_X12_costOf_10 : am_i m_X12_costOf 10 = some (10, .imul, 1, [], 0) := rfl
theorem i_X12_costOf_11 : am_i m_X12_costOf 11 = some (11, .if_icmp .ge 99, 3, [], 0) := rfl
theorem i_X12_costOf_14 : am_i m_X12_costOf 14 = some (14, .iload_n 1, 1, [], 0) := rfl
theorem i_X12_costOf_15 : am_i m_X12_costOf 15 = some (15, .iload 6, 2, [], 0) := rfl
theorem i_X12_costOf_17 : am_i m_X12_costOf 17 = some (17, .iload_n 3, 1, [], 0) := rfl
theorem i_X12_costOf_18 : am_i m_X12_costOf 18 = some (18, .irem, 1, [], 0) := rfl
theorem i_X12_costOf_19 : am_i m_X12_costOf 19 = some (19, .iadd, 1, [], 0) := rfl
theorem i_X12_costOf_20 : am_i m_X12_costOf 20 = some (20, .istore 7, 2, [], 0) := rfl
theorem i_X12_costOf_22 : am_i m_X12_costOf 22 = some (22, .iload_n 2, 1, [], 0) := rfl
theorem i_X12_costOf_23 : am_i m_X12_costOf 23 = some (23, .iload 6, 2, [], 0) := rfl
theorem i_X12_costOf_25 : am_i m_X12_costOf 25 = some (25, .iload_n 3, 1, [], 0) := rfl
theorem i_X12_costOf_26 : am_i m_X12_costOf 26 = some (26, .idiv, 1, [], 0) := rfl
theorem i_X12_costOf_27 : am_i m_X12_costOf 27 = some (27, .iadd, 1, [], 0) := rfl
theorem i_X12_costOf_28 : am_i m_X12_costOf 28 = some (28, .istore 8, 2, [], 0) := rfl
theorem i_X12_costOf_30 : am_i m_X12_costOf 30 = some (30, .iload 4, 2, [], 0) := rfl
theorem i_X12_costOf_32 : am_i m_X12_costOf 32 = some (32, .iconst 4, 1, [], 4) := rfl
theorem i_X12_costOf_33 : am_i m_X12_costOf 33 = some (33, .if_icmp .ge 24, 3, [], 0) := rfl
theorem i_X12_costOf_36 : am_i m_X12_costOf 36 = some (36, .aload_n 0, 1, [], 0) := rfl
theorem i_X12_costOf_37 : am_i m_X12_costOf 37 = some (37, .getfield 155, 3, [10, 27, 0], 0) := rfl
theorem i_X12_costOf_40 : am_i m_X12_costOf 40 = some (40, .iload 7, 2, [], 0) := rfl
theorem i_X12_costOf_42 : am_i m_X12_costOf 42 = some (42, .iload 8, 2, [], 0) := rfl
theorem i_X12_costOf_44 : am_i m_X12_costOf 44 = some (44, .iload_n 3, 1, [], 0) := rfl
theorem i_X12_costOf_45 : am_i m_X12_costOf 45 = some (45, .iload 4, 2, [], 0) := rfl
theorem i_X12_costOf_47 : am_i m_X12_costOf 47 = some (47, .aload_n 0, 1, [], 0) := rfl
theorem i_X12_costOf_48 : am_i m_X12_costOf 48 = some (48, .getfield 29, 3, [10, 4, 0], 0) := rfl
theorem i_X12_costOf_51 : am_i m_X12_costOf 51 = some (51, .invokestatic 158, 3, [127], 0) := rfl
theorem i_X12_costOf_57 : am_i m_X12_costOf 57 = some (57, .aload_n 0, 1, [], 0) := rfl
theorem i_X12_costOf_58 : am_i m_X12_costOf 58 = some (58, .getfield 162, 3, [10, 28, 0], 0) := rfl
theorem i_X12_costOf_61 : am_i m_X12_costOf 61 = some (61, .aload_n 0, 1, [], 0) := rfl
theorem i_X12_costOf_62 : am_i m_X12_costOf 62 = some (62, .getfield 165, 3, [10, 29, 0], 0) := rfl
theorem i_X12_costOf_65 : am_i m_X12_costOf 65 = some (65, .iload 7, 2, [], 0) := rfl
theorem i_X12_costOf_67 : am_i m_X12_costOf 67 = some (67, .iload 8, 2, [], 0) := rfl
theorem i_X12_costOf_69 : am_i m_X12_costOf 69 = some (69, .iload 4, 2, [], 0) := rfl
theorem i_X12_costOf_71 : am_i m_X12_costOf 71 = some (71, .aload_n 0, 1, [], 0) := rfl
theorem i_X12_costOf_72 : am_i m_X12_costOf 72 = some (72, .getfield 168, 3, [10, 31, 0], 0) := rfl
theorem i_X12_costOf_75 : am_i m_X12_costOf 75 = some (75, .invokestatic 171, 3, [173], 0) := rfl
theorem i_X12_costOf_110 : am_i m_X12_costOf 110 = some (110, .iconst 4, 1, [], 4) := rfl
theorem i_X12_costOf_111 : am_i m_X12_costOf 111 = some (111, .iconst 4, 1, [], 4) := rfl
theorem i_X12_costOf_112 : am_i m_X12_costOf 112 = some (112, .iload_n 2, 1, [], 0) := rfl
theorem i_X12_costOf_113 : am_i m_X12_costOf 113 = some (113, .iconst 4, 1, [], 4) := rfl
theorem i_X12_costOf_114 : am_i m_X12_costOf 114 = some (114, .idiv, 1, [], 0) := rfl
theorem i_X12_costOf_115 : am_i m_X12_costOf 115 = some (115, .imul, 1, [], 0) := rfl
theorem i_X12_costOf_116 : am_i m_X12_costOf 116 = some (116, .iload_n 1, 1, [], 0) := rfl
theorem i_X12_costOf_117 : am_i m_X12_costOf 117 = some (117, .iconst 4, 1, [], 4) := rfl
theorem i_X12_costOf_118 : am_i m_X12_costOf 118 = some (118, .idiv, 1, [], 0) := rfl
theorem i_X12_costOf_119 : am_i m_X12_costOf 119 = some (119, .iadd, 1, [], 0) := rfl
theorem i_X12_costOf_120 : am_i m_X12_costOf 120 = some (120, .imul, 1, [], 0) := rfl
theorem i_X12_costOf_121 : am_i m_X12_costOf 121 = some (121, .istore 6, 2, [], 0) := rfl
theorem i_X12_costOf_123 : am_i m_X12_costOf 123 = some (123, .aload_n 0, 1, [], 0) := rfl
theorem i_X12_costOf_124 : am_i m_X12_costOf 124 = some (124, .getfield 168, 3, [10, 31, 0], 0) := rfl
theorem i_X12_costOf_127 : am_i m_X12_costOf 127 = some (127, .iload 6, 2, [], 0) := rfl
theorem i_X12_costOf_129 : am_i m_X12_costOf 129 = some (129, .iaload, 1, [], 0) := rfl
theorem i_X12_costOf_130 : am_i m_X12_costOf 130 = some (130, .invokestatic 175, 3, [0, 0], 0) := rfl
theorem i_X12_costOf_133 : am_i m_X12_costOf 133 = some (133, .aload_n 0, 1, [], 0) := rfl
theorem i_X12_costOf_134 : am_i m_X12_costOf 134 = some (134, .getfield 168, 3, [10, 31, 0], 0) := rfl
theorem i_X12_costOf_137 : am_i m_X12_costOf 137 = some (137, .iload 6, 2, [], 0) := rfl
theorem i_X12_costOf_139 : am_i m_X12_costOf 139 = some (139, .iconst 1, 1, [], 1) := rfl
theorem i_X12_costOf_140 : am_i m_X12_costOf 140 = some (140, .iadd, 1, [], 0) := rfl
theorem i_X12_costOf_141 : am_i m_X12_costOf 141 = some (141, .iaload, 1, [], 0) := rfl
theorem i_X12_costOf_142 : am_i m_X12_costOf 142 = some (142, .invokestatic 175, 3, [0, 0], 0) := rfl
theorem i_X12_costOf_145 : am_i m_X12_costOf 145 = some (145, .iadd, 1, [], 0) := rfl
theorem i_X12_costOf_146 : am_i m_X12_costOf 146 = some (146, .istore 7, 2, [], 0) := rfl
theorem i_X12_costOf_148 : am_i m_X12_costOf 148 = some (148, .aload_n 0, 1, [], 0) := rfl
theorem i_X12_costOf_149 : am_i m_X12_costOf 149 = some (149, .getfield 168, 3, [10, 31, 0], 0) := rfl
theorem i_X12_costOf_152 : am_i m_X12_costOf 152 = some (152, .iload 6, 2, [], 0) := rfl
theorem i_X12_costOf_154 : am_i m_X12_costOf 154 = some (154, .iconst 2, 1, [], 2) := rfl
theorem i_X12_costOf_155 : am_i m_X12_costOf 155 = some (155, .iadd, 1, [], 0) := rfl
theorem i_X12_costOf_156 : am_i m_X12_costOf 156 = some (156, .iaload, 1, [], 0) := rfl
theorem i_X12_costOf_157 : am_i m_X12_costOf 157 = some (157, .invokestatic 175, 3, [0, 0], 0) := rfl
theorem i_X12_costOf_160 : am_i m_X12_costOf 160 = some (160, .aload_n 0, 1, [], 0) := rfl
theorem i_X12_costOf_161 : am_i m_X12_costOf 161 = some (161, .getfield 168, 3, [10, 31, 0], 0) := rfl
theorem i_X12_costOf_164 : am_i m_X12_costOf 164 = some (164, .iload 6, 2, [], 0) := rfl
theorem i_X12_costOf_166 : am_i m_X12_costOf 166 = some (166, .iconst 3, 1, [], 3) := rfl
theorem i_X12_costOf_167 : am_i m_X12_costOf 167 = some (167, .iadd, 1, [], 0) := rfl
theorem i_X12_costOf_168 : am_i m_X12_costOf 168 = some (168, .iaload, 1, [], 0) := rfl
theorem i_X12_costOf_169 : am_i m_X12_costOf 169 = some (169, .invokestatic 175, 3, [0, 0], 0) := rfl
theorem i_X12_costOf_172 : am_i m_X12_costOf 172 = some (172, .iadd, 1, [], 0) := rfl
theorem i_X12_costOf_173 : am_i m_X12_costOf 173 = some (173, .istore 8, 2, [], 0) := rfl
theorem i_X12_costOf_175 : am_i m_X12_costOf 175 = some (175, .iload 5, 2, [], 0) := rfl
theorem i_X12_costOf_177 : am_i m_X12_costOf 177 = some (177, .iload 4, 2, [], 0) := rfl
theorem i_X12_costOf_179 : am_i m_X12_costOf 179 = some (179, .iconst 4, 1, [], 4) := rfl
theorem i_X12_costOf_180 : am_i m_X12_costOf 180 = some (180, .if_icmp .ge 10, 3, [], 0) := rfl
theorem i_X12_costOf_183 : am_i m_X12_costOf 183 = some (183, .iconst 2, 1, [], 2) := rfl
theorem i_X12_costOf_184 : am_i m_X12_costOf 184 = some (184, .iload 4, 2, [], 0) := rfl
theorem i_X12_costOf_186 : am_i m_X12_costOf 186 = some (186, .imul, 1, [], 0) := rfl
theorem i_X12_costOf_187 : am_i m_X12_costOf 187 = some (187, .goto 30, 3, [], 0) := rfl
theorem i_X12_costOf_190 : am_i m_X12_costOf 190 = some (190, .iload 4, 2, [], 0) := rfl
theorem i_X12_costOf_192 : am_i m_X12_costOf 192 = some (192, .iconst 4, 1, [], 4) := rfl
theorem i_X12_costOf_193 : am_i m_X12_costOf 193 = some (193, .if_icmp .ne 8, 3, [], 0) := rfl
theorem i_X12_costOf_196 : am_i m_X12_costOf 196 = some (196, .iload 7, 2, [], 0) := rfl
theorem i_X12_costOf_198 : am_i m_X12_costOf 198 = some (198, .goto 19, 3, [], 0) := rfl
theorem i_X12_costOf_201 : am_i m_X12_costOf 201 = some (201, .iload 4, 2, [], 0) := rfl
theorem i_X12_costOf_203 : am_i m_X12_costOf 203 = some (203, .iconst 5, 1, [], 5) := rfl
theorem i_X12_costOf_204 : am_i m_X12_costOf 204 = some (204, .if_icmp .ne 8, 3, [], 0) := rfl
theorem i_X12_costOf_207 : am_i m_X12_costOf 207 = some (207, .iload 8, 2, [], 0) := rfl
theorem i_X12_costOf_209 : am_i m_X12_costOf 209 = some (209, .goto 8, 3, [], 0) := rfl
theorem i_X12_costOf_212 : am_i m_X12_costOf 212 = some (212, .iload 7, 2, [], 0) := rfl
theorem i_X12_costOf_214 : am_i m_X12_costOf 214 = some (214, .iload 8, 2, [], 0) := rfl
theorem i_X12_costOf_216 : am_i m_X12_costOf 216 = some (216, .iadd, 1, [], 0) := rfl
theorem i_X12_costOf_217 : am_i m_X12_costOf 217 = some (217, .iadd, 1, [], 0) := rfl
theorem i_X12_costOf_218 : am_i m_X12_costOf 218 = some (218, .ireturn, 1, [], 0) := rfl
theorem b_X12_costOf_6 {a0 a0_vector n_a0_vector a0_now : Nat} {x1 x2 x3 x4 x5 x6 x1' x2' x3' x4' x6' : Int} {v7 v8 v9 : Value} {h : am_H} (w1 : wr x1 = x1') (w2 : wr x2 = x2') (w3 : wr x3 = x3') (w4 : wr x4 = x4') (w6 : wr x6 = x6') (k1 : K10 h a0) (e2 : fA h a0 31 = some a0_vector) (n3 : gn h a0_vector = n_a0_vector) (s4 : sh h a0_vector = (1, 0)) (g5 : ((wr (x3 * x3)) ≤ x6') → (0 ≤ wr (4 * ((4 * (Int.tdiv x2' 4)) + (Int.tdiv x1' 4))) ∧ wr (4 * ((4 * (Int.tdiv x2' 4)) + (Int.tdiv x1' 4))) < (n_a0_vector : Int))) (g6 : ((wr (x3 * x3)) ≤ x6') → (0 ≤ wr ((4 * ((4 * (Int.tdiv x2' 4)) + (Int.tdiv x1' 4))) + 1) ∧ wr ((4 * ((4 * (Int.tdiv x2' 4)) + (Int.tdiv x1' 4))) + 1) < (n_a0_vector : Int))) (g7 : ((wr (x3 * x3)) ≤ x6') → (0 ≤ wr ((4 * ((4 * (Int.tdiv x2' 4)) + (Int.tdiv x1' 4))) + 2) ∧ wr ((4 * ((4 * (Int.tdiv x2' 4)) + (Int.tdiv x1' 4))) + 2) < (n_a0_vector : Int))) (g8 : ((wr (x3 * x3)) ≤ x6') → (0 ≤ wr ((4 * ((4 * (Int.tdiv x2' 4)) + (Int.tdiv x1' 4))) + 3) ∧ wr ((4 * ((4 * (Int.tdiv x2' 4)) + (Int.tdiv x1' 4))) + 3) < (n_a0_vector : Int))) (g9 : (¬ ((wr (x3 * x3)) ≤ x6')) → (x3' ≠ 0)) (e10 : fA h a0 27 = some a0_now) : rn m_X12_costOf 6 [.ref a0, .int (mI x1), .int (mI x2), .int (mI x3), .int (mI x4), .int (mI x5), .int (mI x6), v7, v8, v9] [] h = if (wr (x3 * x3)) ≤ x6' then some (.inl (some (.int (mI (x5 + (if 4 ≤ x4' then ((if ¬ x4' = 4 then ((if ¬ x4' = 5 then (((max (gZ h a0_vector (wr (4 * ((4 * (Int.tdiv x2' 4)) + (Int.tdiv x1' 4))))) (-(gZ h a0_vector (wr (4 * ((4 * (Int.tdiv x2' 4)) + (Int.tdiv x1' 4))))))) + (max (gZ h a0_vector (wr ((4 * ((4 * (Int.tdiv x2' 4)) + (Int.tdiv x1' 4))) + 1))) (-(gZ h a0_vector (wr ((4 * ((4 * (Int.tdiv x2' 4)) + (Int.tdiv x1' 4))) + 1)))))) + ((max (gZ h a0_vector (wr ((4 * ((4 * (Int.tdiv x2' 4)) + (Int.tdiv x1' 4))) + 2))) (-(gZ h a0_vector (wr ((4 * ((4 * (Int.tdiv x2' 4)) + (Int.tdiv x1' 4))) + 2))))) + (max (gZ h a0_vector (wr ((4 * ((4 * (Int.tdiv x2' 4)) + (Int.tdiv x1' 4))) + 3))) (-(gZ h a0_vector (wr ((4 * ((4 * (Int.tdiv x2' 4)) + (Int.tdiv x1' 4))) + 3)))))) : Int) else (max (gZ h a0_vector (wr ((4 * ((4 * (Int.tdiv x2' 4)) + (Int.tdiv x1' 4))) + 2))) (-(gZ h a0_vector (wr ((4 * ((4 * (Int.tdiv x2' 4)) + (Int.tdiv x1' 4))) + 2))))) + (max (gZ h a0_vector (wr ((4 * ((4 * (Int.tdiv x2' 4)) + (Int.tdiv x1' 4))) + 3))) (-(gZ h a0_vector (wr ((4 * ((4 * (Int.tdiv x2' 4)) + (Int.tdiv x1' 4))) + 3)))))) : Int) else (max (gZ h a0_vector (wr (4 * ((4 * (Int.tdiv x2' 4)) + (Int.tdiv x1' 4))))) (-(gZ h a0_vector (wr (4 * ((4 * (Int.tdiv x2' 4)) + (Int.tdiv x1' 4))))))) + (max (gZ h a0_vector (wr ((4 * ((4 * (Int.tdiv x2' 4)) + (Int.tdiv x1' 4))) + 1))) (-(gZ h a0_vector (wr ((4 * ((4 * (Int.tdiv x2' 4)) + (Int.tdiv x1' 4))) + 1)))))) : Int) else 2 * x4))))), h) else if 4 ≤ x4' then cl m_X12_costOf 78 [.ref a0, .int (mI x1), .int (mI x2), .int (mI x3), .int (mI x4), .int (mI x5), .int (mI x6), .int (mI (x1 + (Int.tmod x6' x3'))), .int (mI (x2 + (Int.tdiv x6' x3'))), v9] [] (rn m_X12_byPictures 0 [am_rv (fA h a0 28), am_rv (fA h a0 29), .int (mI (x1 + (Int.tmod x6' x3'))), .int (mI (x2 + (Int.tdiv x6' x3'))), .int (mI x4), .ref a0_vector, am_J, am_J, am_J] [] h) else cl m_X12_costOf 54 [.ref a0, .int (mI x1), .int (mI x2), .int (mI x3), .int (mI x4), .int (mI x5), .int (mI x6), .int (mI (x1 + (Int.tmod x6' x3'))), .int (mI (x2 + (Int.tdiv x6' x3'))), v9] [] (rn m_X12_byBorder 0 [.ref a0_now, .int (mI (x1 + (Int.tmod x6' x3'))), .int (mI (x2 + (Int.tdiv x6' x3'))), .int (mI x3), .int (mI x4), .int (mI (fZ h a0 4)), am_J, am_J, am_J, am_J, am_J, am_J, am_J] [] h) := by
  refine (tq_iload i_X12_costOf_6 rfl rfl).trans ?_
  refine (tq_iload_n i_X12_costOf_8 rfl rfl).trans ?_
  refine (tq_iload_n i_X12_costOf_9 rfl rfl).trans ?_
  refine (tq_imul i_X12_costOf_10 rfl).trans ?_
  refine (tq_icmp_ge (pt := 110) i_X12_costOf_11 w6 rfl (by decide) rfl).trans ?_
  refine ite_congr rfl (fun c1 => ?_) (fun c1 => ?_)
  · refine (tq_iconst i_X12_costOf_110 rfl).trans ?_
    refine (tq_iconst i_X12_costOf_111 rfl).trans ?_
    refine (tq_iload_n i_X12_costOf_112 rfl rfl).trans ?_
    refine (tq_iconst i_X12_costOf_113 rfl).trans ?_
    refine (tq_idiv i_X12_costOf_114 w2 w_4 (by decide) rfl).trans ?_
    refine (tq_imul i_X12_costOf_115 rfl).trans ?_
    refine (tq_iload_n i_X12_costOf_116 rfl rfl).trans ?_
    refine (tq_iconst i_X12_costOf_117 rfl).trans ?_
    refine (tq_idiv i_X12_costOf_118 w1 w_4 (by decide) rfl).trans ?_
    refine (tq_iadd i_X12_costOf_119 rfl).trans ?_
    refine (tq_imul i_X12_costOf_120 rfl).trans ?_
    refine (tq_istore (L' := [.ref a0, .int (mI x1), .int (mI x2), .int (mI x3), .int (mI x4), .int (mI x5), .int (mI (4 * ((4 * (Int.tdiv x2' 4)) + (Int.tdiv x1' 4)))), v7, v8, v9]) i_X12_costOf_121 rfl rfl).trans ?_
    refine (tq_aload_n i_X12_costOf_123 rfl (isA_ref _) rfl).trans ?_
    refine (tq_getfield i_X12_costOf_124 (K10_s k1) (gR (g_10_31 (K10_s k1)) e2) (isV_ref _) rfl).trans ?_
    refine (tq_iload i_X12_costOf_127 rfl rfl).trans ?_
    refine (tq_iaload i_X12_costOf_129 s4 (by decide) rfl (g5 c1).1 (lt_gn n3 (g5 c1).2) rfl).trans ?_
    refine (tq_abs i_X12_costOf_130 (wr_gZ _ _ _) (Nat.le_of_ble_eq_true rfl) rfl).trans ?_
    refine (tq_aload_n i_X12_costOf_133 rfl (isA_ref _) rfl).trans ?_
    refine (tq_getfield i_X12_costOf_134 (K10_s k1) (gR (g_10_31 (K10_s k1)) e2) (isV_ref _) rfl).trans ?_
    refine (tq_iload i_X12_costOf_137 rfl rfl).trans ?_
    refine (tq_iconst i_X12_costOf_139 rfl).trans ?_
    refine (tq_iadd i_X12_costOf_140 rfl).trans ?_
    refine (tq_iaload i_X12_costOf_141 s4 (by decide) rfl (g6 c1).1 (lt_gn n3 (g6 c1).2) rfl).trans ?_
    refine (tq_abs i_X12_costOf_142 (wr_gZ _ _ _) (Nat.le_of_ble_eq_true rfl) rfl).trans ?_
    refine (tq_iadd i_X12_costOf_145 rfl).trans ?_
    refine (tq_istore (L' := [.ref a0, .int (mI x1), .int (mI x2), .int (mI x3), .int (mI x4), .int (mI x5), .int (mI (4 * ((4 * (Int.tdiv x2' 4)) + (Int.tdiv x1' 4)))), .int (mI ((max (gZ h a0_vector (wr (4 * ((4 * (Int.tdiv x2' 4)) + (Int.tdiv x1' 4))))) (-(gZ h a0_vector (wr (4 * ((4 * (Int.tdiv x2' 4)) + (Int.tdiv x1' 4))))))) + (max (gZ h a0_vector (wr ((4 * ((4 * (Int.tdiv x2' 4)) + (Int.tdiv x1' 4))) + 1))) (-(gZ h a0_vector (wr ((4 * ((4 * (Int.tdiv x2' 4)) + (Int.tdiv x1' 4))) + 1))))))), v8, v9]) i_X12_costOf_146 rfl rfl).trans ?_
    refine (tq_aload_n i_X12_costOf_148 rfl (isA_ref _) rfl).trans ?_
    refine (tq_getfield i_X12_costOf_149 (K10_s k1) (gR (g_10_31 (K10_s k1)) e2) (isV_ref _) rfl).trans ?_
    refine (tq_iload i_X12_costOf_152 rfl rfl).trans ?_
    refine (tq_iconst i_X12_costOf_154 rfl).trans ?_
    refine (tq_iadd i_X12_costOf_155 rfl).trans ?_
    refine (tq_iaload i_X12_costOf_156 s4 (by decide) rfl (g7 c1).1 (lt_gn n3 (g7 c1).2) rfl).trans ?_
    refine (tq_abs i_X12_costOf_157 (wr_gZ _ _ _) (Nat.le_of_ble_eq_true rfl) rfl).trans ?_
    refine (tq_aload_n i_X12_costOf_160 rfl (isA_ref _) rfl).trans ?_
    refine (tq_getfield i_X12_costOf_161 (K10_s k1) (gR (g_10_31 (K10_s k1)) e2) (isV_ref _) rfl).trans ?_
    refine (tq_iload i_X12_costOf_164 rfl rfl).trans ?_
    refine (tq_iconst i_X12_costOf_166 rfl).trans ?_
    refine (tq_iadd i_X12_costOf_167 rfl).trans ?_
    refine (tq_iaload i_X12_costOf_168 s4 (by decide) rfl (g8 c1).1 (lt_gn n3 (g8 c1).2) rfl).trans ?_
    refine (tq_abs i_X12_costOf_169 (wr_gZ _ _ _) (Nat.le_of_ble_eq_true rfl) rfl).trans ?_
    refine (tq_iadd i_X12_costOf_172 rfl).trans ?_
    refine (tq_istore (L' := [.ref a0, .int (mI x1), .int (mI x2), .int (mI x3), .int (mI x4), .int (mI x5), .int (mI (4 * ((4 * (Int.tdiv x2' 4)) + (Int.tdiv x1' 4)))), .int (mI ((max (gZ h a0_vector (wr (4 * ((4 * (Int.tdiv x2' 4)) + (Int.tdiv x1' 4))))) (-(gZ h a0_vector (wr (4 * ((4 * (Int.tdiv x2' 4)) + (Int.tdiv x1' 4))))))) + (max (gZ h a0_vector (wr ((4 * ((4 * (Int.tdiv x2' 4)) + (Int.tdiv x1' 4))) + 1))) (-(gZ h a0_vector (wr ((4 * ((4 * (Int.tdiv x2' 4)) + (Int.tdiv x1' 4))) + 1))))))), .int (mI ((max (gZ h a0_vector (wr ((4 * ((4 * (Int.tdiv x2' 4)) + (Int.tdiv x1' 4))) + 2))) (-(gZ h a0_vector (wr ((4 * ((4 * (Int.tdiv x2' 4)) + (Int.tdiv x1' 4))) + 2))))) + (max (gZ h a0_vector (wr ((4 * ((4 * (Int.tdiv x2' 4)) + (Int.tdiv x1' 4))) + 3))) (-(gZ h a0_vector (wr ((4 * ((4 * (Int.tdiv x2' 4)) + (Int.tdiv x1' 4))) + 3))))))), v9]) i_X12_costOf_173 rfl rfl).trans ?_
    refine (tq_iload i_X12_costOf_175 rfl rfl).trans ?_
    refine (tq_iload i_X12_costOf_177 rfl rfl).trans ?_
    refine (tq_iconst i_X12_costOf_179 rfl).trans ?_
    refine (tq_icmp_ge (pt := 190) i_X12_costOf_180 w4 w_4 (by decide) rfl).trans ?_
    refine Eq.trans (b := if 4 ≤ x4' then rn m_X12_costOf 217 [.ref a0, .int (mI x1), .int (mI x2), .int (mI x3), .int (mI x4), .int (mI x5), .int (mI (4 * ((4 * (Int.tdiv x2' 4)) + (Int.tdiv x1' 4)))), .int (mI ((max (gZ h a0_vector (wr (4 * ((4 * (Int.tdiv x2' 4)) + (Int.tdiv x1' 4))))) (-(gZ h a0_vector (wr (4 * ((4 * (Int.tdiv x2' 4)) + (Int.tdiv x1' 4))))))) + (max (gZ h a0_vector (wr ((4 * ((4 * (Int.tdiv x2' 4)) + (Int.tdiv x1' 4))) + 1))) (-(gZ h a0_vector (wr ((4 * ((4 * (Int.tdiv x2' 4)) + (Int.tdiv x1' 4))) + 1))))))), .int (mI ((max (gZ h a0_vector (wr ((4 * ((4 * (Int.tdiv x2' 4)) + (Int.tdiv x1' 4))) + 2))) (-(gZ h a0_vector (wr ((4 * ((4 * (Int.tdiv x2' 4)) + (Int.tdiv x1' 4))) + 2))))) + (max (gZ h a0_vector (wr ((4 * ((4 * (Int.tdiv x2' 4)) + (Int.tdiv x1' 4))) + 3))) (-(gZ h a0_vector (wr ((4 * ((4 * (Int.tdiv x2' 4)) + (Int.tdiv x1' 4))) + 3))))))), v9] [.int (mI (if ¬ x4' = 4 then ((if ¬ x4' = 5 then (((max (gZ h a0_vector (wr (4 * ((4 * (Int.tdiv x2' 4)) + (Int.tdiv x1' 4))))) (-(gZ h a0_vector (wr (4 * ((4 * (Int.tdiv x2' 4)) + (Int.tdiv x1' 4))))))) + (max (gZ h a0_vector (wr ((4 * ((4 * (Int.tdiv x2' 4)) + (Int.tdiv x1' 4))) + 1))) (-(gZ h a0_vector (wr ((4 * ((4 * (Int.tdiv x2' 4)) + (Int.tdiv x1' 4))) + 1)))))) + ((max (gZ h a0_vector (wr ((4 * ((4 * (Int.tdiv x2' 4)) + (Int.tdiv x1' 4))) + 2))) (-(gZ h a0_vector (wr ((4 * ((4 * (Int.tdiv x2' 4)) + (Int.tdiv x1' 4))) + 2))))) + (max (gZ h a0_vector (wr ((4 * ((4 * (Int.tdiv x2' 4)) + (Int.tdiv x1' 4))) + 3))) (-(gZ h a0_vector (wr ((4 * ((4 * (Int.tdiv x2' 4)) + (Int.tdiv x1' 4))) + 3)))))) : Int) else (max (gZ h a0_vector (wr ((4 * ((4 * (Int.tdiv x2' 4)) + (Int.tdiv x1' 4))) + 2))) (-(gZ h a0_vector (wr ((4 * ((4 * (Int.tdiv x2' 4)) + (Int.tdiv x1' 4))) + 2))))) + (max (gZ h a0_vector (wr ((4 * ((4 * (Int.tdiv x2' 4)) + (Int.tdiv x1' 4))) + 3))) (-(gZ h a0_vector (wr ((4 * ((4 * (Int.tdiv x2' 4)) + (Int.tdiv x1' 4))) + 3)))))) : Int) else (max (gZ h a0_vector (wr (4 * ((4 * (Int.tdiv x2' 4)) + (Int.tdiv x1' 4))))) (-(gZ h a0_vector (wr (4 * ((4 * (Int.tdiv x2' 4)) + (Int.tdiv x1' 4))))))) + (max (gZ h a0_vector (wr ((4 * ((4 * (Int.tdiv x2' 4)) + (Int.tdiv x1' 4))) + 1))) (-(gZ h a0_vector (wr ((4 * ((4 * (Int.tdiv x2' 4)) + (Int.tdiv x1' 4))) + 1))))))), .int (mI x5)] h else rn m_X12_costOf 217 [.ref a0, .int (mI x1), .int (mI x2), .int (mI x3), .int (mI x4), .int (mI x5), .int (mI (4 * ((4 * (Int.tdiv x2' 4)) + (Int.tdiv x1' 4)))), .int (mI ((max (gZ h a0_vector (wr (4 * ((4 * (Int.tdiv x2' 4)) + (Int.tdiv x1' 4))))) (-(gZ h a0_vector (wr (4 * ((4 * (Int.tdiv x2' 4)) + (Int.tdiv x1' 4))))))) + (max (gZ h a0_vector (wr ((4 * ((4 * (Int.tdiv x2' 4)) + (Int.tdiv x1' 4))) + 1))) (-(gZ h a0_vector (wr ((4 * ((4 * (Int.tdiv x2' 4)) + (Int.tdiv x1' 4))) + 1))))))), .int (mI ((max (gZ h a0_vector (wr ((4 * ((4 * (Int.tdiv x2' 4)) + (Int.tdiv x1' 4))) + 2))) (-(gZ h a0_vector (wr ((4 * ((4 * (Int.tdiv x2' 4)) + (Int.tdiv x1' 4))) + 2))))) + (max (gZ h a0_vector (wr ((4 * ((4 * (Int.tdiv x2' 4)) + (Int.tdiv x1' 4))) + 3))) (-(gZ h a0_vector (wr ((4 * ((4 * (Int.tdiv x2' 4)) + (Int.tdiv x1' 4))) + 3))))))), v9] [.int (mI (2 * x4)), .int (mI x5)] h) (ite_congr rfl (fun c2 => ?_) (fun c2 => ?_)) ?_
    · refine (tq_iload i_X12_costOf_190 rfl rfl).trans ?_
      refine (tq_iconst i_X12_costOf_192 rfl).trans ?_
      refine (tq_icmp_ne (pt := 201) i_X12_costOf_193 w4 w_4 (by decide) rfl).trans ?_
      refine Eq.trans (b := if ¬ x4' = 4 then rn m_X12_costOf 217 [.ref a0, .int (mI x1), .int (mI x2), .int (mI x3), .int (mI x4), .int (mI x5), .int (mI (4 * ((4 * (Int.tdiv x2' 4)) + (Int.tdiv x1' 4)))), .int (mI ((max (gZ h a0_vector (wr (4 * ((4 * (Int.tdiv x2' 4)) + (Int.tdiv x1' 4))))) (-(gZ h a0_vector (wr (4 * ((4 * (Int.tdiv x2' 4)) + (Int.tdiv x1' 4))))))) + (max (gZ h a0_vector (wr ((4 * ((4 * (Int.tdiv x2' 4)) + (Int.tdiv x1' 4))) + 1))) (-(gZ h a0_vector (wr ((4 * ((4 * (Int.tdiv x2' 4)) + (Int.tdiv x1' 4))) + 1))))))), .int (mI ((max (gZ h a0_vector (wr ((4 * ((4 * (Int.tdiv x2' 4)) + (Int.tdiv x1' 4))) + 2))) (-(gZ h a0_vector (wr ((4 * ((4 * (Int.tdiv x2' 4)) + (Int.tdiv x1' 4))) + 2))))) + (max (gZ h a0_vector (wr ((4 * ((4 * (Int.tdiv x2' 4)) + (Int.tdiv x1' 4))) + 3))) (-(gZ h a0_vector (wr ((4 * ((4 * (Int.tdiv x2' 4)) + (Int.tdiv x1' 4))) + 3))))))), v9] [.int (mI (if ¬ x4' = 5 then (((max (gZ h a0_vector (wr (4 * ((4 * (Int.tdiv x2' 4)) + (Int.tdiv x1' 4))))) (-(gZ h a0_vector (wr (4 * ((4 * (Int.tdiv x2' 4)) + (Int.tdiv x1' 4))))))) + (max (gZ h a0_vector (wr ((4 * ((4 * (Int.tdiv x2' 4)) + (Int.tdiv x1' 4))) + 1))) (-(gZ h a0_vector (wr ((4 * ((4 * (Int.tdiv x2' 4)) + (Int.tdiv x1' 4))) + 1)))))) + ((max (gZ h a0_vector (wr ((4 * ((4 * (Int.tdiv x2' 4)) + (Int.tdiv x1' 4))) + 2))) (-(gZ h a0_vector (wr ((4 * ((4 * (Int.tdiv x2' 4)) + (Int.tdiv x1' 4))) + 2))))) + (max (gZ h a0_vector (wr ((4 * ((4 * (Int.tdiv x2' 4)) + (Int.tdiv x1' 4))) + 3))) (-(gZ h a0_vector (wr ((4 * ((4 * (Int.tdiv x2' 4)) + (Int.tdiv x1' 4))) + 3)))))) : Int) else (max (gZ h a0_vector (wr ((4 * ((4 * (Int.tdiv x2' 4)) + (Int.tdiv x1' 4))) + 2))) (-(gZ h a0_vector (wr ((4 * ((4 * (Int.tdiv x2' 4)) + (Int.tdiv x1' 4))) + 2))))) + (max (gZ h a0_vector (wr ((4 * ((4 * (Int.tdiv x2' 4)) + (Int.tdiv x1' 4))) + 3))) (-(gZ h a0_vector (wr ((4 * ((4 * (Int.tdiv x2' 4)) + (Int.tdiv x1' 4))) + 3))))))), .int (mI x5)] h else rn m_X12_costOf 217 [.ref a0, .int (mI x1), .int (mI x2), .int (mI x3), .int (mI x4), .int (mI x5), .int (mI (4 * ((4 * (Int.tdiv x2' 4)) + (Int.tdiv x1' 4)))), .int (mI ((max (gZ h a0_vector (wr (4 * ((4 * (Int.tdiv x2' 4)) + (Int.tdiv x1' 4))))) (-(gZ h a0_vector (wr (4 * ((4 * (Int.tdiv x2' 4)) + (Int.tdiv x1' 4))))))) + (max (gZ h a0_vector (wr ((4 * ((4 * (Int.tdiv x2' 4)) + (Int.tdiv x1' 4))) + 1))) (-(gZ h a0_vector (wr ((4 * ((4 * (Int.tdiv x2' 4)) + (Int.tdiv x1' 4))) + 1))))))), .int (mI ((max (gZ h a0_vector (wr ((4 * ((4 * (Int.tdiv x2' 4)) + (Int.tdiv x1' 4))) + 2))) (-(gZ h a0_vector (wr ((4 * ((4 * (Int.tdiv x2' 4)) + (Int.tdiv x1' 4))) + 2))))) + (max (gZ h a0_vector (wr ((4 * ((4 * (Int.tdiv x2' 4)) + (Int.tdiv x1' 4))) + 3))) (-(gZ h a0_vector (wr ((4 * ((4 * (Int.tdiv x2' 4)) + (Int.tdiv x1' 4))) + 3))))))), v9] [.int (mI ((max (gZ h a0_vector (wr (4 * ((4 * (Int.tdiv x2' 4)) + (Int.tdiv x1' 4))))) (-(gZ h a0_vector (wr (4 * ((4 * (Int.tdiv x2' 4)) + (Int.tdiv x1' 4))))))) + (max (gZ h a0_vector (wr ((4 * ((4 * (Int.tdiv x2' 4)) + (Int.tdiv x1' 4))) + 1))) (-(gZ h a0_vector (wr ((4 * ((4 * (Int.tdiv x2' 4)) + (Int.tdiv x1' 4))) + 1))))))), .int (mI x5)] h) (ite_congr rfl (fun c3 => ?_) (fun c3 => ?_)) ?_
      · refine (tq_iload i_X12_costOf_201 rfl rfl).trans ?_
        refine (tq_iconst i_X12_costOf_203 rfl).trans ?_
        refine (tq_icmp_ne (pt := 212) i_X12_costOf_204 w4 w_5 (by decide) rfl).trans ?_
        refine Eq.trans (b := if ¬ x4' = 5 then rn m_X12_costOf 217 [.ref a0, .int (mI x1), .int (mI x2), .int (mI x3), .int (mI x4), .int (mI x5), .int (mI (4 * ((4 * (Int.tdiv x2' 4)) + (Int.tdiv x1' 4)))), .int (mI ((max (gZ h a0_vector (wr (4 * ((4 * (Int.tdiv x2' 4)) + (Int.tdiv x1' 4))))) (-(gZ h a0_vector (wr (4 * ((4 * (Int.tdiv x2' 4)) + (Int.tdiv x1' 4))))))) + (max (gZ h a0_vector (wr ((4 * ((4 * (Int.tdiv x2' 4)) + (Int.tdiv x1' 4))) + 1))) (-(gZ h a0_vector (wr ((4 * ((4 * (Int.tdiv x2' 4)) + (Int.tdiv x1' 4))) + 1))))))), .int (mI ((max (gZ h a0_vector (wr ((4 * ((4 * (Int.tdiv x2' 4)) + (Int.tdiv x1' 4))) + 2))) (-(gZ h a0_vector (wr ((4 * ((4 * (Int.tdiv x2' 4)) + (Int.tdiv x1' 4))) + 2))))) + (max (gZ h a0_vector (wr ((4 * ((4 * (Int.tdiv x2' 4)) + (Int.tdiv x1' 4))) + 3))) (-(gZ h a0_vector (wr ((4 * ((4 * (Int.tdiv x2' 4)) + (Int.tdiv x1' 4))) + 3))))))), v9] [.int (mI (((max (gZ h a0_vector (wr (4 * ((4 * (Int.tdiv x2' 4)) + (Int.tdiv x1' 4))))) (-(gZ h a0_vector (wr (4 * ((4 * (Int.tdiv x2' 4)) + (Int.tdiv x1' 4))))))) + (max (gZ h a0_vector (wr ((4 * ((4 * (Int.tdiv x2' 4)) + (Int.tdiv x1' 4))) + 1))) (-(gZ h a0_vector (wr ((4 * ((4 * (Int.tdiv x2' 4)) + (Int.tdiv x1' 4))) + 1)))))) + ((max (gZ h a0_vector (wr ((4 * ((4 * (Int.tdiv x2' 4)) + (Int.tdiv x1' 4))) + 2))) (-(gZ h a0_vector (wr ((4 * ((4 * (Int.tdiv x2' 4)) + (Int.tdiv x1' 4))) + 2))))) + (max (gZ h a0_vector (wr ((4 * ((4 * (Int.tdiv x2' 4)) + (Int.tdiv x1' 4))) + 3))) (-(gZ h a0_vector (wr ((4 * ((4 * (Int.tdiv x2' 4)) + (Int.tdiv x1' 4))) + 3)))))))), .int (mI x5)] h else rn m_X12_costOf 217 [.ref a0, .int (mI x1), .int (mI x2), .int (mI x3), .int (mI x4), .int (mI x5), .int (mI (4 * ((4 * (Int.tdiv x2' 4)) + (Int.tdiv x1' 4)))), .int (mI ((max (gZ h a0_vector (wr (4 * ((4 * (Int.tdiv x2' 4)) + (Int.tdiv x1' 4))))) (-(gZ h a0_vector (wr (4 * ((4 * (Int.tdiv x2' 4)) + (Int.tdiv x1' 4))))))) + (max (gZ h a0_vector (wr ((4 * ((4 * (Int.tdiv x2' 4)) + (Int.tdiv x1' 4))) + 1))) (-(gZ h a0_vector (wr ((4 * ((4 * (Int.tdiv x2' 4)) + (Int.tdiv x1' 4))) + 1))))))), .int (mI ((max (gZ h a0_vector (wr ((4 * ((4 * (Int.tdiv x2' 4)) + (Int.tdiv x1' 4))) + 2))) (-(gZ h a0_vector (wr ((4 * ((4 * (Int.tdiv x2' 4)) + (Int.tdiv x1' 4))) + 2))))) + (max (gZ h a0_vector (wr ((4 * ((4 * (Int.tdiv x2' 4)) + (Int.tdiv x1' 4))) + 3))) (-(gZ h a0_vector (wr ((4 * ((4 * (Int.tdiv x2' 4)) + (Int.tdiv x1' 4))) + 3))))))), v9] [.int (mI ((max (gZ h a0_vector (wr ((4 * ((4 * (Int.tdiv x2' 4)) + (Int.tdiv x1' 4))) + 2))) (-(gZ h a0_vector (wr ((4 * ((4 * (Int.tdiv x2' 4)) + (Int.tdiv x1' 4))) + 2))))) + (max (gZ h a0_vector (wr ((4 * ((4 * (Int.tdiv x2' 4)) + (Int.tdiv x1' 4))) + 3))) (-(gZ h a0_vector (wr ((4 * ((4 * (Int.tdiv x2' 4)) + (Int.tdiv x1' 4))) + 3))))))), .int (mI x5)] h) (ite_congr rfl (fun c4 => ?_) (fun c4 => ?_)) ?_
        · refine (tq_iload i_X12_costOf_212 rfl rfl).trans ?_
          refine (tq_iload i_X12_costOf_214 rfl rfl).trans ?_
          refine (tq_iadd i_X12_costOf_216 rfl).trans ?_
          rfl
        · refine (tq_iload i_X12_costOf_207 rfl rfl).trans ?_
          refine (tq_goto (pc' := 217) i_X12_costOf_209 (by decide)).trans ?_
          rfl
        exact ite_I
      · refine (tq_iload i_X12_costOf_196 rfl rfl).trans ?_
        refine (tq_goto (pc' := 217) i_X12_costOf_198 (by decide)).trans ?_
        rfl
      exact ite_I
    · refine (tq_iconst i_X12_costOf_183 rfl).trans ?_
      refine (tq_iload i_X12_costOf_184 rfl rfl).trans ?_
      refine (tq_imul i_X12_costOf_186 rfl).trans ?_
      refine (tq_goto (pc' := 217) i_X12_costOf_187 (by decide)).trans ?_
      rfl
    refine Eq.trans ite_I ?_
    refine (tq_iadd i_X12_costOf_217 rfl).trans ?_
    exact tq_ireturn i_X12_costOf_218 r_X12_costOf rfl
  · refine (tq_iload_n i_X12_costOf_14 rfl rfl).trans ?_
    refine (tq_iload i_X12_costOf_15 rfl rfl).trans ?_
    refine (tq_iload_n i_X12_costOf_17 rfl rfl).trans ?_
    refine (tq_irem i_X12_costOf_18 w6 w3 (g9 c1) rfl).trans ?_
    refine (tq_iadd i_X12_costOf_19 rfl).trans ?_
    refine (tq_istore (L' := [.ref a0, .int (mI x1), .int (mI x2), .int (mI x3), .int (mI x4), .int (mI x5), .int (mI x6), .int (mI (x1 + (Int.tmod x6' x3'))), v8, v9]) i_X12_costOf_20 rfl rfl).trans ?_
    refine (tq_iload_n i_X12_costOf_22 rfl rfl).trans ?_
    refine (tq_iload i_X12_costOf_23 rfl rfl).trans ?_
    refine (tq_iload_n i_X12_costOf_25 rfl rfl).trans ?_
    refine (tq_idiv i_X12_costOf_26 w6 w3 (g9 c1) rfl).trans ?_
    refine (tq_iadd i_X12_costOf_27 rfl).trans ?_
    refine (tq_istore (L' := [.ref a0, .int (mI x1), .int (mI x2), .int (mI x3), .int (mI x4), .int (mI x5), .int (mI x6), .int (mI (x1 + (Int.tmod x6' x3'))), .int (mI (x2 + (Int.tdiv x6' x3'))), v9]) i_X12_costOf_28 rfl rfl).trans ?_
    refine (tq_iload i_X12_costOf_30 rfl rfl).trans ?_
    refine (tq_iconst i_X12_costOf_32 rfl).trans ?_
    refine (tq_icmp_ge (pt := 57) i_X12_costOf_33 w4 w_4 (by decide) rfl).trans ?_
    refine ite_congr rfl (fun c5 => ?_) (fun c5 => ?_)
    · refine (tq_aload_n i_X12_costOf_57 rfl (isA_ref _) rfl).trans ?_
      refine (tq_getfield i_X12_costOf_58 (K10_s k1) (g_10_28 (K10_s k1)) (isV_rv _) rfl).trans ?_
      refine (tq_aload_n i_X12_costOf_61 rfl (isA_ref _) rfl).trans ?_
      refine (tq_getfield i_X12_costOf_62 (K10_s k1) (g_10_29 (K10_s k1)) (isV_rv _) rfl).trans ?_
      refine (tq_iload i_X12_costOf_65 rfl rfl).trans ?_
      refine (tq_iload i_X12_costOf_67 rfl rfl).trans ?_
      refine (tq_iload i_X12_costOf_69 rfl rfl).trans ?_
      refine (tq_aload_n i_X12_costOf_71 rfl (isA_ref _) rfl).trans ?_
      refine (tq_getfield i_X12_costOf_72 (K10_s k1) (gR (g_10_31 (K10_s k1)) e2) (isV_ref _) rfl).trans ?_
      exact c_X12_byPictures i_X12_costOf_75 (ltd d_X12_costOf (by decide)) (isA_rv _) (isA_rv _) (isA_ref _) stOk_0 rfl
    · refine (tq_aload_n i_X12_costOf_36 rfl (isA_ref _) rfl).trans ?_
      refine (tq_getfield i_X12_costOf_37 (K10_s k1) (gR (g_10_27 (K10_s k1)) e10) (isV_ref _) rfl).trans ?_
      refine (tq_iload i_X12_costOf_40 rfl rfl).trans ?_
      refine (tq_iload i_X12_costOf_42 rfl rfl).trans ?_
      refine (tq_iload_n i_X12_costOf_44 rfl rfl).trans ?_
      refine (tq_iload i_X12_costOf_45 rfl rfl).trans ?_
      refine (tq_aload_n i_X12_costOf_47 rfl (isA_ref _) rfl).trans ?_
      refine (tq_getfield i_X12_costOf_48 (K10_s k1) (g_10_4 (K10_s k1)) (isV_I _) rfl).trans ?_
      exact c_X12_byBorder i_X12_costOf_51 (ltd d_X12_costOf (by decide)) (isA_ref _) stOk_0 rfl
theorem i_X12_costOf_54 : am_i m_X12_costOf 54 = some (54, .goto 24, 3, [], 0) := rfl
theorem b_X12_costOf_54 {a0 : Nat} {x1 x2 x3 x4 x5 x6 x7 x8 xs0 : Int} {v9 : Value} {h : am_H} : rn m_X12_costOf 54 [.ref a0, .int (mI x1), .int (mI x2), .int (mI x3), .int (mI x4), .int (mI x5), .int (mI x6), .int (mI x7), .int (mI x8), v9] [.int (mI xs0)] h = rn m_X12_costOf 78 [.ref a0, .int (mI x1), .int (mI x2), .int (mI x3), .int (mI x4), .int (mI x5), .int (mI x6), .int (mI x7), .int (mI x8), v9] [.int (mI xs0)] h := by
  refine (tq_goto (pc' := 78) i_X12_costOf_54 (by decide)).trans ?_
  rfl
theorem i_X12_costOf_78 : am_i m_X12_costOf 78 = some (78, .istore 9, 2, [], 0) := rfl
theorem i_X12_costOf_80 : am_i m_X12_costOf 80 = some (80, .iload 5, 2, [], 0) := rfl
theorem i_X12_costOf_82 : am_i m_X12_costOf 82 = some (82, .aload_n 0, 1, [], 0) := rfl
theorem i_X12_costOf_83 : am_i m_X12_costOf 83 = some (83, .getfield 18, 3, [10, 1, 0], 0) := rfl
theorem i_X12_costOf_86 : am_i m_X12_costOf 86 = some (86, .bipush 16, 2, [], 16) := rfl
theorem i_X12_costOf_88 : am_i m_X12_costOf 88 = some (88, .iload 8, 2, [], 0) := rfl
theorem i_X12_costOf_90 : am_i m_X12_costOf 90 = some (90, .imul, 1, [], 0) := rfl
theorem i_X12_costOf_91 : am_i m_X12_costOf 91 = some (91, .iload 7, 2, [], 0) := rfl
theorem i_X12_costOf_93 : am_i m_X12_costOf 93 = some (93, .iadd, 1, [], 0) := rfl
theorem i_X12_costOf_94 : am_i m_X12_costOf 94 = some (94, .iaload, 1, [], 0) := rfl
theorem i_X12_costOf_95 : am_i m_X12_costOf 95 = some (95, .iload 9, 2, [], 0) := rfl
theorem i_X12_costOf_97 : am_i m_X12_costOf 97 = some (97, .isub, 1, [], 0) := rfl
theorem i_X12_costOf_98 : am_i m_X12_costOf 98 = some (98, .invokestatic 175, 3, [0, 0], 0) := rfl
theorem i_X12_costOf_101 : am_i m_X12_costOf 101 = some (101, .iadd, 1, [], 0) := rfl
theorem i_X12_costOf_102 : am_i m_X12_costOf 102 = some (102, .istore 5, 2, [], 0) := rfl
theorem i_X12_costOf_104 : am_i m_X12_costOf 104 = some (104, .iinc 6 1, 3, [], 0) := rfl
theorem i_X12_costOf_107 : am_i m_X12_costOf 107 = some (107, .goto (-101), 3, [], 0) := rfl
theorem b_X12_costOf_78 {a0 : Nat} {x1 x2 x3 x4 x5 x6 x7 x8 xs0 : Int} {v9 : Value} {h : am_H} (k1 : K10 h a0) (g2 : 0 ≤ wr ((16 * x8) + x7) ∧ wr ((16 * x8) + x7) < (256 : Int)) : rn m_X12_costOf 78 [.ref a0, .int (mI x1), .int (mI x2), .int (mI x3), .int (mI x4), .int (mI x5), .int (mI x6), .int (mI x7), .int (mI x8), v9] [.int (mI xs0)] h = rn m_X12_costOf 6 [.ref a0, .int (mI x1), .int (mI x2), .int (mI x3), .int (mI x4), .int (mI (x5 + (max (wr ((gZ h (a0 + 1) (wr ((16 * x8) + x7))) - xs0)) (-(wr ((gZ h (a0 + 1) (wr ((16 * x8) + x7))) - xs0)))))), .int (mI (x6 + 1)), .int (mI x7), .int (mI x8), .int (mI xs0)] [] h := by
  refine (tq_istore (L' := [.ref a0, .int (mI x1), .int (mI x2), .int (mI x3), .int (mI x4), .int (mI x5), .int (mI x6), .int (mI x7), .int (mI x8), .int (mI xs0)]) i_X12_costOf_78 rfl rfl).trans ?_
  refine (tq_iload i_X12_costOf_80 rfl rfl).trans ?_
  refine (tq_aload_n i_X12_costOf_82 rfl (isA_ref _) rfl).trans ?_
  refine (tq_getfield i_X12_costOf_83 (K10_s k1) (gR (g_10_1 (K10_s k1)) (K10_e1 k1)) (isV_ref _) rfl).trans ?_
  refine (tq_bipush i_X12_costOf_86 rfl).trans ?_
  refine (tq_iload i_X12_costOf_88 rfl rfl).trans ?_
  refine (tq_imul i_X12_costOf_90 rfl).trans ?_
  refine (tq_iload i_X12_costOf_91 rfl rfl).trans ?_
  refine (tq_iadd i_X12_costOf_93 rfl).trans ?_
  refine (tq_iaload i_X12_costOf_94 (K10_s1 k1) (by decide) rfl g2.1 (lt_gn (K10_n1 k1) g2.2) rfl).trans ?_
  refine (tq_iload i_X12_costOf_95 rfl rfl).trans ?_
  refine (tq_isub i_X12_costOf_97 rfl).trans ?_
  refine (tq_abs i_X12_costOf_98 rfl (Nat.le_of_ble_eq_true rfl) rfl).trans ?_
  refine (tq_iadd i_X12_costOf_101 rfl).trans ?_
  refine (tq_istore (L' := [.ref a0, .int (mI x1), .int (mI x2), .int (mI x3), .int (mI x4), .int (mI (x5 + (max (wr ((gZ h (a0 + 1) (wr ((16 * x8) + x7))) - xs0)) (-(wr ((gZ h (a0 + 1) (wr ((16 * x8) + x7))) - xs0)))))), .int (mI x6), .int (mI x7), .int (mI x8), .int (mI xs0)]) i_X12_costOf_102 rfl rfl).trans ?_
  refine (tq_iinc (L' := [.ref a0, .int (mI x1), .int (mI x2), .int (mI x3), .int (mI x4), .int (mI (x5 + (max (wr ((gZ h (a0 + 1) (wr ((16 * x8) + x7))) - xs0)) (-(wr ((gZ h (a0 + 1) (wr ((16 * x8) + x7))) - xs0)))))), .int (mI (x6 + 1)), .int (mI x7), .int (mI x8), .int (mI xs0)]) i_X12_costOf_104 rfl rfl rfl).trans ?_
  refine (tq_goto (pc' := 6) i_X12_costOf_107 (by decide)).trans ?_
  rfl
theorem mext_ok {u1 u2 u3 u4 m v1 v2 : Int} (hm : 0 ≤ m ∧ m ≤ 6) (e1 : 4 ≤ m → m ≠ 5 → u1 = vX v1 ∧ u2 = vY v1) (e2 : 4 ≤ m → m ≠ 4 → u3 = vX v2 ∧ u4 = vY v2) : (if 4 ≤ m then ((if ¬ m = 4 then ((if ¬ m = 5 then (((max u1 (-u1)) + (max u2 (-u2))) + ((max u3 (-u3)) + (max u4 (-u4))) : Int) else (max u3 (-u3)) + (max u4 (-u4))) : Int) else (max u1 (-u1)) + (max u2 (-u2))) : Int) else 2 * m) = extc m v1 v2 := by
  unfold extc
  by_cases c : m < 4
  · rw [if_neg (by omega), if_pos c]
  · rw [if_pos (by omega), if_neg c]
    have : m = 4 ∨ m = 5 ∨ m = 6 := by omega
    rcases this with rfl | rfl | rfl
    · obtain ⟨rfl, rfl⟩ := e1 (by decide) (by decide)
      rw [if_neg (by decide), if_pos rfl]
      rfl
    · obtain ⟨rfl, rfl⟩ := e2 (by decide) (by decide)
      rw [if_pos (by decide), if_neg (by decide), if_neg (by decide), if_pos rfl]
      rfl
    · obtain ⟨rfl, rfl⟩ := e1 (by decide) (by decide)
      obtain ⟨rfl, rfl⟩ := e2 (by decide) (by decide)
      rw [if_pos (by decide), if_pos (by decide), if_neg (by decide), if_neg (by decide)]
      rfl
theorem mcost_ok {h : am_H} {M N : Nat} {c f1 f2 p : Int → Int} {kd tl sl q X Y Z m v1 v2 : Int} (y : My M N c kd tl sl q) (x : Mx h M N c f1 f2 kd tl sl q) (ep : gZ h N = p) (hp : pixels p) (li : lies X Y Z (tp sl Y)) (hm : 0 ≤ m ∧ m < nmo kd) (va : 4 ≤ m → ∀ a b, X ≤ a → a < X + Z → Y ≤ b → b < Y + Z → vecAt h (N + 2) (4 * (b / 4) + a / 4) m v1 v2) : rn m_X12_costOf 0 [.ref M, .int (mI X), .int (mI Y), .int (mI Z), .int (mI m), am_J, am_J, am_J, am_J, am_J] [] h = some (.inl (some (.int (mI (cost c p f1 f2 X Y Z (tp sl Y) m v1 v2)))), h) := by
  have y0 := y
  obtain ⟨y1, y4, y5, y6, y7, y8⟩ := y
  obtain ⟨x1, ⟨x2, x3, x4, x5⟩, ⟨⟨u1, u2⟩, ⟨u3, u4⟩, ⟨u5, u6⟩, u7, u8⟩, x6, ⟨x7, x8, x9, x10⟩, x11, x12⟩ := x
  have nb := nmo_b y5
  obtain ⟨ip, mm⟩ := lies_part li (tp_b sl Y).2
  have ip0 := ip
  obtain ⟨hz, hX, hY, hT⟩ := ip
  have zz : Z * Z = 16 ∨ Z * Z = 64 := by rcases hz with e | e <;> rw [e] <;> omega
  have q1 : 4 ≤ m → m ≠ 5 → picR h M N (fA h M 28) f1 := fun a b => x11 (nb.2.1 (by omega))
  have q2 : 4 ≤ m → m ≠ 4 → picR h M N (fA h M 29) f2 := fun a b => x12 (nb.2.2 (by omega))
  have gb : ∀ a b, X ≤ a → a < X + Z → Y ≤ b → b < Y + Z → 0 ≤ gss p f1 f2 X Y Z (tp sl Y) m v1 v2 a b ∧ gss p f1 f2 X Y Z (tp sl Y) m v1 v2 a b ≤ 255 := fun a b a0 a1 b0 b1 => gss_pb hp (fun e => by obtain ⟨F, -, -, -, -, -, pf⟩ := q1 (by omega) (by omega); exact pf) (fun e => by obtain ⟨F, -, -, -, -, -, pf⟩ := q2 (by omega) (by omega); exact pf) (by omega) ip0 ⟨a0, a1⟩ ⟨b0, b1⟩
  have db := fun (n : Nat) (hn : (n : Int) ≤ Z * Z) => dsum_b (n := n) (g := gss p f1 f2 X Y Z (tp sl Y) m v1 v2) hz hn hX hY y4 gb
  rw [b_X12_costOf_0]
  have rr : (4 * (Y / 4) + X / 4) < 16 ∧ 0 ≤ (4 * (Y / 4) + X / 4) := by omega
  have blk6 : ∀ (v7 v8 v9 : Value) (u k : Int), 0 ≤ k → k ≤ Z * Z → rn m_X12_costOf 6 [.ref M, .int (mI X), .int (mI Y), .int (mI Z), .int (mI m), .int (mI u), .int (mI k), v7, v8, v9] [] h = _ := fun v7 v8 v9 u k k0 k1 => b_X12_costOf_6 (a0 := M) (a0_vector := N + 2) (n_a0_vector := 64) (a0_now := N) (x5 := u) (v7 := v7) (v8 := v8) (v9 := v9) (h := h) (wr_id (z := X) (by omega) (by omega)) (wr_id (z := Y) (by omega) (by omega)) (wr_id (z := Z) (by omega) (by omega)) (wr_id (z := m) (by omega) (by omega)) (wr_id (z := k) (by omega) (by omega)) x1 x4 u6 u5 (fun _ => by rw [tdv (by omega), tdv (by omega), wr_id (by omega) (by omega)]; omega) (fun _ => by rw [tdv (by omega), tdv (by omega), wr_id (by omega) (by omega)]; omega) (fun _ => by rw [tdv (by omega), tdv (by omega), wr_id (by omega) (by omega)]; omega) (fun _ => by rw [tdv (by omega), tdv (by omega), wr_id (by omega) (by omega)]; omega) (fun _ => by omega) x2
  refine lp (m := m_X12_costOf) (pc := 6) (L := fun k (z : Int × (Value × (Value × Value))) => [.ref M, .int (mI X), .int (mI Y), .int (mI Z), .int (mI m), .int (mI z.1), .int (mI k), z.2.1, z.2.2.1, z.2.2.2]) (N := Z * Z) (P := fun r => r = some (.inl (some (.int (mI (cost c p f1 f2 X Y Z (tp sl Y) m v1 v2)))), h)) (fun k z h' => 0 ≤ k ∧ h' = h ∧ z.1 = dsum c (gss p f1 f2 X Y Z (tp sl Y) m v1 v2) X Y Z k.toNat) ?_ ?_ 0 (0, am_J, am_J, am_J) h (by omega) ⟨by omega, rfl, rfl⟩
  · intro k z h' hk ⟨k0, e, ez⟩
    obtain ⟨u, v7, v8, v9⟩ := z
    subst e
    simp only at ez
    have st := blk6 v7 v8 v9 u k k0 (by omega)
    rw [wr_id (z := Z * Z) (by omega) (by omega), if_neg (by omega), tmd k0, tdv (x := k) k0, x10] at st
    have kk : 0 ≤ k % Z ∧ k % Z < Z ∧ 0 ≤ k / Z ∧ k / Z < Z := by rcases hz with rfl | rfl <;> omega
    have dk := db k.toNat (by omega)
    have fin : ∀ g, g = gss p f1 f2 X Y Z (tp sl Y) m v1 v2 (X + k % Z) (Y + k / Z) → rn m_X12_costOf 78 [.ref M, .int (mI X), .int (mI Y), .int (mI Z), .int (mI m), .int (mI u), .int (mI k), .int (mI (X + k % Z)), .int (mI (Y + k / Z)), v9] [.int (mI g)] h' = rn m_X12_costOf 6 [.ref M, .int (mI X), .int (mI Y), .int (mI Z), .int (mI m), .int (mI (u + iabs (c (16 * (Y + k / Z) + (X + k % Z)) - gss p f1 f2 X Y Z (tp sl Y) m v1 v2 (X + k % Z) (Y + k / Z)))), .int (mI (k + 1)), .int (mI (X + k % Z)), .int (mI (Y + k / Z)), .int (mI g)] [] h' := by
      intro g eg
      have wi : wr (16 * (Y + k / Z) + (X + k % Z)) = 16 * (Y + k / Z) + (X + k % Z) := wr_id (by omega) (by omega)
      have c1 := y4 (16 * (Y + k / Z) + (X + k % Z)) (by omega) (by omega)
      have c2 := gb (X + k % Z) (Y + k / Z) (by omega) (by omega) (by omega) (by omega)
      rw [b_X12_costOf_78 x1 (by rw [wi]; omega), wi, x6, eg, wr_id (z := c (16 * (Y + k / Z) + (X + k % Z)) - gss p f1 f2 X Y Z (tp sl Y) m v1 v2 (X + k % Z) (Y + k / Z)) (by omega) (by omega)]
      rfl
    refine ⟨(u + iabs (c (16 * (Y + k / Z) + (X + k % Z)) - gss p f1 f2 X Y Z (tp sl Y) m v1 v2 (X + k % Z) (Y + k / Z)), .int (mI (X + k % Z)), .int (mI (Y + k / Z)), .int (mI (gss p f1 f2 X Y Z (tp sl Y) m v1 v2 (X + k % Z) (Y + k / Z)))), h', st.trans ?_, by omega, rfl, ?_⟩
    · by_cases c4 : 4 ≤ m
      · have va' := va c4 (X + k % Z) (Y + k / Z) (by omega) (by omega) (by omega) (by omega)
        rw [if_pos c4, byPictures_ok u5 u6 ⟨by omega, by omega⟩ ⟨by omega, by omega⟩ ⟨c4, by omega⟩ (q1 c4) (q2 c4) va', cl_v, show gsK f1 f2 m v1 v2 (X + k % Z) (Y + k / Z) = gss p f1 f2 X Y Z (tp sl Y) m v1 v2 (X + k % Z) (Y + k / Z) by unfold gss; rw [if_neg (by omega)]]
        exact fin _ rfl
      · rw [if_neg c4, byBorder_ok u1 u2 (by decide) (by rw [ep]; exact hp) li y7 ⟨hm.1, by omega⟩ ⟨by omega, by omega⟩ ⟨by omega, by omega⟩, cl_v, b_X12_costOf_54, ep, show gsB p X Y Z (tp sl Y) m (X + k % Z) (Y + k / Z) = gss p f1 f2 X Y Z (tp sl Y) m v1 v2 (X + k % Z) (Y + k / Z) by unfold gss; rw [if_pos (by omega)]]
        exact fin _ rfl
    · simp only
      rw [ez]
      unfold dsum
      rw [sm_succ k0]
  · intro z h' ⟨k0, e, ez⟩
    obtain ⟨u, v7, v8, v9⟩ := z
    subst e
    simp only at ez
    have st := blk6 v7 v8 v9 u (Z * Z) k0 (by omega)
    rw [wr_id (z := Z * Z) (by omega) (by omega), if_pos (by omega), tdv (x := X) (by omega), tdv (x := Y) (by omega), wr_id (z := 4 * (4 * (Y / 4) + X / 4)) (by omega) (by omega), wr_id (z := 4 * (4 * (Y / 4) + X / 4) + 1) (by omega) (by omega), wr_id (z := 4 * (4 * (Y / 4) + X / 4) + 2) (by omega) (by omega), wr_id (z := 4 * (4 * (Y / 4) + X / 4) + 3) (by omega) (by omega)] at st
    have vv := fun c4 => va c4 X Y (by omega) (by omega) (by omega) (by omega)
    rw [mext_ok (v1 := v1) (v2 := v2) (by omega) (fun a b => ⟨((vv a).1 b).1, ((vv a).1 b).2.1⟩) (fun a b => ⟨((vv a).2 b).1, ((vv a).2 b).2.1⟩), ez] at st
    simp only
    rw [ez]
    exact st
