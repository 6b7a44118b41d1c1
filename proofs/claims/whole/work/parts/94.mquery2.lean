/-! ===== the model's queries, on ===== -/
section MR2
variable {σ : St} {h : am_H} {D : Nat} {c : Int}
theorem i_X12_vectorAt_0 : am_i m_X12_vectorAt 0 = some (0, .aload_n 0, 1, [], 0) := rfl
theorem i_X12_vectorAt_1 : am_i m_X12_vectorAt 1 = some (1, .iload_n 1, 1, [], 0) := rfl
theorem i_X12_vectorAt_2 : am_i m_X12_vectorAt 2 = some (2, .iload_n 2, 1, [], 0) := rfl
theorem i_X12_vectorAt_3 : am_i m_X12_vectorAt 3 = some (3, .iload_n 3, 1, [], 0) := rfl
theorem i_X12_vectorAt_4 : am_i m_X12_vectorAt 4 = some (4, .invokevirtual 335, 3, [136, 10], 0) := rfl
theorem b_X12_vectorAt_0 {a0 : Nat} {x1 x2 x3 x4 : Int} {h : am_H} (k1 : K10 h a0) : rn m_X12_vectorAt 0 [.ref a0, .int (mI x1), .int (mI x2), .int (mI x3), .int (mI x4), am_J, am_J] [] h = cl m_X12_vectorAt 7 [.ref a0, .int (mI x1), .int (mI x2), .int (mI x3), .int (mI x4), am_J, am_J] [] (rn m_X12_noPlace 0 [.ref a0, .int (mI x1), .int (mI x2), .int (mI x3)] [] h) := by
  refine (tq_aload_n i_X12_vectorAt_0 rfl (isA_ref _) rfl).trans ?_
  refine (tq_iload_n i_X12_vectorAt_1 rfl rfl).trans ?_
  refine (tq_iload_n i_X12_vectorAt_2 rfl rfl).trans ?_
  refine (tq_iload_n i_X12_vectorAt_3 rfl rfl).trans ?_
  exact c_X12_noPlace i_X12_vectorAt_4 (K10_s k1) (ltd d_X12_vectorAt (by decide)) stOk_0 rfl
theorem i_X12_vectorAt_7 : am_i m_X12_vectorAt 7 = some (7, .ifCond .eq 5, 3, [], 0) := rfl
theorem i_X12_vectorAt_10 : am_i m_X12_vectorAt 10 = some (10, .iconst 0, 1, [], 0) := rfl
theorem i_X12_vectorAt_11 : am_i m_X12_vectorAt 11 = some (11, .ireturn, 1, [], 0) := rfl
theorem i_X12_vectorAt_12 : am_i m_X12_vectorAt 12 = some (12, .aload_n 0, 1, [], 0) := rfl
theorem i_X12_vectorAt_13 : am_i m_X12_vectorAt 13 = some (13, .getfield 83, 3, [10, 23, 0], 0) := rfl
theorem i_X12_vectorAt_16 : am_i m_X12_vectorAt 16 = some (16, .iload_n 1, 1, [], 0) := rfl
theorem i_X12_vectorAt_17 : am_i m_X12_vectorAt 17 = some (17, .aaload, 1, [], 0) := rfl
theorem i_X12_vectorAt_18 : am_i m_X12_vectorAt 18 = some (18, .iload_n 2, 1, [], 0) := rfl
theorem i_X12_vectorAt_19 : am_i m_X12_vectorAt 19 = some (19, .iload_n 3, 1, [], 0) := rfl
theorem i_X12_vectorAt_20 : am_i m_X12_vectorAt 20 = some (20, .invokestatic 338, 3, [38], 0) := rfl
theorem i_X12_vectorAt_23 : am_i m_X12_vectorAt 23 = some (23, .iaload, 1, [], 0) := rfl
theorem i_X12_vectorAt_24 : am_i m_X12_vectorAt 24 = some (24, .istore 5, 2, [], 0) := rfl
theorem i_X12_vectorAt_26 : am_i m_X12_vectorAt 26 = some (26, .aload_n 0, 1, [], 0) := rfl
theorem i_X12_vectorAt_27 : am_i m_X12_vectorAt 27 = some (27, .iload 5, 2, [], 0) := rfl
theorem i_X12_vectorAt_29 : am_i m_X12_vectorAt 29 = some (29, .bipush 6, 2, [], 6) := rfl
theorem i_X12_vectorAt_31 : am_i m_X12_vectorAt 31 = some (31, .if_icmp .eq 18, 3, [], 0) := rfl
theorem i_X12_vectorAt_34 : am_i m_X12_vectorAt 34 = some (34, .iload 5, 2, [], 0) := rfl
theorem i_X12_vectorAt_36 : am_i m_X12_vectorAt 36 = some (36, .iload 4, 2, [], 0) := rfl
theorem i_X12_vectorAt_38 : am_i m_X12_vectorAt 38 = some (38, .ifCond .eq 7, 3, [], 0) := rfl
theorem i_X12_vectorAt_41 : am_i m_X12_vectorAt 41 = some (41, .iconst 5, 1, [], 5) := rfl
theorem i_X12_vectorAt_42 : am_i m_X12_vectorAt 42 = some (42, .goto 4, 3, [], 0) := rfl
theorem i_X12_vectorAt_45 : am_i m_X12_vectorAt 45 = some (45, .iconst 4, 1, [], 4) := rfl
theorem i_X12_vectorAt_46 : am_i m_X12_vectorAt 46 = some (46, .if_icmp .ne 7, 3, [], 0) := rfl
theorem i_X12_vectorAt_49 : am_i m_X12_vectorAt 49 = some (49, .iconst 0, 1, [], 0) := rfl
theorem i_X12_vectorAt_50 : am_i m_X12_vectorAt 50 = some (50, .goto 4, 3, [], 0) := rfl
theorem i_X12_vectorAt_53 : am_i m_X12_vectorAt 53 = some (53, .iconst 2, 1, [], 2) := rfl
theorem i_X12_vectorAt_54 : am_i m_X12_vectorAt 54 = some (54, .putfield 110, 3, [10, 0, 0], 0) := rfl
theorem i_X12_vectorAt_57 : am_i m_X12_vectorAt 57 = some (57, .iconst 4, 1, [], 4) := rfl
theorem i_X12_vectorAt_58 : am_i m_X12_vectorAt 58 = some (58, .iload_n 2, 1, [], 0) := rfl
theorem i_X12_vectorAt_59 : am_i m_X12_vectorAt 59 = some (59, .iload_n 3, 1, [], 0) := rfl
theorem i_X12_vectorAt_60 : am_i m_X12_vectorAt 60 = some (60, .invokestatic 338, 3, [38], 0) := rfl
theorem i_X12_vectorAt_63 : am_i m_X12_vectorAt 63 = some (63, .imul, 1, [], 0) := rfl
theorem i_X12_vectorAt_64 : am_i m_X12_vectorAt 64 = some (64, .iload 4, 2, [], 0) := rfl
theorem i_X12_vectorAt_66 : am_i m_X12_vectorAt 66 = some (66, .ifCond .eq 7, 3, [], 0) := rfl
theorem i_X12_vectorAt_69 : am_i m_X12_vectorAt 69 = some (69, .iconst 2, 1, [], 2) := rfl
theorem i_X12_vectorAt_70 : am_i m_X12_vectorAt 70 = some (70, .goto 4, 3, [], 0) := rfl
theorem i_X12_vectorAt_73 : am_i m_X12_vectorAt 73 = some (73, .iconst 0, 1, [], 0) := rfl
theorem i_X12_vectorAt_74 : am_i m_X12_vectorAt 74 = some (74, .iadd, 1, [], 0) := rfl
theorem i_X12_vectorAt_75 : am_i m_X12_vectorAt 75 = some (75, .istore 6, 2, [], 0) := rfl
theorem i_X12_vectorAt_77 : am_i m_X12_vectorAt 77 = some (77, .aload_n 0, 1, [], 0) := rfl
theorem i_X12_vectorAt_78 : am_i m_X12_vectorAt 78 = some (78, .getfield 110, 3, [10, 0, 0], 0) := rfl
theorem i_X12_vectorAt_81 : am_i m_X12_vectorAt 81 = some (81, .ifCond .ne 36, 3, [], 0) := rfl
theorem i_X12_vectorAt_84 : am_i m_X12_vectorAt 84 = some (84, .bipush 100, 2, [], 100) := rfl
theorem i_X12_vectorAt_86 : am_i m_X12_vectorAt 86 = some (86, .aload_n 0, 1, [], 0) := rfl
theorem i_X12_vectorAt_87 : am_i m_X12_vectorAt 87 = some (87, .getfield 86, 3, [10, 24, 0], 0) := rfl
theorem i_X12_vectorAt_90 : am_i m_X12_vectorAt 90 = some (90, .iload_n 1, 1, [], 0) := rfl
theorem i_X12_vectorAt_91 : am_i m_X12_vectorAt 91 = some (91, .aaload, 1, [], 0) := rfl
theorem i_X12_vectorAt_92 : am_i m_X12_vectorAt 92 = some (92, .iload 6, 2, [], 0) := rfl
theorem i_X12_vectorAt_94 : am_i m_X12_vectorAt 94 = some (94, .iaload, 1, [], 0) := rfl
theorem i_X12_vectorAt_95 : am_i m_X12_vectorAt 95 = some (95, .bipush 8, 2, [], 8) := rfl
theorem i_X12_vectorAt_97 : am_i m_X12_vectorAt 97 = some (97, .iadd, 1, [], 0) := rfl
theorem i_X12_vectorAt_98 : am_i m_X12_vectorAt 98 = some (98, .imul, 1, [], 0) := rfl
theorem i_X12_vectorAt_99 : am_i m_X12_vectorAt 99 = some (99, .aload_n 0, 1, [], 0) := rfl
theorem i_X12_vectorAt_100 : am_i m_X12_vectorAt 100 = some (100, .getfield 86, 3, [10, 24, 0], 0) := rfl
theorem i_X12_vectorAt_103 : am_i m_X12_vectorAt 103 = some (103, .iload_n 1, 1, [], 0) := rfl
theorem i_X12_vectorAt_104 : am_i m_X12_vectorAt 104 = some (104, .aaload, 1, [], 0) := rfl
theorem i_X12_vectorAt_105 : am_i m_X12_vectorAt 105 = some (105, .iload 6, 2, [], 0) := rfl
theorem i_X12_vectorAt_107 : am_i m_X12_vectorAt 107 = some (107, .iconst 1, 1, [], 1) := rfl
theorem i_X12_vectorAt_108 : am_i m_X12_vectorAt 108 = some (108, .iadd, 1, [], 0) := rfl
theorem i_X12_vectorAt_109 : am_i m_X12_vectorAt 109 = some (109, .iaload, 1, [], 0) := rfl
theorem i_X12_vectorAt_110 : am_i m_X12_vectorAt 110 = some (110, .iadd, 1, [], 0) := rfl
theorem i_X12_vectorAt_111 : am_i m_X12_vectorAt 111 = some (111, .bipush 8, 2, [], 8) := rfl
theorem i_X12_vectorAt_113 : am_i m_X12_vectorAt 113 = some (113, .iadd, 1, [], 0) := rfl
theorem i_X12_vectorAt_114 : am_i m_X12_vectorAt 114 = some (114, .goto 4, 3, [], 0) := rfl
theorem i_X12_vectorAt_117 : am_i m_X12_vectorAt 117 = some (117, .iconst 0, 1, [], 0) := rfl
theorem i_X12_vectorAt_118 : am_i m_X12_vectorAt 118 = some (118, .ireturn, 1, [], 0) := rfl
theorem b_X12_vectorAt_7 {a0 b_17 n_b_17 b_91 n_b_91 b_104 n_b_104 : Nat} {x1 x2 x3 x4 xs0 x1' x2' x3' x4' xs0' : Int} {v5 v6 : Value} {h : am_H} (w1 : wr x1 = x1') (w2 : wr x2 = x2') (w3 : wr x3 = x3') (w4 : wr x4 = x4') (ws0 : wr xs0 = xs0') (k1 : K10 h a0) (g2 : (xs0' = 0) → (0 ≤ x1' ∧ x1' < (12 : Int))) (e3 : (xs0' = 0) → (gA h (a0 + 15) x1' = some b_17)) (g4 : (xs0' = 0) → (0 ≤ x2' ∧ x2' < 16)) (g5 : (xs0' = 0) → (0 ≤ x3' ∧ x3' < 16)) (n6 : (xs0' = 0) → (gn h b_17 = n_b_17)) (s7 : (xs0' = 0) → (sh h b_17 = (1, 0))) (g8 : (xs0' = 0) → (0 ≤ qr x2' x3' ∧ qr x2' x3' < (n_b_17 : Int))) (e9 : (xs0' = 0) → (¬ (¬ (if (gZ h b_17 (qr x2' x3')) = 6 then (0 : Int) else (if ¬ (gZ h b_17 (qr x2' x3')) = (if x4' = 0 then (4 : Int) else 5) then (2 : Int) else 0)) = 0)) → (gA (uF 10 h a0 0 (.int (mI (if (gZ h b_17 (qr x2' x3')) = 6 then (0 : Int) else (if ¬ (gZ h b_17 (qr x2' x3')) = (if x4' = 0 then (4 : Int) else 5) then (2 : Int) else 0))))) (a0 + 16) x1' = some b_91)) (n10 : (xs0' = 0) → (¬ (¬ (if (gZ h b_17 (qr x2' x3')) = 6 then (0 : Int) else (if ¬ (gZ h b_17 (qr x2' x3')) = (if x4' = 0 then (4 : Int) else 5) then (2 : Int) else 0)) = 0)) → (gn h b_91 = n_b_91)) (s11 : (xs0' = 0) → (¬ (¬ (if (gZ h b_17 (qr x2' x3')) = 6 then (0 : Int) else (if ¬ (gZ h b_17 (qr x2' x3')) = (if x4' = 0 then (4 : Int) else 5) then (2 : Int) else 0)) = 0)) → (sh h b_91 = (1, 0))) (g12 : (xs0' = 0) → (¬ (¬ (if (gZ h b_17 (qr x2' x3')) = 6 then (0 : Int) else (if ¬ (gZ h b_17 (qr x2' x3')) = (if x4' = 0 then (4 : Int) else 5) then (2 : Int) else 0)) = 0)) → (0 ≤ wr ((4 * (qr x2' x3')) + (if x4' = 0 then (0 : Int) else 2)) ∧ wr ((4 * (qr x2' x3')) + (if x4' = 0 then (0 : Int) else 2)) < (n_b_91 : Int))) (e13 : (xs0' = 0) → (¬ (¬ (if (gZ h b_17 (qr x2' x3')) = 6 then (0 : Int) else (if ¬ (gZ h b_17 (qr x2' x3')) = (if x4' = 0 then (4 : Int) else 5) then (2 : Int) else 0)) = 0)) → (gA (uF 10 h a0 0 (.int (mI (if (gZ h b_17 (qr x2' x3')) = 6 then (0 : Int) else (if ¬ (gZ h b_17 (qr x2' x3')) = (if x4' = 0 then (4 : Int) else 5) then (2 : Int) else 0))))) (a0 + 16) x1' = some b_104)) (n14 : (xs0' = 0) → (¬ (¬ (if (gZ h b_17 (qr x2' x3')) = 6 then (0 : Int) else (if ¬ (gZ h b_17 (qr x2' x3')) = (if x4' = 0 then (4 : Int) else 5) then (2 : Int) else 0)) = 0)) → (gn h b_104 = n_b_104)) (s15 : (xs0' = 0) → (¬ (¬ (if (gZ h b_17 (qr x2' x3')) = 6 then (0 : Int) else (if ¬ (gZ h b_17 (qr x2' x3')) = (if x4' = 0 then (4 : Int) else 5) then (2 : Int) else 0)) = 0)) → (sh h b_104 = (1, 0))) (g16 : (xs0' = 0) → (¬ (¬ (if (gZ h b_17 (qr x2' x3')) = 6 then (0 : Int) else (if ¬ (gZ h b_17 (qr x2' x3')) = (if x4' = 0 then (4 : Int) else 5) then (2 : Int) else 0)) = 0)) → (0 ≤ wr (((4 * (qr x2' x3')) + (if x4' = 0 then (0 : Int) else 2)) + 1) ∧ wr (((4 * (qr x2' x3')) + (if x4' = 0 then (0 : Int) else 2)) + 1) < (n_b_104 : Int))) : rn m_X12_vectorAt 7 [.ref a0, .int (mI x1), .int (mI x2), .int (mI x3), .int (mI x4), v5, v6] [.int (mI xs0)] h = if xs0' = 0 then some (.inl (some (.int (mI (if ¬ (if (gZ h b_17 (qr x2' x3')) = 6 then (0 : Int) else (if ¬ (gZ h b_17 (qr x2' x3')) = (if x4' = 0 then (4 : Int) else 5) then (2 : Int) else 0)) = 0 then (0 : Int) else ((100 * ((gZ (uF 10 h a0 0 (.int (mI (if (gZ h b_17 (qr x2' x3')) = 6 then (0 : Int) else (if ¬ (gZ h b_17 (qr x2' x3')) = (if x4' = 0 then (4 : Int) else 5) then (2 : Int) else 0))))) b_91 (wr ((4 * (qr x2' x3')) + (if x4' = 0 then (0 : Int) else 2)))) + 8)) + (gZ (uF 10 h a0 0 (.int (mI (if (gZ h b_17 (qr x2' x3')) = 6 then (0 : Int) else (if ¬ (gZ h b_17 (qr x2' x3')) = (if x4' = 0 then (4 : Int) else 5) then (2 : Int) else 0))))) b_104 (wr (((4 * (qr x2' x3')) + (if x4' = 0 then (0 : Int) else 2)) + 1)))) + 8)))), uF 10 h a0 0 (.int (mI (if (gZ h b_17 (qr x2' x3')) = 6 then (0 : Int) else (if ¬ (gZ h b_17 (qr x2' x3')) = (if x4' = 0 then (4 : Int) else 5) then (2 : Int) else 0))))) else some (.inl (some (.int (mI 0))), h) := by
  refine (tq_if_eq (pt := 12) i_X12_vectorAt_7 ws0 (by decide) rfl).trans ?_
  refine ite_congr rfl (fun c1 => ?_) (fun c1 => ?_)
  · refine (tq_aload_n i_X12_vectorAt_12 rfl (isA_ref _) rfl).trans ?_
    refine (tq_getfield i_X12_vectorAt_13 (K10_s k1) (gR (g_10_23 (K10_s k1)) (K10_e23 k1)) (isV_ref _) rfl).trans ?_
    refine (tq_iload_n i_X12_vectorAt_16 rfl rfl).trans ?_
    refine (tq_aaload i_X12_vectorAt_17 (K10_s23 k1) w1 (g2 c1).1 (lt_gn (K10_n23 k1) (g2 c1).2) rfl).trans ?_
    rw [(e3 c1)]
    simp only [am_rv]
    refine (tq_iload_n i_X12_vectorAt_18 rfl rfl).trans ?_
    refine (tq_iload_n i_X12_vectorAt_19 rfl rfl).trans ?_
    refine (c_X12_square i_X12_vectorAt_20 (ltd d_X12_vectorAt (by decide)) (stOk_1 _) rfl).trans ?_
    refine (congrArg (cl _ _ _ _) (square12_ok w2 w3 (g4 c1) (g5 c1))).trans ?_
    refine (cl_v _ _ _ _ _ _).trans ?_
    refine (tq_iaload i_X12_vectorAt_23 (s7 c1) (by decide) (wr_qr _ _) (g8 c1).1 (lt_gn (n6 c1) (g8 c1).2) rfl).trans ?_
    refine (tq_istore (L' := [.ref a0, .int (mI x1), .int (mI x2), .int (mI x3), .int (mI x4), .int (mI (gZ h b_17 (qr x2' x3'))), v6]) i_X12_vectorAt_24 rfl rfl).trans ?_
    refine (tq_aload_n i_X12_vectorAt_26 rfl (isA_ref _) rfl).trans ?_
    refine (tq_iload i_X12_vectorAt_27 rfl rfl).trans ?_
    refine (tq_bipush i_X12_vectorAt_29 rfl).trans ?_
    refine (tq_icmp_eq (pt := 49) i_X12_vectorAt_31 (wr_gZ _ _ _) w_6 (by decide) rfl).trans ?_
    refine Eq.trans (b := if (gZ h b_17 (qr x2' x3')) = 6 then rn m_X12_vectorAt 54 [.ref a0, .int (mI x1), .int (mI x2), .int (mI x3), .int (mI x4), .int (mI (gZ h b_17 (qr x2' x3'))), v6] [.int (mI 0), .ref a0] h else rn m_X12_vectorAt 54 [.ref a0, .int (mI x1), .int (mI x2), .int (mI x3), .int (mI x4), .int (mI (gZ h b_17 (qr x2' x3'))), v6] [.int (mI (if ¬ (gZ h b_17 (qr x2' x3')) = (if x4' = 0 then (4 : Int) else 5) then (2 : Int) else 0)), .ref a0] h) (ite_congr rfl (fun c2 => ?_) (fun c2 => ?_)) ?_
    · refine (tq_iconst i_X12_vectorAt_49 rfl).trans ?_
      refine (tq_goto (pc' := 54) i_X12_vectorAt_50 (by decide)).trans ?_
      rfl
    · refine (tq_iload i_X12_vectorAt_34 rfl rfl).trans ?_
      refine (tq_iload i_X12_vectorAt_36 rfl rfl).trans ?_
      refine (tq_if_eq (pt := 45) i_X12_vectorAt_38 w4 (by decide) rfl).trans ?_
      refine Eq.trans (b := if x4' = 0 then rn m_X12_vectorAt 46 [.ref a0, .int (mI x1), .int (mI x2), .int (mI x3), .int (mI x4), .int (mI (gZ h b_17 (qr x2' x3'))), v6] [.int (mI 4), .int (mI (gZ h b_17 (qr x2' x3'))), .ref a0] h else rn m_X12_vectorAt 46 [.ref a0, .int (mI x1), .int (mI x2), .int (mI x3), .int (mI x4), .int (mI (gZ h b_17 (qr x2' x3'))), v6] [.int (mI 5), .int (mI (gZ h b_17 (qr x2' x3'))), .ref a0] h) (ite_congr rfl (fun c3 => ?_) (fun c3 => ?_)) ?_
      · refine (tq_iconst i_X12_vectorAt_45 rfl).trans ?_
        rfl
      · refine (tq_iconst i_X12_vectorAt_41 rfl).trans ?_
        refine (tq_goto (pc' := 46) i_X12_vectorAt_42 (by decide)).trans ?_
        rfl
      refine Eq.trans ite_I ?_
      refine (tq_icmp_ne (pt := 53) i_X12_vectorAt_46 (wr_gZ _ _ _) (wr_ite w_4 w_5) (by decide) rfl).trans ?_
      refine Eq.trans (b := if ¬ (gZ h b_17 (qr x2' x3')) = (if x4' = 0 then (4 : Int) else 5) then rn m_X12_vectorAt 54 [.ref a0, .int (mI x1), .int (mI x2), .int (mI x3), .int (mI x4), .int (mI (gZ h b_17 (qr x2' x3'))), v6] [.int (mI 2), .ref a0] h else rn m_X12_vectorAt 54 [.ref a0, .int (mI x1), .int (mI x2), .int (mI x3), .int (mI x4), .int (mI (gZ h b_17 (qr x2' x3'))), v6] [.int (mI 0), .ref a0] h) (ite_congr rfl (fun c4 => ?_) (fun c4 => ?_)) ?_
      · refine (tq_iconst i_X12_vectorAt_53 rfl).trans ?_
        rfl
      · refine (tq_iconst i_X12_vectorAt_49 rfl).trans ?_
        refine (tq_goto (pc' := 54) i_X12_vectorAt_50 (by decide)).trans ?_
        rfl
      exact ite_I
    refine Eq.trans ite_I ?_
    refine (tq_putfield i_X12_vectorAt_54 (K10_s k1) (okf_10_0 _) rfl).trans ?_
    refine (tq_iconst i_X12_vectorAt_57 rfl).trans ?_
    refine (tq_iload_n i_X12_vectorAt_58 rfl rfl).trans ?_
    refine (tq_iload_n i_X12_vectorAt_59 rfl rfl).trans ?_
    refine (c_X12_square i_X12_vectorAt_60 (ltd d_X12_vectorAt (by decide)) (stOk_1 _) rfl).trans ?_
    refine (congrArg (cl _ _ _ _) (square12_ok w2 w3 (g4 c1) (g5 c1))).trans ?_
    refine (cl_v _ _ _ _ _ _).trans ?_
    refine (tq_imul i_X12_vectorAt_63 rfl).trans ?_
    refine (tq_iload i_X12_vectorAt_64 rfl rfl).trans ?_
    refine (tq_if_eq (pt := 73) i_X12_vectorAt_66 w4 (by decide) rfl).trans ?_
    refine Eq.trans (b := if x4' = 0 then rn m_X12_vectorAt 74 [.ref a0, .int (mI x1), .int (mI x2), .int (mI x3), .int (mI x4), .int (mI (gZ h b_17 (qr x2' x3'))), v6] [.int (mI 0), .int (mI (4 * (qr x2' x3')))] (uF 10 h a0 0 (.int (mI (if (gZ h b_17 (qr x2' x3')) = 6 then (0 : Int) else (if ¬ (gZ h b_17 (qr x2' x3')) = (if x4' = 0 then (4 : Int) else 5) then (2 : Int) else 0))))) else rn m_X12_vectorAt 74 [.ref a0, .int (mI x1), .int (mI x2), .int (mI x3), .int (mI x4), .int (mI (gZ h b_17 (qr x2' x3'))), v6] [.int (mI 2), .int (mI (4 * (qr x2' x3')))] (uF 10 h a0 0 (.int (mI (if (gZ h b_17 (qr x2' x3')) = 6 then (0 : Int) else (if ¬ (gZ h b_17 (qr x2' x3')) = (if x4' = 0 then (4 : Int) else 5) then (2 : Int) else 0)))))) (ite_congr rfl (fun c5 => ?_) (fun c5 => ?_)) ?_
    · refine (tq_iconst i_X12_vectorAt_73 rfl).trans ?_
      rfl
    · refine (tq_iconst i_X12_vectorAt_69 rfl).trans ?_
      refine (tq_goto (pc' := 74) i_X12_vectorAt_70 (by decide)).trans ?_
      rfl
    refine Eq.trans ite_I ?_
    refine (tq_iadd i_X12_vectorAt_74 rfl).trans ?_
    refine (tq_istore (L' := [.ref a0, .int (mI x1), .int (mI x2), .int (mI x3), .int (mI x4), .int (mI (gZ h b_17 (qr x2' x3'))), .int (mI ((4 * (qr x2' x3')) + (if x4' = 0 then (0 : Int) else 2)))]) i_X12_vectorAt_75 rfl rfl).trans ?_
    refine (tq_aload_n i_X12_vectorAt_77 rfl (isA_ref _) rfl).trans ?_
    refine (tq_getfield i_X12_vectorAt_78 ((sh_uF _ _ _ _ _ _).trans (K10_s k1)) (gV_uF_eq (K10_s k1) (okf_10_0 _)) (isV_I _) rfl).trans ?_
    refine (tq_if_ne (pt := 117) i_X12_vectorAt_81 (wr_ite w_0 (wr_ite w_2 w_0)) (by decide) rfl).trans ?_
    refine Eq.trans (b := if ¬ (if (gZ h b_17 (qr x2' x3')) = 6 then (0 : Int) else (if ¬ (gZ h b_17 (qr x2' x3')) = (if x4' = 0 then (4 : Int) else 5) then (2 : Int) else 0)) = 0 then rn m_X12_vectorAt 118 [.ref a0, .int (mI x1), .int (mI x2), .int (mI x3), .int (mI x4), .int (mI (gZ h b_17 (qr x2' x3'))), .int (mI ((4 * (qr x2' x3')) + (if x4' = 0 then (0 : Int) else 2)))] [.int (mI 0)] (uF 10 h a0 0 (.int (mI (if (gZ h b_17 (qr x2' x3')) = 6 then (0 : Int) else (if ¬ (gZ h b_17 (qr x2' x3')) = (if x4' = 0 then (4 : Int) else 5) then (2 : Int) else 0))))) else rn m_X12_vectorAt 118 [.ref a0, .int (mI x1), .int (mI x2), .int (mI x3), .int (mI x4), .int (mI (gZ h b_17 (qr x2' x3'))), .int (mI ((4 * (qr x2' x3')) + (if x4' = 0 then (0 : Int) else 2)))] [.int (mI (((100 * ((gZ (uF 10 h a0 0 (.int (mI (if (gZ h b_17 (qr x2' x3')) = 6 then (0 : Int) else (if ¬ (gZ h b_17 (qr x2' x3')) = (if x4' = 0 then (4 : Int) else 5) then (2 : Int) else 0))))) b_91 (wr ((4 * (qr x2' x3')) + (if x4' = 0 then (0 : Int) else 2)))) + 8)) + (gZ (uF 10 h a0 0 (.int (mI (if (gZ h b_17 (qr x2' x3')) = 6 then (0 : Int) else (if ¬ (gZ h b_17 (qr x2' x3')) = (if x4' = 0 then (4 : Int) else 5) then (2 : Int) else 0))))) b_104 (wr (((4 * (qr x2' x3')) + (if x4' = 0 then (0 : Int) else 2)) + 1)))) + 8))] (uF 10 h a0 0 (.int (mI (if (gZ h b_17 (qr x2' x3')) = 6 then (0 : Int) else (if ¬ (gZ h b_17 (qr x2' x3')) = (if x4' = 0 then (4 : Int) else 5) then (2 : Int) else 0)))))) (ite_congr rfl (fun c6 => ?_) (fun c6 => ?_)) ?_
    · refine (tq_iconst i_X12_vectorAt_117 rfl).trans ?_
      rfl
    · refine (tq_bipush i_X12_vectorAt_84 rfl).trans ?_
      refine (tq_aload_n i_X12_vectorAt_86 rfl (isA_ref _) rfl).trans ?_
      refine (tq_getfield i_X12_vectorAt_87 ((sh_uF _ _ _ _ _ _).trans (K10_s k1)) (gR ((g_10_24 ((sh_uF _ _ _ _ _ _).trans (K10_s k1))).trans (congrArg am_rv (fA_uF_nk (K10_s k1) (okf_10_0 _) (by decide)))) (K10_e24 k1)) (isV_ref _) rfl).trans ?_
      refine (tq_iload_n i_X12_vectorAt_90 rfl rfl).trans ?_
      refine (tq_aaload i_X12_vectorAt_91 ((sh_uF _ _ _ _ _ _).trans (K10_s24 k1)) w1 (g2 c1).1 (lt_gn ((gn_uF _ _ _ _ _ _).trans (K10_n24 k1)) (g2 c1).2) rfl).trans ?_
      rw [(e9 c1 c6)]
      simp only [am_rv]
      refine (tq_iload i_X12_vectorAt_92 rfl rfl).trans ?_
      refine (tq_iaload i_X12_vectorAt_94 ((sh_uF _ _ _ _ _ _).trans (s11 c1 c6)) (by decide) rfl (g12 c1 c6).1 (lt_gn ((gn_uF _ _ _ _ _ _).trans (n10 c1 c6)) (g12 c1 c6).2) rfl).trans ?_
      refine (tq_bipush i_X12_vectorAt_95 rfl).trans ?_
      refine (tq_iadd i_X12_vectorAt_97 rfl).trans ?_
      refine (tq_imul i_X12_vectorAt_98 rfl).trans ?_
      refine (tq_aload_n i_X12_vectorAt_99 rfl (isA_ref _) rfl).trans ?_
      refine (tq_getfield i_X12_vectorAt_100 ((sh_uF _ _ _ _ _ _).trans (K10_s k1)) (gR ((g_10_24 ((sh_uF _ _ _ _ _ _).trans (K10_s k1))).trans (congrArg am_rv (fA_uF_nk (K10_s k1) (okf_10_0 _) (by decide)))) (K10_e24 k1)) (isV_ref _) rfl).trans ?_
      refine (tq_iload_n i_X12_vectorAt_103 rfl rfl).trans ?_
      refine (tq_aaload i_X12_vectorAt_104 ((sh_uF _ _ _ _ _ _).trans (K10_s24 k1)) w1 (g2 c1).1 (lt_gn ((gn_uF _ _ _ _ _ _).trans (K10_n24 k1)) (g2 c1).2) rfl).trans ?_
      rw [(e13 c1 c6)]
      simp only [am_rv]
      refine (tq_iload i_X12_vectorAt_105 rfl rfl).trans ?_
      refine (tq_iconst i_X12_vectorAt_107 rfl).trans ?_
      refine (tq_iadd i_X12_vectorAt_108 rfl).trans ?_
      refine (tq_iaload i_X12_vectorAt_109 ((sh_uF _ _ _ _ _ _).trans (s15 c1 c6)) (by decide) rfl (g16 c1 c6).1 (lt_gn ((gn_uF _ _ _ _ _ _).trans (n14 c1 c6)) (g16 c1 c6).2) rfl).trans ?_
      refine (tq_iadd i_X12_vectorAt_110 rfl).trans ?_
      refine (tq_bipush i_X12_vectorAt_111 rfl).trans ?_
      refine (tq_iadd i_X12_vectorAt_113 rfl).trans ?_
      refine (tq_goto (pc' := 118) i_X12_vectorAt_114 (by decide)).trans ?_
      rfl
    refine Eq.trans ite_I ?_
    exact tq_ireturn i_X12_vectorAt_118 r_X12_vectorAt rfl
  · refine (tq_iconst i_X12_vectorAt_10 rfl).trans ?_
    exact tq_ireturn i_X12_vectorAt_11 r_X12_vectorAt rfl
theorem m_vectorAt (rm : RM σ h D) (wf : WfS σ c) {i x y b : Int} (w : wr i = i) (wx : wr x = x) (wy : wr y = y) (wb : wr b = b) : (isPl σ i x y → (isVc σ i x y b → MRs σ h D (rn m_X12_vectorAt 0 [.ref 51, .int (mI i), .int (mI x), .int (mI y), .int (mI b), am_J, am_J] [] h) (.int (mI (if b = 0 then tpd σ i 2 (sq x y) else tpd σ i 3 (sq x y)))) 0 0 0) ∧ (¬ isVc σ i x y b → MRs σ h D (rn m_X12_vectorAt 0 [.ref 51, .int (mI i), .int (mI x), .int (mI y), .int (mI b), am_J, am_J] [] h) (.int (mI 0)) 2 0 0)) ∧ (¬ isPl σ i x y → MRs σ h D (rn m_X12_vectorAt 0 [.ref 51, .int (mI i), .int (mI x), .int (mI y), .int (mI b), am_J, am_J] [] h) (.int (mI 0)) 1 0 0) := by
  have n := WFn wf
  unfold isPl
  obtain ⟨t1, t2, t3, tm⟩ := thr_ok (D := D) (z := bZ (¬ ((0 ≤ i ∧ i < tz σ 7) ∧ (0 ≤ x ∧ x < 16) ∧ 0 ≤ y ∧ y < 16))) rm (wr_bZ _)
  have st := b_X12_vectorAt_0 (a0 := 51) (x1 := i) (x2 := x) (x3 := y) (x4 := b) (h := h) rm.1
  rw [nPl rm wf w wx wy, cl_v] at st
  refine ⟨fun g => ?_, fun g => ?_⟩
  · rw [bZ_f (fun q => q g)] at st t1 t2 t3 tm
    generalize hA : uF 10 h 51 0 (.int (mI 0)) = h1 at *
    have pm := (t1.2.2.2.2.2.1 i g.1.1 g.1.2).2.2.1
    obtain ⟨O, o1, o2, o3, o4⟩ := pm.2.2.1
    obtain ⟨V, v1, v2, v3, v4⟩ := pm.2.2.2
    have sb := sq_b x y
    have rb := rs_b (sq x y)
    have em : gZ h1 O (qr x y) = tpd σ i 1 (sq x y) := by rw [qr_sq g.2.1 g.2.2]; exact o4 _ sb.1 sb.2
    have pw := wf.2.2.2.1 i g.1.1 g.1.2
    have pW := pw.2.2.2.2.2.2.2.2.2.2.2.1 _ sb.1 sb.2
    have pN := pw.2.2.2.2.2.2.2.2.2.2.2.2 _ sb.1 sb.2
    have mb : tpd σ i 1 (sq x y) < 7 := by have := pW.2.2.2.1.2; have := (nmo_b pw.1).1; omega
    have vv := v4 _ sb.1 sb.2
    have mA : Md (fun a k => a = 51 ∧ k = 0) h1 (uF 10 h1 51 0 (.int (mI (if gZ h1 O (qr x y) = 6 then (0 : Int) else (if ¬ gZ h1 O (qr x y) = (if b = 0 then (4 : Int) else 5) then (2 : Int) else 0))))) := Md_uF (Sm_uF_10_0 _ _ _)
    have ib : wr (4 * qr x y + (if b = 0 then (0 : Int) else 2)) = 4 * rs (sq x y) + (if b = 0 then 0 else 2) := by rw [qr_sq g.2.1 g.2.2, wr_id] <;> split <;> omega
    have ic : wr (4 * qr x y + (if b = 0 then (0 : Int) else 2) + 1) = 4 * rs (sq x y) + (if b = 0 then 0 else 2) + 1 := by rw [qr_sq g.2.1 g.2.2, wr_id] <;> split <;> omega
    have st2 := b_X12_vectorAt_7 (a0 := 51) (b_17 := O) (n_b_17 := 16) (b_91 := V) (n_b_91 := 64) (b_104 := V) (n_b_104 := 64) (x1 := i) (x2 := x) (x3 := y) (x4 := b) (xs0 := 0) (v5 := am_J) (v6 := am_J) (h := h1) w wx wy wb (wr_id (by decide) (by decide)) t1.1 (fun _ => by omega) (fun _ => o1) (fun _ => g.2.1) (fun _ => g.2.2) (fun _ => o3.2) (fun _ => o3.1) (fun _ => by rw [qr_sq g.2.1 g.2.2]; omega) (fun _ _ => by rw [md_gA mA (by omega)]; exact v1) (fun _ _ => v3.2) (fun _ _ => v3.1) (fun _ _ => by rw [ib]; split <;> omega) (fun _ _ => by rw [md_gA mA (by omega)]; exact v1) (fun _ _ => v3.2) (fun _ _ => v3.1) (fun _ _ => by rw [ic]; split <;> omega)
    have v75 : 75 < V := v2.1
    rw [if_pos rfl, md_gZ mA (by omega), md_gZ mA (by omega), ib, ic, em] at st2
    clear mA
    unfold isVc
    by_cases cb : b = 0
    · rw [if_pos cb, if_pos cb] at st2
      rw [if_pos cb]
      by_cases u : tpd σ i 1 (sq x y) = 4 ∨ tpd σ i 1 (sq x y) = 6
      · have o := pW.2.2.2.2.1 u
        have ov := okv_b o
        refine ⟨fun _ => ?_, fun q => absurd (by omega) q⟩
        have eT : (if tpd σ i 1 (sq x y) = 6 then (0 : Int) else (if ¬ tpd σ i 1 (sq x y) = 4 then (2 : Int) else 0)) = 0 := by
          by_cases q6 : tpd σ i 1 (sq x y) = 6
          · rw [if_pos q6]
          · rw [if_neg q6, if_neg (by omega)]
        rw [eT, if_neg (fun q => q rfl), Int.add_zero, (vv.1 u).1, (vv.1 u).2, enc_v o] at st2
        obtain ⟨u1, u2, u3, -⟩ := thr_ok (z := 0) t1 (wr_id (by decide) (by decide))
        exact ⟨_, st.trans st2, u1, u2, Fr_mono (Fr_tr (U := SMl2) t3 u3 (fun _ _ _ q => q) (fun _ _ _ q => q)) (fun _ _ _ q => q) (by decide) (by decide)⟩
      · have e1 := pN.1 u
        refine ⟨fun q => absurd e1 q, fun _ => ?_⟩
        have eT : (if tpd σ i 1 (sq x y) = 6 then (0 : Int) else (if ¬ tpd σ i 1 (sq x y) = 4 then (2 : Int) else 0)) = 2 := by rw [if_neg (fun q => u (Or.inr q)), if_pos (fun q => u (Or.inl q))]
        rw [eT, if_pos (by decide)] at st2
        obtain ⟨u1, u2, u3, -⟩ := thr_ok (z := 2) t1 (wr_id (by decide) (by decide))
        exact ⟨_, st.trans st2, u1, u2, Fr_mono (Fr_tr (U := SMl2) t3 u3 (fun _ _ _ q => q) (fun _ _ _ q => q)) (fun _ _ _ q => q) (by decide) (by decide)⟩
    · rw [if_neg cb, if_neg cb] at st2
      rw [if_neg cb]
      by_cases u : tpd σ i 1 (sq x y) = 5 ∨ tpd σ i 1 (sq x y) = 6
      · have o := pW.2.2.2.2.2.1 u
        have ov := okv_b o
        refine ⟨fun _ => ?_, fun q => absurd (by omega) q⟩
        have eT : (if tpd σ i 1 (sq x y) = 6 then (0 : Int) else (if ¬ tpd σ i 1 (sq x y) = 5 then (2 : Int) else 0)) = 0 := by
          by_cases q6 : tpd σ i 1 (sq x y) = 6
          · rw [if_pos q6]
          · rw [if_neg q6, if_neg (by omega)]
        rw [eT, if_neg (fun q => q rfl), show 4 * rs (sq x y) + 2 + 1 = 4 * rs (sq x y) + 3 by omega, (vv.2 u).1, (vv.2 u).2, enc_v o] at st2
        obtain ⟨u1, u2, u3, -⟩ := thr_ok (z := 0) t1 (wr_id (by decide) (by decide))
        exact ⟨_, st.trans st2, u1, u2, Fr_mono (Fr_tr (U := SMl2) t3 u3 (fun _ _ _ q => q) (fun _ _ _ q => q)) (fun _ _ _ q => q) (by decide) (by decide)⟩
      · have e1 := pN.2 u
        refine ⟨fun q => absurd e1 q, fun _ => ?_⟩
        have eT : (if tpd σ i 1 (sq x y) = 6 then (0 : Int) else (if ¬ tpd σ i 1 (sq x y) = 5 then (2 : Int) else 0)) = 2 := by rw [if_neg (fun q => u (Or.inr q)), if_pos (fun q => u (Or.inl q))]
        rw [eT, if_pos (by decide)] at st2
        obtain ⟨u1, u2, u3, -⟩ := thr_ok (z := 2) t1 (wr_id (by decide) (by decide))
        exact ⟨_, st.trans st2, u1, u2, Fr_mono (Fr_tr (U := SMl2) t3 u3 (fun _ _ _ q => q) (fun _ _ _ q => q)) (fun _ _ _ q => q) (by decide) (by decide)⟩
  · rw [bZ_t g] at st t1 t2 t3
    have st2 := b_X12_vectorAt_7 (a0 := 51) (b_17 := 0) (n_b_17 := 16) (b_91 := 0) (n_b_91 := 64) (b_104 := 0) (n_b_104 := 64) (x1 := i) (x2 := x) (x3 := y) (x4 := b) (xs0 := 1) (v5 := am_J) (v6 := am_J) (h := uF 10 h 51 0 (.int (mI 1))) w wx wy wb (wr_id (by decide) (by decide)) t1.1 (fun q => absurd q (by decide)) (fun q => absurd q (by decide)) (fun q => absurd q (by decide)) (fun q => absurd q (by decide)) (fun q => absurd q (by decide)) (fun q => absurd q (by decide)) (fun q => absurd q (by decide)) (fun q => absurd q (by decide)) (fun q => absurd q (by decide)) (fun q => absurd q (by decide)) (fun q => absurd q (by decide)) (fun q => absurd q (by decide)) (fun q => absurd q (by decide)) (fun q => absurd q (by decide)) (fun q => absurd q (by decide))
    rw [if_neg (by decide)] at st2
    exact ⟨_, st.trans st2, t1, t2, t3⟩
/-- the bytes of a slice -/
theorem m_row (rm : RM σ h D) (wf : WfS σ c) {i s : Int} (hi : isSl σ i s) : wr (2 * i + s) = 2 * i + s ∧ (0 ≤ 2 * i + s ∧ 2 * i + s < 24) ∧ ∃ U, gA h 64 (2 * i + s) = some U ∧ isRow h D U (tpz σ i (if s = 0 then 8 else 9)) (tpd σ i (if s = 0 then 6 else 7)) := by
  have n := WFn wf
  obtain ⟨hi1, hs⟩ := hi
  have pm := rm.2.2.2.2.2.1 i hi1.1 hi1.2
  have p5 := (wf.2.2.2.1 i hi1.1 hi1.2).2.2.2.2.2.1
  refine ⟨wr_id (by omega) (by omega), by omega, ?_⟩
  by_cases c0 : s = 0
  · obtain ⟨U, u1, u2⟩ := pm.2.2.2.1
    rw [if_pos c0, if_pos c0, c0, Int.add_zero]
    exact ⟨U, u1, u2⟩
  · obtain ⟨U, u1, u2⟩ := pm.2.2.2.2 (by omega)
    have s1 : s = 1 := by omega
    rw [if_neg c0, if_neg c0, s1]
    exact ⟨U, u1, u2⟩
theorem i_X12_bytes_0 : am_i m_X12_bytes 0 = some (0, .aload_n 0, 1, [], 0) := rfl
theorem i_X12_bytes_1 : am_i m_X12_bytes 1 = some (1, .iload_n 1, 1, [], 0) := rfl
theorem i_X12_bytes_2 : am_i m_X12_bytes 2 = some (2, .iload_n 2, 1, [], 0) := rfl
theorem i_X12_bytes_3 : am_i m_X12_bytes 3 = some (3, .invokevirtual 332, 3, [89, 10], 0) := rfl
theorem b_X12_bytes_0 {a0 : Nat} {x1 x2 : Int} {h : am_H} (k1 : K10 h a0) : rn m_X12_bytes 0 [.ref a0, .int (mI x1), .int (mI x2)] [] h = cl m_X12_bytes 6 [.ref a0, .int (mI x1), .int (mI x2)] [] (rn m_X12_noSlice 0 [.ref a0, .int (mI x1), .int (mI x2)] [] h) := by
  refine (tq_aload_n i_X12_bytes_0 rfl (isA_ref _) rfl).trans ?_
  refine (tq_iload_n i_X12_bytes_1 rfl rfl).trans ?_
  refine (tq_iload_n i_X12_bytes_2 rfl rfl).trans ?_
  exact c_X12_noSlice i_X12_bytes_3 (K10_s k1) (ltd d_X12_bytes (by decide)) stOk_0 rfl
theorem i_X12_bytes_6 : am_i m_X12_bytes 6 = some (6, .ifCond .eq 7, 3, [], 0) := rfl
theorem i_X12_bytes_9 : am_i m_X12_bytes 9 = some (9, .iconst 0, 1, [], 0) := rfl
theorem i_X12_bytes_10 : am_i m_X12_bytes 10 = some (10, .goto 14, 3, [], 0) := rfl
theorem i_X12_bytes_13 : am_i m_X12_bytes 13 = some (13, .aload_n 0, 1, [], 0) := rfl
theorem i_X12_bytes_14 : am_i m_X12_bytes 14 = some (14, .getfield 77, 3, [10, 21, 0], 0) := rfl
theorem i_X12_bytes_17 : am_i m_X12_bytes 17 = some (17, .iconst 2, 1, [], 2) := rfl
theorem i_X12_bytes_18 : am_i m_X12_bytes 18 = some (18, .iload_n 1, 1, [], 0) := rfl
theorem i_X12_bytes_19 : am_i m_X12_bytes 19 = some (19, .imul, 1, [], 0) := rfl
theorem i_X12_bytes_20 : am_i m_X12_bytes 20 = some (20, .iload_n 2, 1, [], 0) := rfl
theorem i_X12_bytes_21 : am_i m_X12_bytes 21 = some (21, .iadd, 1, [], 0) := rfl
theorem i_X12_bytes_22 : am_i m_X12_bytes 22 = some (22, .aaload, 1, [], 0) := rfl
theorem i_X12_bytes_23 : am_i m_X12_bytes 23 = some (23, .arraylength, 1, [], 0) := rfl
theorem i_X12_bytes_24 : am_i m_X12_bytes 24 = some (24, .ireturn, 1, [], 0) := rfl
theorem b_X12_bytes_6 {a0 b_22 n_b_22 : Nat} {x1 x2 xs0 xs0' : Int} {h : am_H} (ws0 : wr xs0 = xs0') (k1 : K10 h a0) (g2 : (xs0' = 0) → (0 ≤ wr ((2 * x1) + x2) ∧ wr ((2 * x1) + x2) < (24 : Int))) (e3 : (xs0' = 0) → (gA h (a0 + 13) (wr ((2 * x1) + x2)) = some b_22)) (n4 : (xs0' = 0) → (gn h b_22 = n_b_22)) (s5 : (xs0' = 0) → (sh h b_22 = (1, 0))) : rn m_X12_bytes 6 [.ref a0, .int (mI x1), .int (mI x2)] [.int (mI xs0)] h = some (.inl (some (.int (mI (if xs0' = 0 then ((n_b_22 : Int) : Int) else 0)))), h) := by
  refine (tq_if_eq (pt := 13) i_X12_bytes_6 ws0 (by decide) rfl).trans ?_
  refine Eq.trans (b := if xs0' = 0 then rn m_X12_bytes 24 [.ref a0, .int (mI x1), .int (mI x2)] [.int (mI (n_b_22 : Int))] h else rn m_X12_bytes 24 [.ref a0, .int (mI x1), .int (mI x2)] [.int (mI 0)] h) (ite_congr rfl (fun c1 => ?_) (fun c1 => ?_)) ?_
  · refine (tq_aload_n i_X12_bytes_13 rfl (isA_ref _) rfl).trans ?_
    refine (tq_getfield i_X12_bytes_14 (K10_s k1) (gR (g_10_21 (K10_s k1)) (K10_e21 k1)) (isV_ref _) rfl).trans ?_
    refine (tq_iconst i_X12_bytes_17 rfl).trans ?_
    refine (tq_iload_n i_X12_bytes_18 rfl rfl).trans ?_
    refine (tq_imul i_X12_bytes_19 rfl).trans ?_
    refine (tq_iload_n i_X12_bytes_20 rfl rfl).trans ?_
    refine (tq_iadd i_X12_bytes_21 rfl).trans ?_
    refine (tq_aaload i_X12_bytes_22 (K10_s21 k1) rfl (g2 c1).1 (lt_gn (K10_n21 k1) (g2 c1).2) rfl).trans ?_
    rw [(e3 c1)]
    simp only [am_rv]
    refine (tq_alen i_X12_bytes_23 (s5 c1) (by decide) (by decide) rfl).trans ?_
    rw [(n4 c1)]
  · refine (tq_iconst i_X12_bytes_9 rfl).trans ?_
    refine (tq_goto (pc' := 24) i_X12_bytes_10 (by decide)).trans ?_
    rfl
  refine Eq.trans ite_I ?_
  exact tq_ireturn i_X12_bytes_24 r_X12_bytes rfl
theorem m_bytes (rm : RM σ h D) (wf : WfS σ c) {i s : Int} (w : wr i = i) (ws : wr s = s) : (isSl σ i s → MRs σ h D (rn m_X12_bytes 0 [.ref 51, .int (mI i), .int (mI s)] [] h) (.int (mI (tpz σ i (if s = 0 then 8 else 9)))) 0 0 0) ∧ (¬ isSl σ i s → MRs σ h D (rn m_X12_bytes 0 [.ref 51, .int (mI i), .int (mI s)] [] h) (.int (mI 0)) 1 0 0) := by
  obtain ⟨z, z1, z2, z3⟩ := nSl rm wf w ws
  have wz : wr z = z := wr_id (by omega) (by omega)
  obtain ⟨t1, t2, t3, tm⟩ := thr_ok rm wz
  have st := b_X12_bytes_0 (a0 := 51) (x1 := i) (x2 := s) (h := h) rm.1
  rw [z3, cl_v] at st
  refine ⟨fun g => ?_, fun g => ?_⟩
  · have z0 := z1.mpr g
    rw [z0] at st t1 t2 t3
    obtain ⟨m1, m2, U, u1, u2⟩ := m_row t1 wf g
    have st2 := b_X12_bytes_6 (a0 := 51) (b_22 := U) (n_b_22 := gn (uF 10 h 51 0 (.int (mI 0))) U) (x1 := i) (x2 := s) (xs0 := 0) (h := uF 10 h 51 0 (.int (mI 0))) (wr_id (by decide) (by decide)) t1.1 (fun _ => by rw [m1]; exact m2) (fun _ => by rw [m1]; exact u1) (fun _ => rfl) (fun _ => u2.2.1.1)
    rw [if_pos rfl, u2.2.1.2] at st2
    exact ⟨_, st.trans st2, t1, t2, t3⟩
  · have z0 : z = 1 := by
      rcases z2 with e | e
      · exact absurd (z1.mp e) g
      · exact e
    rw [z0] at st t1 t2 t3
    have st2 := b_X12_bytes_6 (a0 := 51) (b_22 := 0) (n_b_22 := 0) (x1 := i) (x2 := s) (xs0 := 1) (h := uF 10 h 51 0 (.int (mI 1))) (wr_id (by decide) (by decide)) t1.1 (fun q => absurd q (by decide)) (fun q => absurd q (by decide)) (fun q => absurd q (by decide)) (fun q => absurd q (by decide))
    rw [if_neg (by decide)] at st2
    exact ⟨_, st.trans st2, t1, t2, t3⟩
theorem i_X12_byteAt_0 : am_i m_X12_byteAt 0 = some (0, .aload_n 0, 1, [], 0) := rfl
theorem i_X12_byteAt_1 : am_i m_X12_byteAt 1 = some (1, .iload_n 1, 1, [], 0) := rfl
theorem i_X12_byteAt_2 : am_i m_X12_byteAt 2 = some (2, .iload_n 2, 1, [], 0) := rfl
theorem i_X12_byteAt_3 : am_i m_X12_byteAt 3 = some (3, .invokevirtual 332, 3, [89, 10], 0) := rfl
theorem b_X12_byteAt_0 {a0 : Nat} {x1 x2 x3 : Int} {h : am_H} (k1 : K10 h a0) : rn m_X12_byteAt 0 [.ref a0, .int (mI x1), .int (mI x2), .int (mI x3), am_J] [] h = cl m_X12_byteAt 6 [.ref a0, .int (mI x1), .int (mI x2), .int (mI x3), am_J] [] (rn m_X12_noSlice 0 [.ref a0, .int (mI x1), .int (mI x2)] [] h) := by
  refine (tq_aload_n i_X12_byteAt_0 rfl (isA_ref _) rfl).trans ?_
  refine (tq_iload_n i_X12_byteAt_1 rfl rfl).trans ?_
  refine (tq_iload_n i_X12_byteAt_2 rfl rfl).trans ?_
  exact c_X12_noSlice i_X12_byteAt_3 (K10_s k1) (ltd d_X12_byteAt (by decide)) stOk_0 rfl
theorem i_X12_byteAt_6 : am_i m_X12_byteAt 6 = some (6, .ifCond .eq 5, 3, [], 0) := rfl
theorem i_X12_byteAt_9 : am_i m_X12_byteAt 9 = some (9, .iconst 0, 1, [], 0) := rfl
theorem i_X12_byteAt_10 : am_i m_X12_byteAt 10 = some (10, .ireturn, 1, [], 0) := rfl
theorem i_X12_byteAt_11 : am_i m_X12_byteAt 11 = some (11, .aload_n 0, 1, [], 0) := rfl
theorem i_X12_byteAt_12 : am_i m_X12_byteAt 12 = some (12, .getfield 77, 3, [10, 21, 0], 0) := rfl
theorem i_X12_byteAt_15 : am_i m_X12_byteAt 15 = some (15, .iconst 2, 1, [], 2) := rfl
theorem i_X12_byteAt_16 : am_i m_X12_byteAt 16 = some (16, .iload_n 1, 1, [], 0) := rfl
theorem i_X12_byteAt_17 : am_i m_X12_byteAt 17 = some (17, .imul, 1, [], 0) := rfl
theorem i_X12_byteAt_18 : am_i m_X12_byteAt 18 = some (18, .iload_n 2, 1, [], 0) := rfl
theorem i_X12_byteAt_19 : am_i m_X12_byteAt 19 = some (19, .iadd, 1, [], 0) := rfl
theorem i_X12_byteAt_20 : am_i m_X12_byteAt 20 = some (20, .aaload, 1, [], 0) := rfl
theorem i_X12_byteAt_21 : am_i m_X12_byteAt 21 = some (21, .astore 4, 2, [], 0) := rfl
theorem i_X12_byteAt_23 : am_i m_X12_byteAt 23 = some (23, .aload_n 0, 1, [], 0) := rfl
theorem i_X12_byteAt_24 : am_i m_X12_byteAt 24 = some (24, .iload_n 3, 1, [], 0) := rfl
theorem i_X12_byteAt_25 : am_i m_X12_byteAt 25 = some (25, .iconst 0, 1, [], 0) := rfl
theorem i_X12_byteAt_26 : am_i m_X12_byteAt 26 = some (26, .aload 4, 2, [], 0) := rfl
theorem i_X12_byteAt_28 : am_i m_X12_byteAt 28 = some (28, .arraylength, 1, [], 0) := rfl
theorem i_X12_byteAt_29 : am_i m_X12_byteAt 29 = some (29, .iconst 1, 1, [], 1) := rfl
theorem i_X12_byteAt_30 : am_i m_X12_byteAt 30 = some (30, .isub, 1, [], 0) := rfl
theorem i_X12_byteAt_31 : am_i m_X12_byteAt 31 = some (31, .invokestatic 113, 3, [27], 0) := rfl
theorem i_X12_byteAt_34 : am_i m_X12_byteAt 34 = some (34, .ifCond .eq 7, 3, [], 0) := rfl
theorem i_X12_byteAt_37 : am_i m_X12_byteAt 37 = some (37, .iconst 0, 1, [], 0) := rfl
theorem i_X12_byteAt_38 : am_i m_X12_byteAt 38 = some (38, .goto 4, 3, [], 0) := rfl
theorem i_X12_byteAt_41 : am_i m_X12_byteAt 41 = some (41, .iconst 1, 1, [], 1) := rfl
theorem i_X12_byteAt_42 : am_i m_X12_byteAt 42 = some (42, .putfield 110, 3, [10, 0, 0], 0) := rfl
theorem i_X12_byteAt_45 : am_i m_X12_byteAt 45 = some (45, .aload_n 0, 1, [], 0) := rfl
theorem i_X12_byteAt_46 : am_i m_X12_byteAt 46 = some (46, .getfield 110, 3, [10, 0, 0], 0) := rfl
theorem i_X12_byteAt_49 : am_i m_X12_byteAt 49 = some (49, .ifCond .ne 10, 3, [], 0) := rfl
theorem i_X12_byteAt_52 : am_i m_X12_byteAt 52 = some (52, .aload 4, 2, [], 0) := rfl
theorem i_X12_byteAt_54 : am_i m_X12_byteAt 54 = some (54, .iload_n 3, 1, [], 0) := rfl
theorem i_X12_byteAt_55 : am_i m_X12_byteAt 55 = some (55, .iaload, 1, [], 0) := rfl
theorem i_X12_byteAt_56 : am_i m_X12_byteAt 56 = some (56, .goto 4, 3, [], 0) := rfl
theorem i_X12_byteAt_59 : am_i m_X12_byteAt 59 = some (59, .iconst 0, 1, [], 0) := rfl
theorem i_X12_byteAt_60 : am_i m_X12_byteAt 60 = some (60, .ireturn, 1, [], 0) := rfl
theorem b_X12_byteAt_6 {a0 b_20 n_b_20 : Nat} {x1 x2 x3 xs0 x3' xs0' : Int} {v4 : Value} {h : am_H} (w3 : wr x3 = x3') (ws0 : wr xs0 = xs0') (k1 : K10 h a0) (g2 : (xs0' = 0) → (0 ≤ wr ((2 * x1) + x2) ∧ wr ((2 * x1) + x2) < (24 : Int))) (e3 : (xs0' = 0) → (gA h (a0 + 13) (wr ((2 * x1) + x2)) = some b_20)) (n4 : (xs0' = 0) → (gn h b_20 = n_b_20)) (s5 : (xs0' = 0) → (sh h b_20 = (1, 0))) (g6 : (xs0' = 0) → (¬ ((¬ (¬ (x3' < 0) ∧ (¬ ((wr ((n_b_20 : Int) - 1)) < x3')))))) → (0 ≤ x3' ∧ x3' < (n_b_20 : Int))) : rn m_X12_byteAt 6 [.ref a0, .int (mI x1), .int (mI x2), .int (mI x3), v4] [.int (mI xs0)] h = if xs0' = 0 then some (.inl (some (.int (mI (if (¬ (¬ (x3' < 0) ∧ (¬ ((wr ((n_b_20 : Int) - 1)) < x3')))) then (0 : Int) else gZ (uF 10 h a0 0 (.int (mI (bZ (¬ (¬ (x3' < 0) ∧ (¬ ((wr ((n_b_20 : Int) - 1)) < x3')))))))) b_20 x3')))), uF 10 h a0 0 (.int (mI (bZ (¬ (¬ (x3' < 0) ∧ (¬ ((wr ((n_b_20 : Int) - 1)) < x3')))))))) else some (.inl (some (.int (mI 0))), h) := by
  refine (tq_if_eq (pt := 11) i_X12_byteAt_6 ws0 (by decide) rfl).trans ?_
  refine ite_congr rfl (fun c1 => ?_) (fun c1 => ?_)
  · refine (tq_aload_n i_X12_byteAt_11 rfl (isA_ref _) rfl).trans ?_
    refine (tq_getfield i_X12_byteAt_12 (K10_s k1) (gR (g_10_21 (K10_s k1)) (K10_e21 k1)) (isV_ref _) rfl).trans ?_
    refine (tq_iconst i_X12_byteAt_15 rfl).trans ?_
    refine (tq_iload_n i_X12_byteAt_16 rfl rfl).trans ?_
    refine (tq_imul i_X12_byteAt_17 rfl).trans ?_
    refine (tq_iload_n i_X12_byteAt_18 rfl rfl).trans ?_
    refine (tq_iadd i_X12_byteAt_19 rfl).trans ?_
    refine (tq_aaload i_X12_byteAt_20 (K10_s21 k1) rfl (g2 c1).1 (lt_gn (K10_n21 k1) (g2 c1).2) rfl).trans ?_
    rw [(e3 c1)]
    simp only [am_rv]
    refine (tq_astore (L' := [.ref a0, .int (mI x1), .int (mI x2), .int (mI x3), .ref b_20]) i_X12_byteAt_21 (isA_ref _) rfl rfl).trans ?_
    refine (tq_aload_n i_X12_byteAt_23 rfl (isA_ref _) rfl).trans ?_
    refine (tq_iload_n i_X12_byteAt_24 rfl rfl).trans ?_
    refine (tq_iconst i_X12_byteAt_25 rfl).trans ?_
    refine (tq_aload i_X12_byteAt_26 rfl (isA_ref _) rfl).trans ?_
    refine (tq_alen i_X12_byteAt_28 (s5 c1) (by decide) (by decide) rfl).trans ?_
    rw [(n4 c1)]
    refine (tq_iconst i_X12_byteAt_29 rfl).trans ?_
    refine (tq_isub i_X12_byteAt_30 rfl).trans ?_
    refine (c_X12_in i_X12_byteAt_31 (ltd d_X12_byteAt (by decide)) (stOk_1 _) rfl).trans ?_
    refine (congrArg (cl _ _ _ _) (b_X12_in_0 w3 w_0 rfl)).trans ?_
    refine (cl_v _ _ _ _ _ _).trans ?_
    refine (tq_ifb_eq (pt := 41) i_X12_byteAt_34 (by decide) rfl).trans ?_
    refine Eq.trans (b := if (¬ (x3' < 0) ∧ (¬ ((wr ((n_b_20 : Int) - 1)) < x3'))) then rn m_X12_byteAt 42 [.ref a0, .int (mI x1), .int (mI x2), .int (mI x3), .ref b_20] [.int (mI 0), .ref a0] h else rn m_X12_byteAt 42 [.ref a0, .int (mI x1), .int (mI x2), .int (mI x3), .ref b_20] [.int (mI 1), .ref a0] h) (ite_congr rfl (fun c2 => ?_) (fun c2 => ?_)) ?_
    · refine (tq_iconst i_X12_byteAt_37 rfl).trans ?_
      refine (tq_goto (pc' := 42) i_X12_byteAt_38 (by decide)).trans ?_
      rfl
    · refine (tq_iconst i_X12_byteAt_41 rfl).trans ?_
      rfl
    refine Eq.trans ite_b01 ?_
    refine (tq_putfield i_X12_byteAt_42 (K10_s k1) (okf_10_0 _) rfl).trans ?_
    refine (tq_aload_n i_X12_byteAt_45 rfl (isA_ref _) rfl).trans ?_
    refine (tq_getfield i_X12_byteAt_46 ((sh_uF _ _ _ _ _ _).trans (K10_s k1)) (gV_uF_eq (K10_s k1) (okf_10_0 _)) (isV_I _) rfl).trans ?_
    refine (tq_ifb_ne (pt := 59) i_X12_byteAt_49 (by decide) rfl).trans ?_
    refine Eq.trans (b := if (¬ (¬ (x3' < 0) ∧ (¬ ((wr ((n_b_20 : Int) - 1)) < x3')))) then rn m_X12_byteAt 60 [.ref a0, .int (mI x1), .int (mI x2), .int (mI x3), .ref b_20] [.int (mI 0)] (uF 10 h a0 0 (.int (mI (bZ (¬ (¬ (x3' < 0) ∧ (¬ ((wr ((n_b_20 : Int) - 1)) < x3')))))))) else rn m_X12_byteAt 60 [.ref a0, .int (mI x1), .int (mI x2), .int (mI x3), .ref b_20] [.int (mI (gZ (uF 10 h a0 0 (.int (mI (bZ (¬ (¬ (x3' < 0) ∧ (¬ ((wr ((n_b_20 : Int) - 1)) < x3')))))))) b_20 x3'))] (uF 10 h a0 0 (.int (mI (bZ (¬ (¬ (x3' < 0) ∧ (¬ ((wr ((n_b_20 : Int) - 1)) < x3'))))))))) (ite_congr rfl (fun c3 => ?_) (fun c3 => ?_)) ?_
    · refine (tq_iconst i_X12_byteAt_59 rfl).trans ?_
      rfl
    · refine (tq_aload i_X12_byteAt_52 rfl (isA_ref _) rfl).trans ?_
      refine (tq_iload_n i_X12_byteAt_54 rfl rfl).trans ?_
      refine (tq_iaload i_X12_byteAt_55 ((sh_uF _ _ _ _ _ _).trans (s5 c1)) (by decide) w3 (g6 c1 c3).1 (lt_gn ((gn_uF _ _ _ _ _ _).trans (n4 c1)) (g6 c1 c3).2) rfl).trans ?_
      refine (tq_goto (pc' := 60) i_X12_byteAt_56 (by decide)).trans ?_
      rfl
    refine Eq.trans ite_I ?_
    exact tq_ireturn i_X12_byteAt_60 r_X12_byteAt rfl
  · refine (tq_iconst i_X12_byteAt_9 rfl).trans ?_
    exact tq_ireturn i_X12_byteAt_10 r_X12_byteAt rfl
theorem m_byteAt (rm : RM σ h D) (wf : WfS σ c) {i s j : Int} (w : wr i = i) (ws : wr s = s) (wj : wr j = j) : (isBy σ i s j → MRs σ h D (rn m_X12_byteAt 0 [.ref 51, .int (mI i), .int (mI s), .int (mI j), am_J] [] h) (.int (mI (tpd σ i (if s = 0 then 6 else 7) j))) 0 0 0) ∧ (¬ isBy σ i s j → MRs σ h D (rn m_X12_byteAt 0 [.ref 51, .int (mI i), .int (mI s), .int (mI j), am_J] [] h) (.int (mI 0)) 1 0 0) := by
  obtain ⟨z, z1, z2, z3⟩ := nSl rm wf w ws
  have wz : wr z = z := wr_id (by omega) (by omega)
  obtain ⟨t1, t2, t3, tm⟩ := thr_ok rm wz
  have st := b_X12_byteAt_0 (a0 := 51) (x1 := i) (x2 := s) (x3 := j) (h := h) rm.1
  rw [z3, cl_v] at st
  have main : isSl σ i s → ∃ hb, rn m_X12_byteAt 0 [.ref 51, .int (mI i), .int (mI s), .int (mI j), am_J] [] h = some (.inl (some (.int (mI (if ¬ (0 ≤ j ∧ j < tpz σ i (if s = 0 then 8 else 9)) then 0 else tpd σ i (if s = 0 then 6 else 7) j)))), hb) ∧ RM σ hb D ∧ fZ hb 51 0 = bZ (¬ (0 ≤ j ∧ j < tpz σ i (if s = 0 then 8 else 9))) ∧ Fr SMl2 0 0 h hb := by
    intro g
    have z0 := z1.mpr g
    rw [z0] at st t1 t2 t3
    generalize uF 10 h 51 0 (.int (mI 0)) = h1 at *
    obtain ⟨m1, m2, U, u1, u2⟩ := m_row t1 wf g
    have zb : 0 ≤ tpz σ i (if s = 0 then 8 else 9) ∧ tpz σ i (if s = 0 then 8 else 9) ≤ 4096 := by
      obtain ⟨-, -, -, -, -, -, -, -, a8, a9, -⟩ := wf.2.2.2.1 i g.1.1 g.1.2
      split
      · exact a8
      · exact a9
    have st2 := b_X12_byteAt_6 (a0 := 51) (b_20 := U) (n_b_20 := gn h1 U) (x1 := i) (x2 := s) (x3 := j) (xs0 := 0) (v4 := am_J) (h := h1) wj (wr_id (by decide) (by decide)) t1.1 (fun _ => by rw [m1]; exact m2) (fun _ => by rw [m1]; exact u1) (fun _ => rfl) (fun _ => u2.2.1.1) (fun _ q => by rw [u2.2.1.2, wr_id (z := tpz σ i (if s = 0 then 8 else 9) - 1) (by omega) (by omega)] at q; rw [u2.2.1.2]; omega)
    rw [if_pos rfl, u2.2.1.2, wr_id (z := tpz σ i (if s = 0 then 8 else 9) - 1) (by omega) (by omega), bZ_congr (q := ¬ (0 ≤ j ∧ j < tpz σ i (if s = 0 then 8 else 9))) (by omega)] at st2
    obtain ⟨v1, v2, v3, vm⟩ := thr_ok (z := bZ (¬ (0 ≤ j ∧ j < tpz σ i (if s = 0 then 8 else 9)))) t1 (wr_bZ _)
    have gg : gZ (uF 10 h1 51 0 (.int (mI (bZ (¬ (0 ≤ j ∧ j < tpz σ i (if s = 0 then 8 else 9))))))) U j = gZ h1 U j := md_gZ vm (by have := u2.1.1; omega) j
    rw [gg] at st2
    refine ⟨_, (st.trans st2).trans ?_, v1, v2, Fr_mono (Fr_tr (U := SMl2) t3 v3 (fun _ _ _ q => q) (fun _ _ _ q => q)) (fun _ _ _ q => q) (by decide) (by decide)⟩
    by_cases q : 0 ≤ j ∧ j < tpz σ i (if s = 0 then 8 else 9)
    · rw [if_neg (c := ¬ (0 ≤ j ∧ j < tpz σ i (if s = 0 then 8 else 9))) (fun w => w q), if_neg (by omega), u2.2.2 j q.1 q.2]
    · rw [if_pos (c := ¬ (0 ≤ j ∧ j < tpz σ i (if s = 0 then 8 else 9))) q, if_pos (by omega)]
  refine ⟨fun g => ?_, fun g => ?_⟩
  · obtain ⟨hb, e, r1, r2, r3⟩ := main g.1
    rw [if_neg (fun w => w g.2)] at e
    rw [bZ_f (fun w => w g.2)] at r2
    exact ⟨hb, e, r1, r2, r3⟩
  · by_cases cs : isSl σ i s
    · obtain ⟨hb, e, r1, r2, r3⟩ := main cs
      have nj : ¬ (0 ≤ j ∧ j < tpz σ i (if s = 0 then 8 else 9)) := fun w => g ⟨cs, w⟩
      rw [if_pos nj] at e
      rw [bZ_t nj] at r2
      exact ⟨hb, e, r1, r2, r3⟩
    · have z0 : z = 1 := by
        rcases z2 with e | e
        · exact absurd (z1.mp e) cs
        · exact e
      rw [z0] at st t1 t2 t3
      have st2 := b_X12_byteAt_6 (a0 := 51) (b_20 := 0) (n_b_20 := 0) (x1 := i) (x2 := s) (x3 := j) (xs0 := 1) (v4 := am_J) (h := uF 10 h 51 0 (.int (mI 1))) wj (wr_id (by decide) (by decide)) t1.1 (fun q => absurd q (by decide)) (fun q => absurd q (by decide)) (fun q => absurd q (by decide)) (fun q => absurd q (by decide)) (fun q => absurd q (by decide))
      rw [if_neg (by decide)] at st2
      exact ⟨_, st.trans st2, t1, t2, t3⟩
theorem i_X12_pixel_0 : am_i m_X12_pixel 0 = some (0, .aload_n 0, 1, [], 0) := rfl
theorem i_X12_pixel_1 : am_i m_X12_pixel 1 = some (1, .iload_n 1, 1, [], 0) := rfl
theorem i_X12_pixel_2 : am_i m_X12_pixel 2 = some (2, .iload_n 2, 1, [], 0) := rfl
theorem i_X12_pixel_3 : am_i m_X12_pixel 3 = some (3, .invokestatic 126, 3, [80], 0) := rfl
theorem i_X12_pixel_6 : am_i m_X12_pixel 6 = some (6, .ifCond .eq 7, 3, [], 0) := rfl
theorem i_X12_pixel_9 : am_i m_X12_pixel 9 = some (9, .iconst 0, 1, [], 0) := rfl
theorem i_X12_pixel_10 : am_i m_X12_pixel 10 = some (10, .goto 4, 3, [], 0) := rfl
theorem i_X12_pixel_13 : am_i m_X12_pixel 13 = some (13, .iconst 1, 1, [], 1) := rfl
theorem i_X12_pixel_14 : am_i m_X12_pixel 14 = some (14, .putfield 110, 3, [10, 0, 0], 0) := rfl
theorem i_X12_pixel_17 : am_i m_X12_pixel 17 = some (17, .aload_n 0, 1, [], 0) := rfl
theorem i_X12_pixel_18 : am_i m_X12_pixel 18 = some (18, .getfield 110, 3, [10, 0, 0], 0) := rfl
theorem i_X12_pixel_21 : am_i m_X12_pixel 21 = some (21, .ifCond .ne 17, 3, [], 0) := rfl
theorem i_X12_pixel_24 : am_i m_X12_pixel 24 = some (24, .aload_n 0, 1, [], 0) := rfl
theorem i_X12_pixel_25 : am_i m_X12_pixel 25 = some (25, .getfield 18, 3, [10, 1, 0], 0) := rfl
theorem i_X12_pixel_28 : am_i m_X12_pixel 28 = some (28, .bipush 16, 2, [], 16) := rfl
theorem i_X12_pixel_30 : am_i m_X12_pixel 30 = some (30, .iload_n 2, 1, [], 0) := rfl
theorem i_X12_pixel_31 : am_i m_X12_pixel 31 = some (31, .imul, 1, [], 0) := rfl
theorem i_X12_pixel_32 : am_i m_X12_pixel 32 = some (32, .iload_n 1, 1, [], 0) := rfl
theorem i_X12_pixel_33 : am_i m_X12_pixel 33 = some (33, .iadd, 1, [], 0) := rfl
theorem i_X12_pixel_34 : am_i m_X12_pixel 34 = some (34, .iaload, 1, [], 0) := rfl
theorem i_X12_pixel_35 : am_i m_X12_pixel 35 = some (35, .goto 4, 3, [], 0) := rfl
theorem i_X12_pixel_38 : am_i m_X12_pixel 38 = some (38, .iconst 0, 1, [], 0) := rfl
theorem i_X12_pixel_39 : am_i m_X12_pixel 39 = some (39, .ireturn, 1, [], 0) := rfl
theorem b_X12_pixel_0 {a0 : Nat} {x1 x2 x1' x2' : Int} {h : am_H} (w1 : wr x1 = x1') (w2 : wr x2 = x2') (k1 : K10 h a0) (g2 : (¬ ((¬ ((¬ (x1' < 0) ∧ (¬ (15 < x1'))) ∧ ((¬ (x2' < 0) ∧ (¬ (15 < x2')))))))) → (0 ≤ wr ((16 * x2) + x1) ∧ wr ((16 * x2) + x1) < (256 : Int))) : rn m_X12_pixel 0 [.ref a0, .int (mI x1), .int (mI x2)] [] h = some (.inl (some (.int (mI (if (¬ ((¬ (x1' < 0) ∧ (¬ (15 < x1'))) ∧ ((¬ (x2' < 0) ∧ (¬ (15 < x2')))))) then (0 : Int) else gZ (uF 10 h a0 0 (.int (mI (bZ (¬ ((¬ (x1' < 0) ∧ (¬ (15 < x1'))) ∧ ((¬ (x2' < 0) ∧ (¬ (15 < x2')))))))))) (a0 + 1) (wr ((16 * x2) + x1)))))), uF 10 h a0 0 (.int (mI (bZ (¬ ((¬ (x1' < 0) ∧ (¬ (15 < x1'))) ∧ ((¬ (x2' < 0) ∧ (¬ (15 < x2')))))))))) := by
  refine (tq_aload_n i_X12_pixel_0 rfl (isA_ref _) rfl).trans ?_
  refine (tq_iload_n i_X12_pixel_1 rfl rfl).trans ?_
  refine (tq_iload_n i_X12_pixel_2 rfl rfl).trans ?_
  refine (c_X12_isPixel i_X12_pixel_3 (ltd d_X12_pixel (by decide)) (stOk_1 _) rfl).trans ?_
  refine (congrArg (cl _ _ _ _) (b_X12_isPixel_0 w1 w2)).trans ?_
  refine (cl_v _ _ _ _ _ _).trans ?_
  refine (tq_ifb_eq (pt := 13) i_X12_pixel_6 (by decide) rfl).trans ?_
  refine Eq.trans (b := if ((¬ (x1' < 0) ∧ (¬ (15 < x1'))) ∧ ((¬ (x2' < 0) ∧ (¬ (15 < x2'))))) then rn m_X12_pixel 14 [.ref a0, .int (mI x1), .int (mI x2)] [.int (mI 0), .ref a0] h else rn m_X12_pixel 14 [.ref a0, .int (mI x1), .int (mI x2)] [.int (mI 1), .ref a0] h) (ite_congr rfl (fun c1 => ?_) (fun c1 => ?_)) ?_
  · refine (tq_iconst i_X12_pixel_9 rfl).trans ?_
    refine (tq_goto (pc' := 14) i_X12_pixel_10 (by decide)).trans ?_
    rfl
  · refine (tq_iconst i_X12_pixel_13 rfl).trans ?_
    rfl
  refine Eq.trans ite_b01 ?_
  refine (tq_putfield i_X12_pixel_14 (K10_s k1) (okf_10_0 _) rfl).trans ?_
  refine (tq_aload_n i_X12_pixel_17 rfl (isA_ref _) rfl).trans ?_
  refine (tq_getfield i_X12_pixel_18 ((sh_uF _ _ _ _ _ _).trans (K10_s k1)) (gV_uF_eq (K10_s k1) (okf_10_0 _)) (isV_I _) rfl).trans ?_
  refine (tq_ifb_ne (pt := 38) i_X12_pixel_21 (by decide) rfl).trans ?_
  refine Eq.trans (b := if (¬ ((¬ (x1' < 0) ∧ (¬ (15 < x1'))) ∧ ((¬ (x2' < 0) ∧ (¬ (15 < x2')))))) then rn m_X12_pixel 39 [.ref a0, .int (mI x1), .int (mI x2)] [.int (mI 0)] (uF 10 h a0 0 (.int (mI (bZ (¬ ((¬ (x1' < 0) ∧ (¬ (15 < x1'))) ∧ ((¬ (x2' < 0) ∧ (¬ (15 < x2')))))))))) else rn m_X12_pixel 39 [.ref a0, .int (mI x1), .int (mI x2)] [.int (mI (gZ (uF 10 h a0 0 (.int (mI (bZ (¬ ((¬ (x1' < 0) ∧ (¬ (15 < x1'))) ∧ ((¬ (x2' < 0) ∧ (¬ (15 < x2')))))))))) (a0 + 1) (wr ((16 * x2) + x1))))] (uF 10 h a0 0 (.int (mI (bZ (¬ ((¬ (x1' < 0) ∧ (¬ (15 < x1'))) ∧ ((¬ (x2' < 0) ∧ (¬ (15 < x2'))))))))))) (ite_congr rfl (fun c2 => ?_) (fun c2 => ?_)) ?_
  · refine (tq_iconst i_X12_pixel_38 rfl).trans ?_
    rfl
  · refine (tq_aload_n i_X12_pixel_24 rfl (isA_ref _) rfl).trans ?_
    refine (tq_getfield i_X12_pixel_25 ((sh_uF _ _ _ _ _ _).trans (K10_s k1)) (gR ((g_10_1 ((sh_uF _ _ _ _ _ _).trans (K10_s k1))).trans (congrArg am_rv (fA_uF_nk (K10_s k1) (okf_10_0 _) (by decide)))) (K10_e1 k1)) (isV_ref _) rfl).trans ?_
    refine (tq_bipush i_X12_pixel_28 rfl).trans ?_
    refine (tq_iload_n i_X12_pixel_30 rfl rfl).trans ?_
    refine (tq_imul i_X12_pixel_31 rfl).trans ?_
    refine (tq_iload_n i_X12_pixel_32 rfl rfl).trans ?_
    refine (tq_iadd i_X12_pixel_33 rfl).trans ?_
    refine (tq_iaload i_X12_pixel_34 ((sh_uF _ _ _ _ _ _).trans (K10_s1 k1)) (by decide) rfl (g2 c2).1 (lt_gn ((gn_uF _ _ _ _ _ _).trans (K10_n1 k1)) (g2 c2).2) rfl).trans ?_
    refine (tq_goto (pc' := 39) i_X12_pixel_35 (by decide)).trans ?_
    rfl
  refine Eq.trans ite_I ?_
  exact tq_ireturn i_X12_pixel_39 r_X12_pixel rfl
theorem m_pixel (rm : RM σ h D) {x y : Int} (wx : wr x = x) (wy : wr y = y) : ((0 ≤ x ∧ x < 16) ∧ 0 ≤ y ∧ y < 16 → MRs σ h D (rn m_X12_pixel 0 [.ref 51, .int (mI x), .int (mI y)] [] h) (.int (mI (tc σ (16 * y + x)))) 0 0 0) ∧ (¬ ((0 ≤ x ∧ x < 16) ∧ 0 ≤ y ∧ y < 16) → MRs σ h D (rn m_X12_pixel 0 [.ref 51, .int (mI x), .int (mI y)] [] h) (.int (mI 0)) 1 0 0) := by
  have st := b_X12_pixel_0 (a0 := 51) (x1 := x) (x2 := y) (h := h) wx wy rm.1 (fun g => by have := w16 (x := x) (y := y) (by omega) (by omega); rw [this.1]; exact this.2)
  simp only [Nat.reduceAdd] at st
  refine ⟨fun g => ?_, fun g => ?_⟩
  · obtain ⟨b0, b1, b2⟩ := w16 g.1 g.2
    rw [if_neg (by omega), bZ_f (by omega), b0] at st
    refine MRs_thr rm (wr_id (by decide) (by decide)) (st.trans ?_)
    obtain ⟨t1, -, -, tm⟩ := thr_ok (z := 0) rm (wr_id (by decide) (by decide))
    rw [t1.2.2.1]
  · rw [if_pos (by omega), bZ_t (by omega)] at st
    exact MRs_thr rm (wr_id (by decide) (by decide)) st
theorem i_X12_keptAt_0 : am_i m_X12_keptAt 0 = some (0, .aload_n 0, 1, [], 0) := rfl
theorem i_X12_keptAt_1 : am_i m_X12_keptAt 1 = some (1, .iload_n 1, 1, [], 0) := rfl
theorem i_X12_keptAt_2 : am_i m_X12_keptAt 2 = some (2, .iconst 0, 1, [], 0) := rfl
theorem i_X12_keptAt_3 : am_i m_X12_keptAt 3 = some (3, .aload_n 0, 1, [], 0) := rfl
theorem i_X12_keptAt_4 : am_i m_X12_keptAt 4 = some (4, .getfield 302, 3, [10, 26, 0], 0) := rfl
theorem i_X12_keptAt_7 : am_i m_X12_keptAt 7 = some (7, .iconst 1, 1, [], 1) := rfl
theorem i_X12_keptAt_8 : am_i m_X12_keptAt 8 = some (8, .isub, 1, [], 0) := rfl
theorem i_X12_keptAt_9 : am_i m_X12_keptAt 9 = some (9, .invokestatic 113, 3, [27], 0) := rfl
theorem i_X12_keptAt_12 : am_i m_X12_keptAt 12 = some (12, .ifCond .eq 7, 3, [], 0) := rfl
theorem i_X12_keptAt_15 : am_i m_X12_keptAt 15 = some (15, .iconst 0, 1, [], 0) := rfl
theorem i_X12_keptAt_16 : am_i m_X12_keptAt 16 = some (16, .goto 4, 3, [], 0) := rfl
theorem i_X12_keptAt_19 : am_i m_X12_keptAt 19 = some (19, .iconst 1, 1, [], 1) := rfl
theorem i_X12_keptAt_20 : am_i m_X12_keptAt 20 = some (20, .putfield 110, 3, [10, 0, 0], 0) := rfl
theorem i_X12_keptAt_23 : am_i m_X12_keptAt 23 = some (23, .aload_n 0, 1, [], 0) := rfl
theorem i_X12_keptAt_24 : am_i m_X12_keptAt 24 = some (24, .getfield 110, 3, [10, 0, 0], 0) := rfl
theorem i_X12_keptAt_27 : am_i m_X12_keptAt 27 = some (27, .ifCond .ne 12, 3, [], 0) := rfl
theorem i_X12_keptAt_30 : am_i m_X12_keptAt 30 = some (30, .aload_n 0, 1, [], 0) := rfl
theorem i_X12_keptAt_31 : am_i m_X12_keptAt 31 = some (31, .getfield 89, 3, [10, 25, 0], 0) := rfl
theorem i_X12_keptAt_34 : am_i m_X12_keptAt 34 = some (34, .iload_n 1, 1, [], 0) := rfl
theorem i_X12_keptAt_35 : am_i m_X12_keptAt 35 = some (35, .iaload, 1, [], 0) := rfl
theorem i_X12_keptAt_36 : am_i m_X12_keptAt 36 = some (36, .goto 4, 3, [], 0) := rfl
theorem i_X12_keptAt_39 : am_i m_X12_keptAt 39 = some (39, .iconst 0, 1, [], 0) := rfl
theorem i_X12_keptAt_40 : am_i m_X12_keptAt 40 = some (40, .ireturn, 1, [], 0) := rfl
theorem b_X12_keptAt_0 {a0 : Nat} {x1 x1' : Int} {h : am_H} (w1 : wr x1 = x1') (k1 : K10 h a0) (g2 : (¬ ((¬ (¬ (x1' < 0) ∧ (¬ ((wr ((fZ h a0 26) - 1)) < x1')))))) → (0 ≤ x1' ∧ x1' < (3 : Int))) : rn m_X12_keptAt 0 [.ref a0, .int (mI x1)] [] h = some (.inl (some (.int (mI (if (¬ (¬ (x1' < 0) ∧ (¬ ((wr ((fZ h a0 26) - 1)) < x1')))) then (0 : Int) else gZ (uF 10 h a0 0 (.int (mI (bZ (¬ (¬ (x1' < 0) ∧ (¬ ((wr ((fZ h a0 26) - 1)) < x1')))))))) (a0 + 17) x1')))), uF 10 h a0 0 (.int (mI (bZ (¬ (¬ (x1' < 0) ∧ (¬ ((wr ((fZ h a0 26) - 1)) < x1')))))))) := by
  refine (tq_aload_n i_X12_keptAt_0 rfl (isA_ref _) rfl).trans ?_
  refine (tq_iload_n i_X12_keptAt_1 rfl rfl).trans ?_
  refine (tq_iconst i_X12_keptAt_2 rfl).trans ?_
  refine (tq_aload_n i_X12_keptAt_3 rfl (isA_ref _) rfl).trans ?_
  refine (tq_getfield i_X12_keptAt_4 (K10_s k1) (g_10_26 (K10_s k1)) (isV_I _) rfl).trans ?_
  refine (tq_iconst i_X12_keptAt_7 rfl).trans ?_
  refine (tq_isub i_X12_keptAt_8 rfl).trans ?_
  refine (c_X12_in i_X12_keptAt_9 (ltd d_X12_keptAt (by decide)) (stOk_1 _) rfl).trans ?_
  refine (congrArg (cl _ _ _ _) (b_X12_in_0 w1 w_0 rfl)).trans ?_
  refine (cl_v _ _ _ _ _ _).trans ?_
  refine (tq_ifb_eq (pt := 19) i_X12_keptAt_12 (by decide) rfl).trans ?_
  refine Eq.trans (b := if (¬ (x1' < 0) ∧ (¬ ((wr ((fZ h a0 26) - 1)) < x1'))) then rn m_X12_keptAt 20 [.ref a0, .int (mI x1)] [.int (mI 0), .ref a0] h else rn m_X12_keptAt 20 [.ref a0, .int (mI x1)] [.int (mI 1), .ref a0] h) (ite_congr rfl (fun c1 => ?_) (fun c1 => ?_)) ?_
  · refine (tq_iconst i_X12_keptAt_15 rfl).trans ?_
    refine (tq_goto (pc' := 20) i_X12_keptAt_16 (by decide)).trans ?_
    rfl
  · refine (tq_iconst i_X12_keptAt_19 rfl).trans ?_
    rfl
  refine Eq.trans ite_b01 ?_
  refine (tq_putfield i_X12_keptAt_20 (K10_s k1) (okf_10_0 _) rfl).trans ?_
  refine (tq_aload_n i_X12_keptAt_23 rfl (isA_ref _) rfl).trans ?_
  refine (tq_getfield i_X12_keptAt_24 ((sh_uF _ _ _ _ _ _).trans (K10_s k1)) (gV_uF_eq (K10_s k1) (okf_10_0 _)) (isV_I _) rfl).trans ?_
  refine (tq_ifb_ne (pt := 39) i_X12_keptAt_27 (by decide) rfl).trans ?_
  refine Eq.trans (b := if (¬ (¬ (x1' < 0) ∧ (¬ ((wr ((fZ h a0 26) - 1)) < x1')))) then rn m_X12_keptAt 40 [.ref a0, .int (mI x1)] [.int (mI 0)] (uF 10 h a0 0 (.int (mI (bZ (¬ (¬ (x1' < 0) ∧ (¬ ((wr ((fZ h a0 26) - 1)) < x1')))))))) else rn m_X12_keptAt 40 [.ref a0, .int (mI x1)] [.int (mI (gZ (uF 10 h a0 0 (.int (mI (bZ (¬ (¬ (x1' < 0) ∧ (¬ ((wr ((fZ h a0 26) - 1)) < x1')))))))) (a0 + 17) x1'))] (uF 10 h a0 0 (.int (mI (bZ (¬ (¬ (x1' < 0) ∧ (¬ ((wr ((fZ h a0 26) - 1)) < x1'))))))))) (ite_congr rfl (fun c2 => ?_) (fun c2 => ?_)) ?_
  · refine (tq_iconst i_X12_keptAt_39 rfl).trans ?_
    rfl
  · refine (tq_aload_n i_X12_keptAt_30 rfl (isA_ref _) rfl).trans ?_
    refine (tq_getfield i_X12_keptAt_31 ((sh_uF _ _ _ _ _ _).trans (K10_s k1)) (gR ((g_10_25 ((sh_uF _ _ _ _ _ _).trans (K10_s k1))).trans (congrArg am_rv (fA_uF_nk (K10_s k1) (okf_10_0 _) (by decide)))) (K10_e25 k1)) (isV_ref _) rfl).trans ?_
    refine (tq_iload_n i_X12_keptAt_34 rfl rfl).trans ?_
    refine (tq_iaload i_X12_keptAt_35 ((sh_uF _ _ _ _ _ _).trans (K10_s25 k1)) (by decide) w1 (g2 c2).1 (lt_gn ((gn_uF _ _ _ _ _ _).trans (K10_n25 k1)) (g2 c2).2) rfl).trans ?_
    refine (tq_goto (pc' := 40) i_X12_keptAt_36 (by decide)).trans ?_
    rfl
  refine Eq.trans ite_I ?_
  exact tq_ireturn i_X12_keptAt_40 r_X12_keptAt rfl
theorem m_keptAt (rm : RM σ h D) (wf : WfS σ c) {j : Int} (w : wr j = j) : (0 ≤ j ∧ j < tz σ 8 → MRs σ h D (rn m_X12_keptAt 0 [.ref 51, .int (mI j)] [] h) (.int (mI (tk σ j))) 0 0 0) ∧ (¬ (0 ≤ j ∧ j < tz σ 8) → MRs σ h D (rn m_X12_keptAt 0 [.ref 51, .int (mI j)] [] h) (.int (mI 0)) 1 0 0) := by
  have e : fZ h 51 26 = tz σ 8 := rm.2.2.2.1.2.2.2
  have b := wf.2.1.2.1
  have st := b_X12_keptAt_0 (a0 := 51) (x1 := j) (h := h) w rm.1 (fun g => by rw [e, wr_id (z := tz σ 8 - 1) (by omega) (by omega)] at g; omega)
  simp only [Nat.reduceAdd] at st
  rw [e, wr_id (z := tz σ 8 - 1) (by omega) (by omega)] at st
  refine ⟨fun g => ?_, fun g => ?_⟩
  · rw [if_neg (by omega), bZ_f (by omega)] at st
    refine MRs_thr rm (wr_id (by decide) (by decide)) (st.trans ?_)
    obtain ⟨t1, -, -, tm⟩ := thr_ok (z := 0) rm (wr_id (by decide) (by decide))
    rw [t1.2.2.2.2.1 j g.1 g.2]
  · rw [if_pos (by omega), bZ_t (by omega)] at st
    exact MRs_thr rm (wr_id (by decide) (by decide)) st
theorem m_bucket (rm : RM σ h D) (wf : WfS σ c) : (0 < tz σ 4 → MRs σ h D (rn m_X12_bucket 0 [.ref 51] [] h) (.int (mI (tz σ 6))) 0 0 0) ∧ (¬ 0 < tz σ 4 → MRs σ h D (rn m_X12_bucket 0 [.ref 51] [] h) (.int (mI 0)) 1 0 0) := by
  have e : fZ h 51 8 = if tz σ 4 = 0 then -1 else tz σ 6 := rm.2.2.2.1.2.1.2.2
  have b := wf.1.2.2.2.2.1
  have b6 := wf.1.2.2.2.2.2.2
  have st := b_X12_bucket_0 (a0 := 51) (h := h) rm.1
  rw [e] at st
  refine ⟨fun g => ?_, fun g => ?_⟩
  · rw [if_neg (c := tz σ 4 = 0) (by omega), if_neg (by omega), bZ_f (by omega)] at st
    exact MRs_thr rm (wr_id (by decide) (by decide)) st
  · rw [if_pos (c := tz σ 4 = 0) (by omega), if_pos (by omega), bZ_t (by omega)] at st
    exact MRs_thr rm (wr_id (by decide) (by decide)) st
theorem m_shown (rm : RM σ h D) : (tz σ 10 ≠ -1 → MRs σ h D (rn m_X12_shown 0 [.ref 51] [] h) (.int (mI (tz σ 10))) 0 0 0) ∧ (tz σ 10 = -1 → MRs σ h D (rn m_X12_shown 0 [.ref 51] [] h) (.int (mI 0)) 1 0 0) := by
  have st := b_X12_shown_0 (a0 := 51) (h := h) rm.1
  have e : fZ h 51 40 = tz σ 10 := rm.2.2.2.2.2.2.1.2.1
  rw [e] at st
  refine ⟨fun g => ?_, fun g => ?_⟩
  · rw [bZ_f (p := ¬ (¬ tz σ 10 = -1)) (fun q => q g), if_neg (by decide)] at st
    exact MRs_thr rm (wr_id (by decide) (by decide)) st
  · rw [bZ_t (p := ¬ (¬ tz σ 10 = -1)) (fun q => q g), if_pos (by decide)] at st
    exact MRs_thr rm (wr_id (by decide) (by decide)) st
theorem m_isClean (rm : RM σ h D) (wf : WfS σ c) : (tz σ 10 ≠ -1 → MRs σ h D (rn m_X12_isClean 0 [.ref 51] [] h) (.int (mI (tz σ 11))) 0 0 0) ∧ (tz σ 10 = -1 → MRs σ h D (rn m_X12_isClean 0 [.ref 51] [] h) (.int (mI 0)) 1 0 0) := by
  have st := b_X12_isClean_0 (a0 := 51) (h := h) rm.1
  have e : fZ h 51 40 = tz σ 10 := rm.2.2.2.2.2.2.1.2.1
  have c01 := wf.2.2.2.2.1.2.2.1
  rw [e] at st
  refine ⟨fun g => ?_, fun g => ?_⟩
  · have e42 : fZ h 51 42 = tz σ 11 := rm.2.2.2.2.2.2.2.1 g
    rw [bZ_f (p := ¬ (¬ tz σ 10 = -1)) (fun q => q g), e42] at st
    have e : bZ (¬ (¬ ((0 : Int) ≤ 0)) ∧ (¬ (tz σ 11 = 0))) = tz σ 11 := by
      rcases c01 with e | e
      · rw [e]; rfl
      · rw [e]; rfl
    rw [e] at st
    exact MRs_thr rm (wr_id (by decide) (by decide)) st
  · rw [bZ_t (p := ¬ (¬ tz σ 10 = -1)) (fun q => q g), bZ_f (fun q => q.1 (by decide))] at st
    exact MRs_thr rm (wr_id (by decide) (by decide)) st
theorem i_X12_shownAt_0 : am_i m_X12_shownAt 0 = some (0, .aload_n 0, 1, [], 0) := rfl
theorem i_X12_shownAt_1 : am_i m_X12_shownAt 1 = some (1, .iload_n 1, 1, [], 0) := rfl
theorem i_X12_shownAt_2 : am_i m_X12_shownAt 2 = some (2, .iload_n 2, 1, [], 0) := rfl
theorem i_X12_shownAt_3 : am_i m_X12_shownAt 3 = some (3, .invokestatic 126, 3, [80], 0) := rfl
theorem i_X12_shownAt_6 : am_i m_X12_shownAt 6 = some (6, .ifCond .ne 7, 3, [], 0) := rfl
theorem i_X12_shownAt_9 : am_i m_X12_shownAt 9 = some (9, .iconst 1, 1, [], 1) := rfl
theorem i_X12_shownAt_10 : am_i m_X12_shownAt 10 = some (10, .goto 16, 3, [], 0) := rfl
theorem i_X12_shownAt_13 : am_i m_X12_shownAt 13 = some (13, .aload_n 0, 1, [], 0) := rfl
theorem i_X12_shownAt_14 : am_i m_X12_shownAt 14 = some (14, .getfield 101, 3, [10, 40, 0], 0) := rfl
theorem i_X12_shownAt_17 : am_i m_X12_shownAt 17 = some (17, .iconst (-1), 1, [], -1) := rfl
theorem i_X12_shownAt_18 : am_i m_X12_shownAt 18 = some (18, .if_icmp .ne 7, 3, [], 0) := rfl
theorem i_X12_shownAt_21 : am_i m_X12_shownAt 21 = some (21, .iconst 2, 1, [], 2) := rfl
theorem i_X12_shownAt_22 : am_i m_X12_shownAt 22 = some (22, .goto 4, 3, [], 0) := rfl
theorem i_X12_shownAt_25 : am_i m_X12_shownAt 25 = some (25, .iconst 0, 1, [], 0) := rfl
theorem i_X12_shownAt_26 : am_i m_X12_shownAt 26 = some (26, .putfield 110, 3, [10, 0, 0], 0) := rfl
theorem i_X12_shownAt_29 : am_i m_X12_shownAt 29 = some (29, .aload_n 0, 1, [], 0) := rfl
theorem i_X12_shownAt_30 : am_i m_X12_shownAt 30 = some (30, .getfield 110, 3, [10, 0, 0], 0) := rfl
theorem i_X12_shownAt_33 : am_i m_X12_shownAt 33 = some (33, .ifCond .ne 17, 3, [], 0) := rfl
theorem i_X12_shownAt_36 : am_i m_X12_shownAt 36 = some (36, .aload_n 0, 1, [], 0) := rfl
theorem i_X12_shownAt_37 : am_i m_X12_shownAt 37 = some (37, .getfield 344, 3, [10, 41, 0], 0) := rfl
theorem i_X12_shownAt_40 : am_i m_X12_shownAt 40 = some (40, .bipush 16, 2, [], 16) := rfl
theorem i_X12_shownAt_42 : am_i m_X12_shownAt 42 = some (42, .iload_n 2, 1, [], 0) := rfl
theorem i_X12_shownAt_43 : am_i m_X12_shownAt 43 = some (43, .imul, 1, [], 0) := rfl
theorem i_X12_shownAt_44 : am_i m_X12_shownAt 44 = some (44, .iload_n 1, 1, [], 0) := rfl
theorem i_X12_shownAt_45 : am_i m_X12_shownAt 45 = some (45, .iadd, 1, [], 0) := rfl
theorem i_X12_shownAt_46 : am_i m_X12_shownAt 46 = some (46, .iaload, 1, [], 0) := rfl
theorem i_X12_shownAt_47 : am_i m_X12_shownAt 47 = some (47, .goto 4, 3, [], 0) := rfl
theorem i_X12_shownAt_50 : am_i m_X12_shownAt 50 = some (50, .iconst 0, 1, [], 0) := rfl
theorem i_X12_shownAt_51 : am_i m_X12_shownAt 51 = some (51, .ireturn, 1, [], 0) := rfl
theorem b_X12_shownAt_0 {a0 a0_screen n_a0_screen : Nat} {x1 x2 x1' x2' : Int} {h : am_H} (w1 : wr x1 = x1') (w2 : wr x2 = x2') (k1 : K10 h a0) (e2 : (¬ (¬ (if ((¬ (x1' < 0) ∧ (¬ (15 < x1'))) ∧ ((¬ (x2' < 0) ∧ (¬ (15 < x2'))))) then ((if ¬ (fZ h a0 40) = (-1) then (0 : Int) else 2) : Int) else 1) = 0)) → (fA h a0 41 = some a0_screen)) (n3 : (¬ (¬ (if ((¬ (x1' < 0) ∧ (¬ (15 < x1'))) ∧ ((¬ (x2' < 0) ∧ (¬ (15 < x2'))))) then ((if ¬ (fZ h a0 40) = (-1) then (0 : Int) else 2) : Int) else 1) = 0)) → (gn h a0_screen = n_a0_screen)) (s4 : (¬ (¬ (if ((¬ (x1' < 0) ∧ (¬ (15 < x1'))) ∧ ((¬ (x2' < 0) ∧ (¬ (15 < x2'))))) then ((if ¬ (fZ h a0 40) = (-1) then (0 : Int) else 2) : Int) else 1) = 0)) → (sh h a0_screen = (1, 0))) (g5 : (¬ (¬ (if ((¬ (x1' < 0) ∧ (¬ (15 < x1'))) ∧ ((¬ (x2' < 0) ∧ (¬ (15 < x2'))))) then ((if ¬ (fZ h a0 40) = (-1) then (0 : Int) else 2) : Int) else 1) = 0)) → (0 ≤ wr ((16 * x2) + x1) ∧ wr ((16 * x2) + x1) < (n_a0_screen : Int))) : rn m_X12_shownAt 0 [.ref a0, .int (mI x1), .int (mI x2)] [] h = some (.inl (some (.int (mI (if ¬ (if ((¬ (x1' < 0) ∧ (¬ (15 < x1'))) ∧ ((¬ (x2' < 0) ∧ (¬ (15 < x2'))))) then ((if ¬ (fZ h a0 40) = (-1) then (0 : Int) else 2) : Int) else 1) = 0 then (0 : Int) else gZ (uF 10 h a0 0 (.int (mI (if ((¬ (x1' < 0) ∧ (¬ (15 < x1'))) ∧ ((¬ (x2' < 0) ∧ (¬ (15 < x2'))))) then ((if ¬ (fZ h a0 40) = (-1) then (0 : Int) else 2) : Int) else 1)))) a0_screen (wr ((16 * x2) + x1)))))), uF 10 h a0 0 (.int (mI (if ((¬ (x1' < 0) ∧ (¬ (15 < x1'))) ∧ ((¬ (x2' < 0) ∧ (¬ (15 < x2'))))) then ((if ¬ (fZ h a0 40) = (-1) then (0 : Int) else 2) : Int) else 1)))) := by
  refine (tq_aload_n i_X12_shownAt_0 rfl (isA_ref _) rfl).trans ?_
  refine (tq_iload_n i_X12_shownAt_1 rfl rfl).trans ?_
  refine (tq_iload_n i_X12_shownAt_2 rfl rfl).trans ?_
  refine (c_X12_isPixel i_X12_shownAt_3 (ltd d_X12_shownAt (by decide)) (stOk_1 _) rfl).trans ?_
  refine (congrArg (cl _ _ _ _) (b_X12_isPixel_0 w1 w2)).trans ?_
  refine (cl_v _ _ _ _ _ _).trans ?_
  refine (tq_ifb_ne (pt := 13) i_X12_shownAt_6 (by decide) rfl).trans ?_
  refine Eq.trans (b := if ((¬ (x1' < 0) ∧ (¬ (15 < x1'))) ∧ ((¬ (x2' < 0) ∧ (¬ (15 < x2'))))) then rn m_X12_shownAt 26 [.ref a0, .int (mI x1), .int (mI x2)] [.int (mI (if ¬ (fZ h a0 40) = (-1) then (0 : Int) else 2)), .ref a0] h else rn m_X12_shownAt 26 [.ref a0, .int (mI x1), .int (mI x2)] [.int (mI 1), .ref a0] h) (ite_congr rfl (fun c1 => ?_) (fun c1 => ?_)) ?_
  · refine (tq_aload_n i_X12_shownAt_13 rfl (isA_ref _) rfl).trans ?_
    refine (tq_getfield i_X12_shownAt_14 (K10_s k1) (g_10_40 (K10_s k1)) (isV_I _) rfl).trans ?_
    refine (tq_iconst i_X12_shownAt_17 rfl).trans ?_
    refine (tq_icmp_ne (pt := 25) i_X12_shownAt_18 (wr_fZ _ _ _) w_m1 (by decide) rfl).trans ?_
    refine Eq.trans (b := if ¬ (fZ h a0 40) = (-1) then rn m_X12_shownAt 26 [.ref a0, .int (mI x1), .int (mI x2)] [.int (mI 0), .ref a0] h else rn m_X12_shownAt 26 [.ref a0, .int (mI x1), .int (mI x2)] [.int (mI 2), .ref a0] h) (ite_congr rfl (fun c2 => ?_) (fun c2 => ?_)) ?_
    · refine (tq_iconst i_X12_shownAt_25 rfl).trans ?_
      rfl
    · refine (tq_iconst i_X12_shownAt_21 rfl).trans ?_
      refine (tq_goto (pc' := 26) i_X12_shownAt_22 (by decide)).trans ?_
      rfl
    exact ite_I
  · refine (tq_iconst i_X12_shownAt_9 rfl).trans ?_
    refine (tq_goto (pc' := 26) i_X12_shownAt_10 (by decide)).trans ?_
    rfl
  refine Eq.trans ite_I ?_
  refine (tq_putfield i_X12_shownAt_26 (K10_s k1) (okf_10_0 _) rfl).trans ?_
  refine (tq_aload_n i_X12_shownAt_29 rfl (isA_ref _) rfl).trans ?_
  refine (tq_getfield i_X12_shownAt_30 ((sh_uF _ _ _ _ _ _).trans (K10_s k1)) (gV_uF_eq (K10_s k1) (okf_10_0 _)) (isV_I _) rfl).trans ?_
  refine (tq_if_ne (pt := 50) i_X12_shownAt_33 (wr_ite (wr_ite w_0 w_2) w_1) (by decide) rfl).trans ?_
  refine Eq.trans (b := if ¬ (if ((¬ (x1' < 0) ∧ (¬ (15 < x1'))) ∧ ((¬ (x2' < 0) ∧ (¬ (15 < x2'))))) then ((if ¬ (fZ h a0 40) = (-1) then (0 : Int) else 2) : Int) else 1) = 0 then rn m_X12_shownAt 51 [.ref a0, .int (mI x1), .int (mI x2)] [.int (mI 0)] (uF 10 h a0 0 (.int (mI (if ((¬ (x1' < 0) ∧ (¬ (15 < x1'))) ∧ ((¬ (x2' < 0) ∧ (¬ (15 < x2'))))) then ((if ¬ (fZ h a0 40) = (-1) then (0 : Int) else 2) : Int) else 1)))) else rn m_X12_shownAt 51 [.ref a0, .int (mI x1), .int (mI x2)] [.int (mI (gZ (uF 10 h a0 0 (.int (mI (if ((¬ (x1' < 0) ∧ (¬ (15 < x1'))) ∧ ((¬ (x2' < 0) ∧ (¬ (15 < x2'))))) then ((if ¬ (fZ h a0 40) = (-1) then (0 : Int) else 2) : Int) else 1)))) a0_screen (wr ((16 * x2) + x1))))] (uF 10 h a0 0 (.int (mI (if ((¬ (x1' < 0) ∧ (¬ (15 < x1'))) ∧ ((¬ (x2' < 0) ∧ (¬ (15 < x2'))))) then ((if ¬ (fZ h a0 40) = (-1) then (0 : Int) else 2) : Int) else 1))))) (ite_congr rfl (fun c3 => ?_) (fun c3 => ?_)) ?_
  · refine (tq_iconst i_X12_shownAt_50 rfl).trans ?_
    rfl
  · refine (tq_aload_n i_X12_shownAt_36 rfl (isA_ref _) rfl).trans ?_
    refine (tq_getfield i_X12_shownAt_37 ((sh_uF _ _ _ _ _ _).trans (K10_s k1)) (gR ((g_10_41 ((sh_uF _ _ _ _ _ _).trans (K10_s k1))).trans (congrArg am_rv (fA_uF_nk (K10_s k1) (okf_10_0 _) (by decide)))) (e2 c3)) (isV_ref _) rfl).trans ?_
    refine (tq_bipush i_X12_shownAt_40 rfl).trans ?_
    refine (tq_iload_n i_X12_shownAt_42 rfl rfl).trans ?_
    refine (tq_imul i_X12_shownAt_43 rfl).trans ?_
    refine (tq_iload_n i_X12_shownAt_44 rfl rfl).trans ?_
    refine (tq_iadd i_X12_shownAt_45 rfl).trans ?_
    refine (tq_iaload i_X12_shownAt_46 ((sh_uF _ _ _ _ _ _).trans (s4 c3)) (by decide) rfl (g5 c3).1 (lt_gn ((gn_uF _ _ _ _ _ _).trans (n3 c3)) (g5 c3).2) rfl).trans ?_
    refine (tq_goto (pc' := 51) i_X12_shownAt_47 (by decide)).trans ?_
    rfl
  refine Eq.trans ite_I ?_
  exact tq_ireturn i_X12_shownAt_51 r_X12_shownAt rfl
theorem m_shownAt (rm : RM σ h D) {x y : Int} (wx : wr x = x) (wy : wr y = y) : ((0 ≤ x ∧ x < 16) ∧ (0 ≤ y ∧ y < 16) → (tz σ 10 ≠ -1 → MRs σ h D (rn m_X12_shownAt 0 [.ref 51, .int (mI x), .int (mI y)] [] h) (.int (mI (tsp σ (16 * y + x)))) 0 0 0) ∧ (tz σ 10 = -1 → MRs σ h D (rn m_X12_shownAt 0 [.ref 51, .int (mI x), .int (mI y)] [] h) (.int (mI 0)) 2 0 0)) ∧ (¬ ((0 ≤ x ∧ x < 16) ∧ 0 ≤ y ∧ y < 16) → MRs σ h D (rn m_X12_shownAt 0 [.ref 51, .int (mI x), .int (mI y)] [] h) (.int (mI 0)) 1 0 0) := by
  have e10 : fZ h 51 40 = tz σ 10 := rm.2.2.2.2.2.2.1.2.1
  have scr := rm.2.2.2.2.2.2.2.2.1
  by_cases cg : (0 ≤ x ∧ x < 16) ∧ 0 ≤ y ∧ y < 16
  · refine ⟨fun _ => ⟨fun g => ?_, fun g => ?_⟩, fun g => absurd cg g⟩
    · obtain ⟨b0, b1, b2⟩ := w16 cg.1 cg.2
      rcases scr with ⟨s1, -⟩ | ⟨-, S, s1, s2⟩
      · exact absurd s1 g
      · have st := b_X12_shownAt_0 (a0 := 51) (a0_screen := S) (n_a0_screen := gn h S) (x1 := x) (x2 := y) (h := h) wx wy rm.1 (fun _ => s1) (fun _ => rfl) (fun _ => s2.2.1.1) (fun _ => by rw [b0, s2.2.1.2]; exact ⟨b1, b2⟩)
        have eT : (if ((¬ (x < 0) ∧ (¬ (15 < x))) ∧ ((¬ (y < 0) ∧ (¬ (15 < y))))) then ((if ¬ (fZ h 51 40) = (-1) then (0 : Int) else 2) : Int) else 1) = 0 := by rw [if_pos (by omega), e10, if_pos g]
        rw [eT, if_neg (fun q => q rfl), b0] at st
        refine MRs_thr rm (wr_id (by decide) (by decide)) (st.trans ?_)
        obtain ⟨t1, -, -, tm⟩ := thr_ok (z := 0) rm (wr_id (by decide) (by decide))
        rw [md_gZ tm (by have := s2.1.1; omega), s2.2.2 _ b1 b2]
    · have eT : (if ((¬ (x < 0) ∧ (¬ (15 < x))) ∧ ((¬ (y < 0) ∧ (¬ (15 < y))))) then ((if ¬ (fZ h 51 40) = (-1) then (0 : Int) else 2) : Int) else 1) = 2 := by rw [if_pos (by omega), e10, if_neg (fun q => q g)]
      have st := b_X12_shownAt_0 (a0 := 51) (a0_screen := 0) (n_a0_screen := 0) (x1 := x) (x2 := y) (h := h) wx wy rm.1 (fun q => absurd (by rw [eT]; decide) q) (fun q => absurd (by rw [eT]; decide) q) (fun q => absurd (by rw [eT]; decide) q) (fun q => absurd (by rw [eT]; decide) q)
      rw [eT, if_pos (by decide)] at st
      exact MRs_thr rm (wr_id (by decide) (by decide)) st
  · refine ⟨fun g => absurd g cg, fun _ => ?_⟩
    have eT : (if ((¬ (x < 0) ∧ (¬ (15 < x))) ∧ ((¬ (y < 0) ∧ (¬ (15 < y))))) then ((if ¬ (fZ h 51 40) = (-1) then (0 : Int) else 2) : Int) else 1) = 1 := if_neg (by omega)
    have st := b_X12_shownAt_0 (a0 := 51) (a0_screen := 0) (n_a0_screen := 0) (x1 := x) (x2 := y) (h := h) wx wy rm.1 (fun q => absurd (by rw [eT]; decide) q) (fun q => absurd (by rw [eT]; decide) q) (fun q => absurd (by rw [eT]; decide) q) (fun q => absurd (by rw [eT]; decide) q)
    rw [eT, if_pos (by decide)] at st
    exact MRs_thr rm (wr_id (by decide) (by decide)) st
theorem i_X12_drift_0 : am_i m_X12_drift 0 = some (0, .iconst 0, 1, [], 0) := rfl
theorem i_X12_drift_1 : am_i m_X12_drift 1 = some (1, .istore_n 1, 1, [], 0) := rfl
theorem i_X12_drift_2 : am_i m_X12_drift 2 = some (2, .iconst 0, 1, [], 0) := rfl
theorem i_X12_drift_3 : am_i m_X12_drift 3 = some (3, .istore_n 2, 1, [], 0) := rfl
theorem b_X12_drift_0 {a0 : Nat} {h : am_H} : rn m_X12_drift 0 [.ref a0, am_J, am_J] [] h = rn m_X12_drift 4 [.ref a0, .int (mI 0), .int (mI 0)] [] h := by
  refine (tq_iconst i_X12_drift_0 rfl).trans ?_
  refine (tq_istore_n (L' := [.ref a0, .int (mI 0), am_J]) i_X12_drift_1 rfl rfl).trans ?_
  refine (tq_iconst i_X12_drift_2 rfl).trans ?_
  refine (tq_istore_n (L' := [.ref a0, .int (mI 0), .int (mI 0)]) i_X12_drift_3 rfl rfl).trans ?_
  rfl
theorem i_X12_drift_4 : am_i m_X12_drift 4 = some (4, .iload_n 2, 1, [], 0) := rfl
theorem i_X12_drift_5 : am_i m_X12_drift 5 = some (5, .sipush 256, 3, [], 256) := rfl
theorem i_X12_drift_8 : am_i m_X12_drift 8 = some (8, .if_icmp .ge 44, 3, [], 0) := rfl
theorem i_X12_drift_11 : am_i m_X12_drift 11 = some (11, .aload_n 0, 1, [], 0) := rfl
theorem i_X12_drift_12 : am_i m_X12_drift 12 = some (12, .invokevirtual 374, 3, [31, 10], 0) := rfl
theorem i_X12_drift_52 : am_i m_X12_drift 52 = some (52, .iload_n 1, 1, [], 0) := rfl
theorem i_X12_drift_53 : am_i m_X12_drift 53 = some (53, .ireturn, 1, [], 0) := rfl
theorem b_X12_drift_4 {a0 : Nat} {x1 x2 x2' : Int} {h : am_H} (w2 : wr x2 = x2') (k1 : K10 h a0) : rn m_X12_drift 4 [.ref a0, .int (mI x1), .int (mI x2)] [] h = if 256 ≤ x2' then some (.inl (some (.int (mI x1))), h) else cl m_X12_drift 15 [.ref a0, .int (mI x1), .int (mI x2)] [] (rn m_X12_noShown 0 [.ref a0] [] h) := by
  refine (tq_iload_n i_X12_drift_4 rfl rfl).trans ?_
  refine (tq_sipush i_X12_drift_5 rfl).trans ?_
  refine (tq_icmp_ge (pt := 52) i_X12_drift_8 w2 w_256 (by decide) rfl).trans ?_
  refine ite_congr rfl (fun c1 => ?_) (fun c1 => ?_)
  · refine (tq_iload_n i_X12_drift_52 rfl rfl).trans ?_
    exact tq_ireturn i_X12_drift_53 r_X12_drift rfl
  · refine (tq_aload_n i_X12_drift_11 rfl (isA_ref _) rfl).trans ?_
    exact c_X12_noShown i_X12_drift_12 (K10_s k1) (ltd d_X12_drift (by decide)) stOk_0 rfl
theorem i_X12_drift_15 : am_i m_X12_drift 15 = some (15, .ifCond .ne 37, 3, [], 0) := rfl
theorem i_X12_drift_18 : am_i m_X12_drift 18 = some (18, .iload_n 1, 1, [], 0) := rfl
theorem i_X12_drift_19 : am_i m_X12_drift 19 = some (19, .aload_n 0, 1, [], 0) := rfl
theorem i_X12_drift_20 : am_i m_X12_drift 20 = some (20, .getfield 344, 3, [10, 41, 0], 0) := rfl
theorem i_X12_drift_23 : am_i m_X12_drift 23 = some (23, .iload_n 2, 1, [], 0) := rfl
theorem i_X12_drift_24 : am_i m_X12_drift 24 = some (24, .iaload, 1, [], 0) := rfl
theorem i_X12_drift_25 : am_i m_X12_drift 25 = some (25, .aload_n 0, 1, [], 0) := rfl
theorem i_X12_drift_26 : am_i m_X12_drift 26 = some (26, .getfield 70, 3, [10, 19, 0], 0) := rfl
theorem i_X12_drift_29 : am_i m_X12_drift 29 = some (29, .aload_n 0, 1, [], 0) := rfl
theorem i_X12_drift_30 : am_i m_X12_drift 30 = some (30, .getfield 101, 3, [10, 40, 0], 0) := rfl
theorem i_X12_drift_33 : am_i m_X12_drift 33 = some (33, .aaload, 1, [], 0) := rfl
theorem i_X12_drift_34 : am_i m_X12_drift 34 = some (34, .iload_n 2, 1, [], 0) := rfl
theorem i_X12_drift_35 : am_i m_X12_drift 35 = some (35, .iaload, 1, [], 0) := rfl
theorem i_X12_drift_36 : am_i m_X12_drift 36 = some (36, .if_icmp .eq 7, 3, [], 0) := rfl
theorem i_X12_drift_39 : am_i m_X12_drift 39 = some (39, .iconst 1, 1, [], 1) := rfl
theorem i_X12_drift_40 : am_i m_X12_drift 40 = some (40, .goto 4, 3, [], 0) := rfl
theorem i_X12_drift_43 : am_i m_X12_drift 43 = some (43, .iconst 0, 1, [], 0) := rfl
theorem i_X12_drift_44 : am_i m_X12_drift 44 = some (44, .iadd, 1, [], 0) := rfl
theorem i_X12_drift_45 : am_i m_X12_drift 45 = some (45, .istore_n 1, 1, [], 0) := rfl
theorem i_X12_drift_46 : am_i m_X12_drift 46 = some (46, .iinc 2 1, 3, [], 0) := rfl
theorem i_X12_drift_49 : am_i m_X12_drift 49 = some (49, .goto (-45), 3, [], 0) := rfl
theorem b_X12_drift_15 {a0 a0_screen n_a0_screen b_33 n_b_33 : Nat} {x1 x2 xs0 x2' xs0' : Int} {h : am_H} (w2 : wr x2 = x2') (ws0 : wr xs0 = xs0') (k1 : K10 h a0) (e2 : (¬ (¬ xs0' = 0)) → (fA h a0 41 = some a0_screen)) (n3 : (¬ (¬ xs0' = 0)) → (gn h a0_screen = n_a0_screen)) (s4 : (¬ (¬ xs0' = 0)) → (sh h a0_screen = (1, 0))) (g5 : (¬ (¬ xs0' = 0)) → (0 ≤ x2' ∧ x2' < (n_a0_screen : Int))) (g6 : (¬ (¬ xs0' = 0)) → (0 ≤ fZ h a0 40 ∧ fZ h a0 40 < (12 : Int))) (e7 : (¬ (¬ xs0' = 0)) → (gA h (a0 + 11) (fZ h a0 40) = some b_33)) (n8 : (¬ (¬ xs0' = 0)) → (gn h b_33 = n_b_33)) (s9 : (¬ (¬ xs0' = 0)) → (sh h b_33 = (1, 0))) (g10 : (¬ (¬ xs0' = 0)) → (0 ≤ x2' ∧ x2' < (n_b_33 : Int))) : rn m_X12_drift 15 [.ref a0, .int (mI x1), .int (mI x2)] [.int (mI xs0)] h = if ¬ xs0' = 0 then some (.inl (some (.int (mI x1))), h) else rn m_X12_drift 4 [.ref a0, .int (mI (x1 + (bZ (¬ ((gZ h a0_screen x2') = (gZ h b_33 x2')))))), .int (mI (x2 + 1))] [] h := by
  refine (tq_if_ne (pt := 52) i_X12_drift_15 ws0 (by decide) rfl).trans ?_
  refine ite_congr rfl (fun c1 => ?_) (fun c1 => ?_)
  · refine (tq_iload_n i_X12_drift_52 rfl rfl).trans ?_
    exact tq_ireturn i_X12_drift_53 r_X12_drift rfl
  · refine (tq_iload_n i_X12_drift_18 rfl rfl).trans ?_
    refine (tq_aload_n i_X12_drift_19 rfl (isA_ref _) rfl).trans ?_
    refine (tq_getfield i_X12_drift_20 (K10_s k1) (gR (g_10_41 (K10_s k1)) (e2 c1)) (isV_ref _) rfl).trans ?_
    refine (tq_iload_n i_X12_drift_23 rfl rfl).trans ?_
    refine (tq_iaload i_X12_drift_24 (s4 c1) (by decide) w2 (g5 c1).1 (lt_gn (n3 c1) (g5 c1).2) rfl).trans ?_
    refine (tq_aload_n i_X12_drift_25 rfl (isA_ref _) rfl).trans ?_
    refine (tq_getfield i_X12_drift_26 (K10_s k1) (gR (g_10_19 (K10_s k1)) (K10_e19 k1)) (isV_ref _) rfl).trans ?_
    refine (tq_aload_n i_X12_drift_29 rfl (isA_ref _) rfl).trans ?_
    refine (tq_getfield i_X12_drift_30 (K10_s k1) (g_10_40 (K10_s k1)) (isV_I _) rfl).trans ?_
    refine (tq_aaload i_X12_drift_33 (K10_s19 k1) (wr_fZ _ _ _) (g6 c1).1 (lt_gn (K10_n19 k1) (g6 c1).2) rfl).trans ?_
    rw [(e7 c1)]
    simp only [am_rv]
    refine (tq_iload_n i_X12_drift_34 rfl rfl).trans ?_
    refine (tq_iaload i_X12_drift_35 (s9 c1) (by decide) w2 (g10 c1).1 (lt_gn (n8 c1) (g10 c1).2) rfl).trans ?_
    refine (tq_icmp_eq (pt := 43) i_X12_drift_36 (wr_gZ _ _ _) (wr_gZ _ _ _) (by decide) rfl).trans ?_
    refine Eq.trans (b := if (gZ h a0_screen x2') = (gZ h b_33 x2') then rn m_X12_drift 44 [.ref a0, .int (mI x1), .int (mI x2)] [.int (mI 0), .int (mI x1)] h else rn m_X12_drift 44 [.ref a0, .int (mI x1), .int (mI x2)] [.int (mI 1), .int (mI x1)] h) (ite_congr rfl (fun c2 => ?_) (fun c2 => ?_)) ?_
    · refine (tq_iconst i_X12_drift_43 rfl).trans ?_
      rfl
    · refine (tq_iconst i_X12_drift_39 rfl).trans ?_
      refine (tq_goto (pc' := 44) i_X12_drift_40 (by decide)).trans ?_
      rfl
    refine Eq.trans ite_b01 ?_
    refine (tq_iadd i_X12_drift_44 rfl).trans ?_
    refine (tq_istore_n (L' := [.ref a0, .int (mI (x1 + (bZ (¬ ((gZ h a0_screen x2') = (gZ h b_33 x2')))))), .int (mI x2)]) i_X12_drift_45 rfl rfl).trans ?_
    refine (tq_iinc (L' := [.ref a0, .int (mI (x1 + (bZ (¬ ((gZ h a0_screen x2') = (gZ h b_33 x2')))))), .int (mI (x2 + 1))]) i_X12_drift_46 rfl rfl rfl).trans ?_
    refine (tq_goto (pc' := 4) i_X12_drift_49 (by decide)).trans ?_
    rfl
theorem m_drift (rm : RM σ h D) (wf : WfS σ c) : (tz σ 10 ≠ -1 → MRs σ h D (rn m_X12_drift 0 [.ref 51, am_J, am_J] [] h) (.int (mI (dfs (tsp σ) (tpd σ (tz σ 10) 5) 256))) 0 0 0) ∧ (tz σ 10 = -1 → MRs σ h D (rn m_X12_drift 0 [.ref 51, am_J, am_J] [] h) (.int (mI 0)) 1 0 0) := by
  have hs := wf.2.2.2.2.1.2.1
  have n := WFn wf
  rw [b_X12_drift_0]
  have step0 := fun (x i : Int) (h' : am_H) (k : K10 h' 51) (wi : wr i = i) => b_X12_drift_4 (a0 := 51) (x1 := x) (h := h') wi k
  refine ⟨fun g => ?_, fun g => ?_⟩
  · refine lp (m := m_X12_drift) (pc := 4) (L := fun i (x : Int) => [.ref 51, .int (mI x), .int (mI i)]) (N := 256) (P := fun r => MRs σ h D r (.int (mI (dfs (tsp σ) (tpd σ (tz σ 10) 5) 256))) 0 0 0) (fun i x h' => 0 ≤ i ∧ RM σ h' D ∧ Fr SMl2 0 0 h h' ∧ (0 < i → fZ h' 51 0 = 0) ∧ x = dfs (tsp σ) (tpd σ (tz σ 10) 5) i.toNat) ?_ ?_ 0 0 h (by omega) ⟨by omega, rm, Fr_mono (Fr_rf _ _) (fun _ _ _ q => q) (by omega) (by omega), fun q => absurd q (by decide), rfl⟩
    · intro i x h' hi ⟨i0, r, fr, _, ex⟩
      have st := step0 x i h' r.1 (wr_id (by omega) (by omega))
      obtain ⟨t1, t2, t3, tm⟩ := thr_ok (z := bZ (tz σ 10 = -1)) r (wr_bZ _)
      rw [if_neg (by omega), nSh r, cl_v] at st
      rw [bZ_f g] at *
      generalize uF 10 h' 51 0 (.int (mI 0)) = h1 at *
      rcases t1.2.2.2.2.2.2.2.2.1 with ⟨s1, -⟩ | ⟨-, S, s1, s2⟩
      · exact absurd s1 g
      · obtain ⟨B, b1, b2⟩ := (t1.2.2.2.2.2.1 (tz σ 10) (by omega) (by omega)).2.1
        have e10 : fZ h1 51 40 = tz σ 10 := t1.2.2.2.2.2.2.1.2.1
        have st2 := b_X12_drift_15 (a0 := 51) (a0_screen := S) (n_a0_screen := gn h1 S) (b_33 := B) (n_b_33 := gn h1 B) (x1 := x) (xs0 := 0) (h := h1) (wr_id (z := i) (by omega) (by omega)) (wr_id (by decide) (by decide)) t1.1 (fun _ => s1) (fun _ => rfl) (fun _ => s2.2.1.1) (fun _ => by rw [s2.2.1.2]; omega) (fun _ => by rw [e10]; omega) (fun _ => by rw [e10]; exact b1) (fun _ => rfl) (fun _ => b2.2.1.1) (fun _ => by rw [b2.2.1.2]; omega)
        rw [if_neg (fun q => q rfl), s2.2.2 i i0 hi, b2.2.2 i i0 hi] at st2
        refine ⟨_, h1, st.trans st2, by omega, t1, Fr_mono (Fr_tr (U := SMl2) fr t3 (fun _ _ _ q => q) (fun _ _ _ q => q)) (fun _ _ _ q => q) (by decide) (by decide), fun _ => t2, ?_⟩
        rw [dfs_succ i0, ex]
        congr 1
        by_cases q : tsp σ i = tpd σ (tz σ 10) 5 i
        · rw [if_pos q, bZ_f (fun w => w q)]
        · rw [if_neg q, bZ_t q]
    · intro x h' ⟨i0, r, fr, z0, ex⟩
      have st := step0 x 256 h' r.1 (wr_id (by omega) (by omega))
      rw [if_pos (by omega)] at st
      refine ⟨h', st.trans ?_, r, z0 (by decide), fr⟩
      rw [ex, show (256 : Int).toNat = 256 by decide]
  · have st := step0 0 0 h rm.1 (wr_id (by decide) (by decide))
    obtain ⟨t1, t2, t3, tm⟩ := thr_ok (z := bZ (tz σ 10 = -1)) rm (wr_bZ _)
    rw [if_neg (by decide), nSh rm, cl_v] at st
    rw [bZ_t g] at *
    have st2 := b_X12_drift_15 (a0 := 51) (a0_screen := 0) (n_a0_screen := 0) (b_33 := 0) (n_b_33 := 0) (x1 := 0) (x2 := 0) (xs0 := 1) (h := uF 10 h 51 0 (.int (mI 1))) (wr_id (by decide) (by decide)) (wr_id (by decide) (by decide)) t1.1 (fun q => absurd (by decide) q) (fun q => absurd (by decide) q) (fun q => absurd (by decide) q) (fun q => absurd (by decide) q) (fun q => absurd (by decide) q) (fun q => absurd (by decide) q) (fun q => absurd (by decide) q) (fun q => absurd (by decide) q) (fun q => absurd (by decide) q)
    rw [if_pos (by decide)] at st2
    exact ⟨_, st.trans st2, t1, t2, t3⟩
theorem m_pictures (rm : RM σ h D) : MRs σ h D (rn m_X12_pictures 0 [.ref 51] [] h) (.int (mI (tz σ 7))) 0 0 0 := by
  have st := b_X12_pictures_0 (a0 := 51) (h := h) rm.1
  rw [rm.2.2.2.1.2.2.1] at st
  exact MRs_thr rm (wr_id (by decide) (by decide)) st
theorem m_kept (rm : RM σ h D) : MRs σ h D (rn m_X12_kept 0 [.ref 51] [] h) (.int (mI (tz σ 8))) 0 0 0 := by
  have st := b_X12_kept_0 (a0 := 51) (h := h) rm.1
  rw [rm.2.2.2.1.2.2.2] at st
  exact MRs_thr rm (wr_id (by decide) (by decide)) st
theorem m_coarseness (rm : RM σ h D) : MRs σ h D (rn m_X12_coarseness 0 [.ref 51] [] h) (.int (mI (tz σ 0))) 0 0 0 := by
  have st := b_X12_coarseness_0 (a0 := 51) (h := h) rm.1
  rw [rm.2.2.2.1.1.1] at st
  exact MRs_thr rm (wr_id (by decide) (by decide)) st
theorem q_pictures (rc : RC σ h D) : rn m_X11_pictures 0 [.ref 2] [] h = some (.inl (some (.int (mI (tz σ 7)))), h) := by rw [b_X11_pictures_0 rc.1, rc.2.2.2.1.2.2.1]
theorem q_kept (rc : RC σ h D) : rn m_X11_kept 0 [.ref 2] [] h = some (.inl (some (.int (mI (tz σ 8)))), h) := by rw [b_X11_kept_0 rc.1, rc.2.2.2.1.2.2.2]
theorem q_coarseness (rc : RC σ h D) : rn m_X11_coarseness 0 [.ref 2] [] h = some (.inl (some (.int (mI (tz σ 0)))), h) := by rw [b_X11_coarseness_0 rc.1, rc.2.2.2.1.1.1]
end MR2
