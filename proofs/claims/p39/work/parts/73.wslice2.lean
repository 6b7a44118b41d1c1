/-! ===== the class writes a slice ===== -/
theorem i_X6_recall_0 : am_i m_X6_recall 0 = some (0, .iload_n 2, 1, [], 0) := rfl
theorem i_X6_recall_1 : am_i m_X6_recall 1 = some (1, .invokestatic 122, 3, [14], 0) := rfl
theorem i_X6_recall_4 : am_i m_X6_recall 4 = some (4, .istore_n 3, 1, [], 0) := rfl
theorem i_X6_recall_5 : am_i m_X6_recall 5 = some (5, .aload_n 1, 1, [], 0) := rfl
theorem i_X6_recall_6 : am_i m_X6_recall 6 = some (6, .iload_n 2, 1, [], 0) := rfl
theorem i_X6_recall_7 : am_i m_X6_recall 7 = some (7, .invokestatic 125, 3, [6], 0) := rfl
theorem i_X6_recall_10 : am_i m_X6_recall 10 = some (10, .iload_n 3, 1, [], 0) := rfl
theorem i_X6_recall_11 : am_i m_X6_recall 11 = some (11, .aload_n 0, 1, [], 0) := rfl
theorem i_X6_recall_12 : am_i m_X6_recall 12 = some (12, .iload_n 2, 1, [], 0) := rfl
theorem i_X6_recall_13 : am_i m_X6_recall 13 = some (13, .invokevirtual 85, 3, [67, 6], 0) := rfl
theorem i_X6_recall_16 : am_i m_X6_recall 16 = some (16, .ifCond .eq 7, 3, [], 0) := rfl
theorem i_X6_recall_19 : am_i m_X6_recall 19 = some (19, .iconst 4, 1, [], 4) := rfl
theorem i_X6_recall_20 : am_i m_X6_recall 20 = some (20, .goto 5, 3, [], 0) := rfl
theorem i_X6_recall_23 : am_i m_X6_recall 23 = some (23, .bipush 8, 2, [], 8) := rfl
theorem i_X6_recall_25 : am_i m_X6_recall 25 = some (25, .aload_n 0, 1, [], 0) := rfl
theorem i_X6_recall_26 : am_i m_X6_recall 26 = some (26, .iload_n 3, 1, [], 0) := rfl
theorem i_X6_recall_27 : am_i m_X6_recall 27 = some (27, .invokevirtual 128, 3, [70, 6], 0) := rfl
theorem i_X6_recall_30 : am_i m_X6_recall 30 = some (30, .invokevirtual 131, 3, [21, 5], 0) := rfl
theorem i_X6_recall_33 : am_i m_X6_recall 33 = some (33, .aload_n 1, 1, [], 0) := rfl
theorem i_X6_recall_34 : am_i m_X6_recall 34 = some (34, .aload_n 0, 1, [], 0) := rfl
theorem i_X6_recall_35 : am_i m_X6_recall 35 = some (35, .getfield 49, 3, [6, 11, 0], 0) := rfl
theorem i_X6_recall_38 : am_i m_X6_recall 38 = some (38, .iload_n 2, 1, [], 0) := rfl
theorem i_X6_recall_39 : am_i m_X6_recall 39 = some (39, .invokestatic 64, 3, [32], 0) := rfl
theorem i_X6_recall_42 : am_i m_X6_recall 42 = some (42, .putfield 107, 3, [5, 4, 1], 0) := rfl
theorem i_X6_recall_45 : am_i m_X6_recall 45 = some (45, .aload_n 1, 1, [], 0) := rfl
theorem i_X6_recall_46 : am_i m_X6_recall 46 = some (46, .aload_n 0, 1, [], 0) := rfl
theorem i_X6_recall_47 : am_i m_X6_recall 47 = some (47, .getfield 52, 3, [6, 12, 0], 0) := rfl
theorem i_X6_recall_50 : am_i m_X6_recall 50 = some (50, .iload_n 2, 1, [], 0) := rfl
theorem i_X6_recall_51 : am_i m_X6_recall 51 = some (51, .invokestatic 64, 3, [32], 0) := rfl
theorem i_X6_recall_54 : am_i m_X6_recall 54 = some (54, .putfield 113, 3, [5, 5, 1], 0) := rfl
theorem i_X6_recall_57 : am_i m_X6_recall 57 = some (57, .aload_n 1, 1, [], 0) := rfl
theorem i_X6_recall_58 : am_i m_X6_recall 58 = some (58, .aload_n 0, 1, [], 0) := rfl
theorem i_X6_recall_59 : am_i m_X6_recall 59 = some (59, .getfield 55, 3, [6, 13, 0], 0) := rfl
theorem i_X6_recall_62 : am_i m_X6_recall 62 = some (62, .iload_n 2, 1, [], 0) := rfl
theorem i_X6_recall_63 : am_i m_X6_recall 63 = some (63, .invokestatic 64, 3, [32], 0) := rfl
theorem i_X6_recall_66 : am_i m_X6_recall 66 = some (66, .putfield 119, 3, [5, 6, 1], 0) := rfl
theorem i_X6_recall_69 : am_i m_X6_recall 69 = some (69, .return_, 1, [], 0) := rfl
theorem b_X6_recall_0 {a0 a1 : Nat} {x2 x2' : Int} {h : am_H} (w2 : wr x2 = x2') (g1 : 0 ≤ x2' ∧ x2' < 16) (k2 : K6 h a0) (g3 : 0 ≤ x2' ∧ x2' < (16 : Int)) (k4 : K5 h a1) : rn m_X6_recall 0 [.ref a0, .ref a1, .int (mI x2), am_J] [] h = some (.inl none, uF 5 (uF 5 (uF 5 (uF 5 (uF 5 (uF 5 (uF 5 h a1 0 (.int (mI (cx x2')))) a1 1 (.int (mI (cy x2')))) a1 2 (.int (mI (if (¬ (¬ (gZ h (a0 + 3) x2') = 4)) then (4 : Int) else 8)))) a1 3 (.int (mI (8 * (bZ (¬ ((fZ h a0 5) ≤ 1) ∧ (¬ ((cy x2') < 8)))))))) a1 4 (.int (mI (gZ (uF 5 (uF 5 (uF 5 (uF 5 h a1 0 (.int (mI (cx x2')))) a1 1 (.int (mI (cy x2')))) a1 2 (.int (mI (if (¬ (¬ (gZ h (a0 + 3) x2') = 4)) then (4 : Int) else 8)))) a1 3 (.int (mI (8 * (bZ (¬ ((fZ h a0 5) ≤ 1) ∧ (¬ ((cy x2') < 8)))))))) (a0 + 4) x2')))) a1 5 (.int (mI (gZ (uF 5 (uF 5 (uF 5 (uF 5 (uF 5 h a1 0 (.int (mI (cx x2')))) a1 1 (.int (mI (cy x2')))) a1 2 (.int (mI (if (¬ (¬ (gZ h (a0 + 3) x2') = 4)) then (4 : Int) else 8)))) a1 3 (.int (mI (8 * (bZ (¬ ((fZ h a0 5) ≤ 1) ∧ (¬ ((cy x2') < 8)))))))) a1 4 (.int (mI (gZ (uF 5 (uF 5 (uF 5 (uF 5 h a1 0 (.int (mI (cx x2')))) a1 1 (.int (mI (cy x2')))) a1 2 (.int (mI (if (¬ (¬ (gZ h (a0 + 3) x2') = 4)) then (4 : Int) else 8)))) a1 3 (.int (mI (8 * (bZ (¬ ((fZ h a0 5) ≤ 1) ∧ (¬ ((cy x2') < 8)))))))) (a0 + 4) x2')))) (a0 + 5) x2')))) a1 6 (.int (mI (gZ (uF 5 (uF 5 (uF 5 (uF 5 (uF 5 (uF 5 h a1 0 (.int (mI (cx x2')))) a1 1 (.int (mI (cy x2')))) a1 2 (.int (mI (if (¬ (¬ (gZ h (a0 + 3) x2') = 4)) then (4 : Int) else 8)))) a1 3 (.int (mI (8 * (bZ (¬ ((fZ h a0 5) ≤ 1) ∧ (¬ ((cy x2') < 8)))))))) a1 4 (.int (mI (gZ (uF 5 (uF 5 (uF 5 (uF 5 h a1 0 (.int (mI (cx x2')))) a1 1 (.int (mI (cy x2')))) a1 2 (.int (mI (if (¬ (¬ (gZ h (a0 + 3) x2') = 4)) then (4 : Int) else 8)))) a1 3 (.int (mI (8 * (bZ (¬ ((fZ h a0 5) ≤ 1) ∧ (¬ ((cy x2') < 8)))))))) (a0 + 4) x2')))) a1 5 (.int (mI (gZ (uF 5 (uF 5 (uF 5 (uF 5 (uF 5 h a1 0 (.int (mI (cx x2')))) a1 1 (.int (mI (cy x2')))) a1 2 (.int (mI (if (¬ (¬ (gZ h (a0 + 3) x2') = 4)) then (4 : Int) else 8)))) a1 3 (.int (mI (8 * (bZ (¬ ((fZ h a0 5) ≤ 1) ∧ (¬ ((cy x2') < 8)))))))) a1 4 (.int (mI (gZ (uF 5 (uF 5 (uF 5 (uF 5 h a1 0 (.int (mI (cx x2')))) a1 1 (.int (mI (cy x2')))) a1 2 (.int (mI (if (¬ (¬ (gZ h (a0 + 3) x2') = 4)) then (4 : Int) else 8)))) a1 3 (.int (mI (8 * (bZ (¬ ((fZ h a0 5) ≤ 1) ∧ (¬ ((cy x2') < 8)))))))) (a0 + 4) x2')))) (a0 + 5) x2')))) (a0 + 6) x2')))) := by
  refine (tq_iload_n i_X6_recall_0 rfl rfl).trans ?_
  refine (c_X11_rowOf i_X6_recall_1 (ltd d_X6_recall (by decide)) stOk_0 rfl).trans ?_
  refine (congrArg (cl _ _ _ _) (rowOf_ok w2 g1)).trans ?_
  refine (cl_v _ _ _ _ _ _).trans ?_
  refine (tq_istore_n (L' := [.ref a0, .ref a1, .int (mI x2), .int (mI (cy x2'))]) i_X6_recall_4 rfl rfl).trans ?_
  refine (tq_aload_n i_X6_recall_5 rfl (isA_ref _) rfl).trans ?_
  refine (tq_iload_n i_X6_recall_6 rfl rfl).trans ?_
  refine (c_X11_columnOf i_X6_recall_7 (ltd d_X6_recall (by decide)) (stOk_1 _) rfl).trans ?_
  refine (congrArg (cl _ _ _ _) (columnOf_ok w2 g1)).trans ?_
  refine (cl_v _ _ _ _ _ _).trans ?_
  refine (tq_iload_n i_X6_recall_10 rfl rfl).trans ?_
  refine (tq_aload_n i_X6_recall_11 rfl (isA_ref _) rfl).trans ?_
  refine (tq_iload_n i_X6_recall_12 rfl rfl).trans ?_
  refine (c_X6_isSplitAt i_X6_recall_13 (K6_s k2) (ltd d_X6_recall (by decide)) (stOk_3 _ _ _) rfl).trans ?_
  refine (congrArg (cl _ _ _ _) (b_X6_isSplitAt_0 w2 k2 g3)).trans ?_
  refine (cl_v _ _ _ _ _ _).trans ?_
  refine (tq_ifb_eq (pt := 23) i_X6_recall_16 (by decide) rfl).trans ?_
  refine Eq.trans (b := if (¬ (¬ (gZ h (a0 + 3) x2') = 4)) then rn m_X6_recall 25 [.ref a0, .ref a1, .int (mI x2), .int (mI (cy x2'))] [.int (mI 4), .int (mI (cy x2')), .int (mI (cx x2')), .ref a1] h else rn m_X6_recall 25 [.ref a0, .ref a1, .int (mI x2), .int (mI (cy x2'))] [.int (mI 8), .int (mI (cy x2')), .int (mI (cx x2')), .ref a1] h) (ite_congr rfl (fun c1 => ?_) (fun c1 => ?_)) ?_
  · refine (tq_iconst i_X6_recall_19 rfl).trans ?_
    refine (tq_goto (pc' := 25) i_X6_recall_20 (by decide)).trans ?_
    rfl
  · refine (tq_bipush i_X6_recall_23 rfl).trans ?_
    rfl
  refine Eq.trans ite_I ?_
  refine (tq_aload_n i_X6_recall_25 rfl (isA_ref _) rfl).trans ?_
  refine (tq_iload_n i_X6_recall_26 rfl rfl).trans ?_
  refine (c_X6_topOf i_X6_recall_27 (K6_s k2) (ltd d_X6_recall (by decide)) (stOk_4 _ _ _ _) rfl).trans ?_
  refine (congrArg (cl _ _ _ _) (b_X6_topOf_0 (wr_cy _) k2)).trans ?_
  refine (cl_v _ _ _ _ _ _).trans ?_
  refine (c_X5_lay i_X6_recall_30 (K5_s k4) (ltd d_X6_recall (by decide)) stOk_0 rfl).trans ?_
  refine (congrArg (cl _ _ _ _) (b_X5_lay_0 k4)).trans ?_
  refine (cl_n _ _ _ _ _).trans ?_
  refine (tq_aload_n i_X6_recall_33 rfl (isA_ref _) rfl).trans ?_
  refine (tq_aload_n i_X6_recall_34 rfl (isA_ref _) rfl).trans ?_
  refine (tq_getfield i_X6_recall_35 ((sh_uF _ _ _ _ _ _).trans ((sh_uF _ _ _ _ _ _).trans ((sh_uF _ _ _ _ _ _).trans ((sh_uF _ _ _ _ _ _).trans (K6_s k2))))) (gR ((g_6_11 ((sh_uF _ _ _ _ _ _).trans ((sh_uF _ _ _ _ _ _).trans ((sh_uF _ _ _ _ _ _).trans ((sh_uF _ _ _ _ _ _).trans (K6_s k2)))))).trans (congrArg am_rv ((fA_uF_nk ((sh_uF _ _ _ _ _ _).trans ((sh_uF _ _ _ _ _ _).trans ((sh_uF _ _ _ _ _ _).trans (K5_s k4)))) (okf_5_3 _) (by decide)).trans ((fA_uF_nk ((sh_uF _ _ _ _ _ _).trans ((sh_uF _ _ _ _ _ _).trans (K5_s k4))) (okf_5_2 _) (by decide)).trans ((fA_uF_nk ((sh_uF _ _ _ _ _ _).trans (K5_s k4)) (okf_5_1 _) (by decide)).trans (fA_uF_nk (K5_s k4) (okf_5_0 _) (by decide))))))) (K6_e11 k2)) (isV_ref _) rfl).trans ?_
  refine (tq_iload_n i_X6_recall_38 rfl rfl).trans ?_
  refine (c_X7_get i_X6_recall_39 (ltd d_X6_recall (by decide)) (isA_ref _) (stOk_1 _) rfl).trans ?_
  refine (congrArg (cl _ _ _ _) (get_ok w2 ((gn_uF _ _ _ _ _ _).trans ((gn_uF _ _ _ _ _ _).trans ((gn_uF _ _ _ _ _ _).trans ((gn_uF _ _ _ _ _ _).trans (K6_n11 k2))))) ((sh_uF _ _ _ _ _ _).trans ((sh_uF _ _ _ _ _ _).trans ((sh_uF _ _ _ _ _ _).trans ((sh_uF _ _ _ _ _ _).trans (K6_s11 k2))))) (by decide) g3)).trans ?_
  refine (cl_v _ _ _ _ _ _).trans ?_
  refine (tq_putfield i_X6_recall_42 ((sh_uF _ _ _ _ _ _).trans ((sh_uF _ _ _ _ _ _).trans ((sh_uF _ _ _ _ _ _).trans ((sh_uF _ _ _ _ _ _).trans (K5_s k4))))) (okf_5_4 _) rfl).trans ?_
  refine (tq_aload_n i_X6_recall_45 rfl (isA_ref _) rfl).trans ?_
  refine (tq_aload_n i_X6_recall_46 rfl (isA_ref _) rfl).trans ?_
  refine (tq_getfield i_X6_recall_47 ((sh_uF _ _ _ _ _ _).trans ((sh_uF _ _ _ _ _ _).trans ((sh_uF _ _ _ _ _ _).trans ((sh_uF _ _ _ _ _ _).trans ((sh_uF _ _ _ _ _ _).trans (K6_s k2)))))) (gR ((g_6_12 ((sh_uF _ _ _ _ _ _).trans ((sh_uF _ _ _ _ _ _).trans ((sh_uF _ _ _ _ _ _).trans ((sh_uF _ _ _ _ _ _).trans ((sh_uF _ _ _ _ _ _).trans (K6_s k2))))))).trans (congrArg am_rv ((fA_uF_nk ((sh_uF _ _ _ _ _ _).trans ((sh_uF _ _ _ _ _ _).trans ((sh_uF _ _ _ _ _ _).trans ((sh_uF _ _ _ _ _ _).trans (K5_s k4))))) (okf_5_4 _) (by decide)).trans ((fA_uF_nk ((sh_uF _ _ _ _ _ _).trans ((sh_uF _ _ _ _ _ _).trans ((sh_uF _ _ _ _ _ _).trans (K5_s k4)))) (okf_5_3 _) (by decide)).trans ((fA_uF_nk ((sh_uF _ _ _ _ _ _).trans ((sh_uF _ _ _ _ _ _).trans (K5_s k4))) (okf_5_2 _) (by decide)).trans ((fA_uF_nk ((sh_uF _ _ _ _ _ _).trans (K5_s k4)) (okf_5_1 _) (by decide)).trans (fA_uF_nk (K5_s k4) (okf_5_0 _) (by decide)))))))) (K6_e12 k2)) (isV_ref _) rfl).trans ?_
  refine (tq_iload_n i_X6_recall_50 rfl rfl).trans ?_
  refine (c_X7_get i_X6_recall_51 (ltd d_X6_recall (by decide)) (isA_ref _) (stOk_1 _) rfl).trans ?_
  refine (congrArg (cl _ _ _ _) (get_ok w2 ((gn_uF _ _ _ _ _ _).trans ((gn_uF _ _ _ _ _ _).trans ((gn_uF _ _ _ _ _ _).trans ((gn_uF _ _ _ _ _ _).trans ((gn_uF _ _ _ _ _ _).trans (K6_n12 k2)))))) ((sh_uF _ _ _ _ _ _).trans ((sh_uF _ _ _ _ _ _).trans ((sh_uF _ _ _ _ _ _).trans ((sh_uF _ _ _ _ _ _).trans ((sh_uF _ _ _ _ _ _).trans (K6_s12 k2)))))) (by decide) g3)).trans ?_
  refine (cl_v _ _ _ _ _ _).trans ?_
  refine (tq_putfield i_X6_recall_54 ((sh_uF _ _ _ _ _ _).trans ((sh_uF _ _ _ _ _ _).trans ((sh_uF _ _ _ _ _ _).trans ((sh_uF _ _ _ _ _ _).trans ((sh_uF _ _ _ _ _ _).trans (K5_s k4)))))) (okf_5_5 _) rfl).trans ?_
  refine (tq_aload_n i_X6_recall_57 rfl (isA_ref _) rfl).trans ?_
  refine (tq_aload_n i_X6_recall_58 rfl (isA_ref _) rfl).trans ?_
  refine (tq_getfield i_X6_recall_59 ((sh_uF _ _ _ _ _ _).trans ((sh_uF _ _ _ _ _ _).trans ((sh_uF _ _ _ _ _ _).trans ((sh_uF _ _ _ _ _ _).trans ((sh_uF _ _ _ _ _ _).trans ((sh_uF _ _ _ _ _ _).trans (K6_s k2))))))) (gR ((g_6_13 ((sh_uF _ _ _ _ _ _).trans ((sh_uF _ _ _ _ _ _).trans ((sh_uF _ _ _ _ _ _).trans ((sh_uF _ _ _ _ _ _).trans ((sh_uF _ _ _ _ _ _).trans ((sh_uF _ _ _ _ _ _).trans (K6_s k2)))))))).trans (congrArg am_rv ((fA_uF_nk ((sh_uF _ _ _ _ _ _).trans ((sh_uF _ _ _ _ _ _).trans ((sh_uF _ _ _ _ _ _).trans ((sh_uF _ _ _ _ _ _).trans ((sh_uF _ _ _ _ _ _).trans (K5_s k4)))))) (okf_5_5 _) (by decide)).trans ((fA_uF_nk ((sh_uF _ _ _ _ _ _).trans ((sh_uF _ _ _ _ _ _).trans ((sh_uF _ _ _ _ _ _).trans ((sh_uF _ _ _ _ _ _).trans (K5_s k4))))) (okf_5_4 _) (by decide)).trans ((fA_uF_nk ((sh_uF _ _ _ _ _ _).trans ((sh_uF _ _ _ _ _ _).trans ((sh_uF _ _ _ _ _ _).trans (K5_s k4)))) (okf_5_3 _) (by decide)).trans ((fA_uF_nk ((sh_uF _ _ _ _ _ _).trans ((sh_uF _ _ _ _ _ _).trans (K5_s k4))) (okf_5_2 _) (by decide)).trans ((fA_uF_nk ((sh_uF _ _ _ _ _ _).trans (K5_s k4)) (okf_5_1 _) (by decide)).trans (fA_uF_nk (K5_s k4) (okf_5_0 _) (by decide))))))))) (K6_e13 k2)) (isV_ref _) rfl).trans ?_
  refine (tq_iload_n i_X6_recall_62 rfl rfl).trans ?_
  refine (c_X7_get i_X6_recall_63 (ltd d_X6_recall (by decide)) (isA_ref _) (stOk_1 _) rfl).trans ?_
  refine (congrArg (cl _ _ _ _) (get_ok w2 ((gn_uF _ _ _ _ _ _).trans ((gn_uF _ _ _ _ _ _).trans ((gn_uF _ _ _ _ _ _).trans ((gn_uF _ _ _ _ _ _).trans ((gn_uF _ _ _ _ _ _).trans ((gn_uF _ _ _ _ _ _).trans (K6_n13 k2))))))) ((sh_uF _ _ _ _ _ _).trans ((sh_uF _ _ _ _ _ _).trans ((sh_uF _ _ _ _ _ _).trans ((sh_uF _ _ _ _ _ _).trans ((sh_uF _ _ _ _ _ _).trans ((sh_uF _ _ _ _ _ _).trans (K6_s13 k2))))))) (by decide) g3)).trans ?_
  refine (cl_v _ _ _ _ _ _).trans ?_
  refine (tq_putfield i_X6_recall_66 ((sh_uF _ _ _ _ _ _).trans ((sh_uF _ _ _ _ _ _).trans ((sh_uF _ _ _ _ _ _).trans ((sh_uF _ _ _ _ _ _).trans ((sh_uF _ _ _ _ _ _).trans ((sh_uF _ _ _ _ _ _).trans (K5_s k4))))))) (okf_5_6 _) rfl).trans ?_
  exact tq_return i_X6_recall_69 r_X6_recall
theorem recall_ok {h : am_H} {D P : Nat} {i x : Int} (w : wr x = i) (k6 : K6 h D) (k5 : K5 h P) (hi : 0 ≤ i ∧ i < 16) : ∃ h', rn m_X6_recall 0 [.ref D, .ref P, .int (mI x), am_J] [] h = some (.inl none, h') ∧ Md (fun c k => c = P ∧ k ≤ 6) h h' ∧ fZ h' P 0 = cx i ∧ fZ h' P 1 = cy i ∧ fZ h' P 2 = SZ (pdh h D 0) i ∧ fZ h' P 3 = tp (fZ h D 5) (cy i) ∧ fZ h' P 4 = pdh h D 1 i ∧ fZ h' P 5 = pdh h D 2 i ∧ fZ h' P 6 = pdh h D 3 i := by
  have st := b_X6_recall_0 w hi k6 hi k5
  simp only [gZ_uF] at st
  have e2 : (if (¬ (¬ (gZ h (D + 3) i) = 4)) then (4 : Int) else 8) = SZ (pdh h D 0) i := by
    show _ = if gZ h (D + 3) i = 4 then (4 : Int) else 8
    by_cases c : gZ h (D + 3) i = 4
    · rw [if_pos c, if_pos (fun q => q c)]
    · rw [if_neg c, if_neg (fun q => q c)]
  have e3 : 8 * (bZ (¬ ((fZ h D 5) ≤ 1) ∧ (¬ ((cy i) < 8)))) = tp (fZ h D 5) (cy i) := by
    unfold tp
    by_cases c : 1 < fZ h D 5 ∧ 8 ≤ cy i
    · rw [if_pos c, bZ_t (by omega)]; rfl
    · rw [if_neg c, bZ_f (by omega)]; rfl
  rw [e2, e3] at st
  have sp := K5_s k5
  have cxb := cx_b i
  have cyb := cy_b i
  have tb := tp_b (fZ h D 5) (cy i)
  have m0 : ∀ (k : Nat) (h : am_H) (v : Value), Sm h (uF 5 h P k v) → k ≤ 6 → Md (fun c k => c = P ∧ k ≤ 6) h (uF 5 h P k v) := fun k h v s hk => Md_mono (Md_uF s) fun c j q => ⟨q.1, by omega⟩
  refine ⟨_, st, Md_tr (m0 0 _ _ (Sm_uF_5_0 _ _ _) (by decide)) (Md_tr (m0 1 _ _ (Sm_uF_5_1 _ _ _) (by decide)) (Md_tr (m0 2 _ _ (Sm_uF_5_2 _ _ _) (by decide)) (Md_tr (m0 3 _ _ (Sm_uF_5_3 _ _ _) (by decide)) (Md_tr (m0 4 _ _ (Sm_uF_5_4 _ _ _) (by decide)) (Md_tr (m0 5 _ _ (Sm_uF_5_5 _ _ _) (by decide)) (m0 6 _ _ (Sm_uF_5_6 _ _ _) (by decide))))))), ?_, ?_, ?_, ?_, ?_, ?_, ?_⟩
  · rw [fZ_uF_k (by decide), fZ_uF_k (by decide), fZ_uF_k (by decide), fZ_uF_k (by decide), fZ_uF_k (by decide), fZ_uF_k (by decide), fZ_uF_eq sp (okf_5_0 _), wr_id (by omega) (by omega)]
  · rw [fZ_uF_k (by decide), fZ_uF_k (by decide), fZ_uF_k (by decide), fZ_uF_k (by decide), fZ_uF_k (by decide), fZ_uF_eq (by rw [sh_uF]; exact sp) (okf_5_1 _), wr_id (by omega) (by omega)]
  · rw [fZ_uF_k (by decide), fZ_uF_k (by decide), fZ_uF_k (by decide), fZ_uF_k (by decide), fZ_uF_eq (by rw [sh_uF, sh_uF]; exact sp) (okf_5_2 _)]
    unfold SZ
    split <;> exact wr_id (by decide) (by decide)
  · rw [fZ_uF_k (by decide), fZ_uF_k (by decide), fZ_uF_k (by decide), fZ_uF_eq (by rw [sh_uF, sh_uF, sh_uF]; exact sp) (okf_5_3 _), wr_id (by omega) (by omega)]
  · rw [fZ_uF_k (by decide), fZ_uF_k (by decide), fZ_uF_eq (by rw [sh_uF, sh_uF, sh_uF, sh_uF]; exact sp) (okf_5_4 _), wr_gZ]
    rfl
  · rw [fZ_uF_k (by decide), fZ_uF_eq (by rw [sh_uF, sh_uF, sh_uF, sh_uF, sh_uF]; exact sp) (okf_5_5 _), wr_gZ]
    rfl
  · rw [fZ_uF_eq (by rw [sh_uF, sh_uF, sh_uF, sh_uF, sh_uF, sh_uF]; exact sp) (okf_5_6 _), wr_gZ]
    rfl
theorem i_X8_writeSlice_0 : am_i m_X8_writeSlice 0 = some (0, .iconst 0, 1, [], 0) := rfl
theorem i_X8_writeSlice_1 : am_i m_X8_writeSlice 1 = some (1, .iconst 0, 1, [], 0) := rfl
theorem i_X8_writeSlice_2 : am_i m_X8_writeSlice 2 = some (2, .invokestatic 31, 3, [38], 0) := rfl
theorem i_X8_writeSlice_5 : am_i m_X8_writeSlice 5 = some (5, .istore_n 3, 1, [], 0) := rfl
theorem i_X8_writeSlice_6 : am_i m_X8_writeSlice 6 = some (6, .iconst 0, 1, [], 0) := rfl
theorem i_X8_writeSlice_7 : am_i m_X8_writeSlice 7 = some (7, .iconst 0, 1, [], 0) := rfl
theorem i_X8_writeSlice_8 : am_i m_X8_writeSlice 8 = some (8, .invokestatic 31, 3, [38], 0) := rfl
theorem i_X8_writeSlice_11 : am_i m_X8_writeSlice 11 = some (11, .istore 4, 2, [], 0) := rfl
theorem i_X8_writeSlice_13 : am_i m_X8_writeSlice 13 = some (13, .aload_n 0, 1, [], 0) := rfl
theorem i_X8_writeSlice_14 : am_i m_X8_writeSlice 14 = some (14, .iload_n 2, 1, [], 0) := rfl
theorem i_X8_writeSlice_15 : am_i m_X8_writeSlice 15 = some (15, .ifCond .ne 10, 3, [], 0) := rfl
theorem i_X8_writeSlice_18 : am_i m_X8_writeSlice 18 = some (18, .aload_n 0, 1, [], 0) := rfl
theorem i_X8_writeSlice_19 : am_i m_X8_writeSlice 19 = some (19, .getfield 12, 3, [7, 0, 0], 0) := rfl
theorem i_X8_writeSlice_22 : am_i m_X8_writeSlice 22 = some (22, .goto 7, 3, [], 0) := rfl
theorem i_X8_writeSlice_25 : am_i m_X8_writeSlice 25 = some (25, .aload_n 0, 1, [], 0) := rfl
theorem i_X8_writeSlice_26 : am_i m_X8_writeSlice 26 = some (26, .getfield 18, 3, [7, 1, 0], 0) := rfl
theorem i_X8_writeSlice_29 : am_i m_X8_writeSlice 29 = some (29, .putfield 21, 3, [7, 2, 0], 0) := rfl
theorem i_X8_writeSlice_32 : am_i m_X8_writeSlice 32 = some (32, .aload_n 0, 1, [], 0) := rfl
theorem i_X8_writeSlice_33 : am_i m_X8_writeSlice 33 = some (33, .getfield 21, 3, [7, 2, 0], 0) := rfl
theorem i_X8_writeSlice_36 : am_i m_X8_writeSlice 36 = some (36, .invokevirtual 37, 3, [47, 8], 0) := rfl
theorem b_X8_writeSlice_0 {a0 a1 : Nat} {x2 x2' : Int} {h : am_H} (w2 : wr x2 = x2') (k1 : K7 h a0) : rn m_X8_writeSlice 0 [.ref a0, .ref a1, .int (mI x2), am_J, am_J, am_J] [] h = if ¬ x2' = 0 then cl m_X8_writeSlice 39 [.ref a0, .ref a1, .int (mI x2), .int (mI (((100 * (0 + 8)) + 0) + 8)), .int (mI (((100 * (0 + 8)) + 0) + 8)), am_J] [] (rn m_X10_start 0 [.ref (a0 + 4)] [] (uF 7 h a0 2 (.ref (a0 + 4)))) else cl m_X8_writeSlice 39 [.ref a0, .ref a1, .int (mI x2), .int (mI (((100 * (0 + 8)) + 0) + 8)), .int (mI (((100 * (0 + 8)) + 0) + 8)), am_J] [] (rn m_X10_start 0 [.ref (a0 + 1)] [] (uF 7 h a0 2 (.ref (a0 + 1)))) := by
  refine (tq_iconst i_X8_writeSlice_0 rfl).trans ?_
  refine (tq_iconst i_X8_writeSlice_1 rfl).trans ?_
  refine (c_X9_of i_X8_writeSlice_2 (ltd d_X8_writeSlice (by decide)) stOk_0 rfl).trans ?_
  refine (congrArg (cl _ _ _ _) (b_X9_of_0)).trans ?_
  refine (cl_v _ _ _ _ _ _).trans ?_
  refine (tq_istore_n (L' := [.ref a0, .ref a1, .int (mI x2), .int (mI (((100 * (0 + 8)) + 0) + 8)), am_J, am_J]) i_X8_writeSlice_5 rfl rfl).trans ?_
  refine (tq_iconst i_X8_writeSlice_6 rfl).trans ?_
  refine (tq_iconst i_X8_writeSlice_7 rfl).trans ?_
  refine (c_X9_of i_X8_writeSlice_8 (ltd d_X8_writeSlice (by decide)) stOk_0 rfl).trans ?_
  refine (congrArg (cl _ _ _ _) (b_X9_of_0)).trans ?_
  refine (cl_v _ _ _ _ _ _).trans ?_
  refine (tq_istore (L' := [.ref a0, .ref a1, .int (mI x2), .int (mI (((100 * (0 + 8)) + 0) + 8)), .int (mI (((100 * (0 + 8)) + 0) + 8)), am_J]) i_X8_writeSlice_11 rfl rfl).trans ?_
  refine (tq_aload_n i_X8_writeSlice_13 rfl (isA_ref _) rfl).trans ?_
  refine (tq_iload_n i_X8_writeSlice_14 rfl rfl).trans ?_
  refine (tq_if_ne (pt := 25) i_X8_writeSlice_15 w2 (by decide) rfl).trans ?_
  refine ite_congr rfl (fun c1 => ?_) (fun c1 => ?_)
  · refine (tq_aload_n i_X8_writeSlice_25 rfl (isA_ref _) rfl).trans ?_
    refine (tq_getfield i_X8_writeSlice_26 (K7_s k1) (gR (g_7_1 (K7_s k1)) (K7_e1 k1)) (isV_ref _) rfl).trans ?_
    refine (tq_putfield i_X8_writeSlice_29 (K7_s k1) (okfA_7_2 (isA_ref _)) rfl).trans ?_
    refine (tq_aload_n i_X8_writeSlice_32 rfl (isA_ref _) rfl).trans ?_
    refine (tq_getfield i_X8_writeSlice_33 ((sh_uF _ _ _ _ _ _).trans (K7_s k1)) (gV_uF_eq (K7_s k1) (okfA_7_2 (isA_ref _))) (isV_ref _) rfl).trans ?_
    exact c_X10_start i_X8_writeSlice_36 ((sh_uF _ _ _ _ _ _).trans (K8_s (K7_k1 k1))) (ltd d_X8_writeSlice (by decide)) stOk_0 rfl
  · refine (tq_aload_n i_X8_writeSlice_18 rfl (isA_ref _) rfl).trans ?_
    refine (tq_getfield i_X8_writeSlice_19 (K7_s k1) (gR (g_7_0 (K7_s k1)) (K7_e0 k1)) (isV_ref _) rfl).trans ?_
    refine (tq_goto (pc' := 29) i_X8_writeSlice_22 (by decide)).trans ?_
    refine (tq_putfield i_X8_writeSlice_29 (K7_s k1) (okfA_7_2 (isA_ref _)) rfl).trans ?_
    refine (tq_aload_n i_X8_writeSlice_32 rfl (isA_ref _) rfl).trans ?_
    refine (tq_getfield i_X8_writeSlice_33 ((sh_uF _ _ _ _ _ _).trans (K7_s k1)) (gV_uF_eq (K7_s k1) (okfA_7_2 (isA_ref _))) (isV_ref _) rfl).trans ?_
    exact c_X10_start i_X8_writeSlice_36 ((sh_uF _ _ _ _ _ _).trans (K8_s (K7_k0 k1))) (ltd d_X8_writeSlice (by decide)) stOk_0 rfl
theorem i_X8_writeSlice_39 : am_i m_X8_writeSlice 39 = some (39, .iconst 0, 1, [], 0) := rfl
theorem i_X8_writeSlice_40 : am_i m_X8_writeSlice 40 = some (40, .istore 5, 2, [], 0) := rfl
theorem b_X8_writeSlice_39 {a0 a1 : Nat} {x2 x3 x4 : Int} {v5 : Value} {h : am_H} : rn m_X8_writeSlice 39 [.ref a0, .ref a1, .int (mI x2), .int (mI x3), .int (mI x4), v5] [] h = rn m_X8_writeSlice 42 [.ref a0, .ref a1, .int (mI x2), .int (mI x3), .int (mI x4), .int (mI 0)] [] h := by
  refine (tq_iconst i_X8_writeSlice_39 rfl).trans ?_
  refine (tq_istore (L' := [.ref a0, .ref a1, .int (mI x2), .int (mI x3), .int (mI x4), .int (mI 0)]) i_X8_writeSlice_40 rfl rfl).trans ?_
  rfl
theorem i_X8_writeSlice_42 : am_i m_X8_writeSlice 42 = some (42, .iload 5, 2, [], 0) := rfl
theorem i_X8_writeSlice_44 : am_i m_X8_writeSlice 44 = some (44, .bipush 16, 2, [], 16) := rfl
theorem i_X8_writeSlice_46 : am_i m_X8_writeSlice 46 = some (46, .if_icmp .ge 142, 3, [], 0) := rfl
theorem i_X8_writeSlice_49 : am_i m_X8_writeSlice 49 = some (49, .aload_n 1, 1, [], 0) := rfl
theorem i_X8_writeSlice_50 : am_i m_X8_writeSlice 50 = some (50, .iload 5, 2, [], 0) := rfl
theorem i_X8_writeSlice_52 : am_i m_X8_writeSlice 52 = some (52, .invokestatic 40, 3, [14], 0) := rfl
theorem i_X8_writeSlice_55 : am_i m_X8_writeSlice 55 = some (55, .invokevirtual 44, 3, [29, 6], 0) := rfl
theorem i_X8_writeSlice_58 : am_i m_X8_writeSlice 58 = some (58, .iload_n 2, 1, [], 0) := rfl
theorem i_X8_writeSlice_59 : am_i m_X8_writeSlice 59 = some (59, .if_icmp .eq 6, 3, [], 0) := rfl
theorem i_X8_writeSlice_62 : am_i m_X8_writeSlice 62 = some (62, .goto 120, 3, [], 0) := rfl
theorem i_X8_writeSlice_65 : am_i m_X8_writeSlice 65 = some (65, .iload 5, 2, [], 0) := rfl
theorem i_X8_writeSlice_67 : am_i m_X8_writeSlice 67 = some (67, .invokestatic 49, 3, [16], 0) := rfl
theorem i_X8_writeSlice_70 : am_i m_X8_writeSlice 70 = some (70, .ifCond .eq 25, 3, [], 0) := rfl
theorem i_X8_writeSlice_73 : am_i m_X8_writeSlice 73 = some (73, .aload_n 1, 1, [], 0) := rfl
theorem i_X8_writeSlice_74 : am_i m_X8_writeSlice 74 = some (74, .iconst 1, 1, [], 1) := rfl
theorem i_X8_writeSlice_75 : am_i m_X8_writeSlice 75 = some (75, .invokevirtual 53, 3, [26, 6], 0) := rfl
theorem i_X8_writeSlice_78 : am_i m_X8_writeSlice 78 = some (78, .ifCond .eq 17, 3, [], 0) := rfl
theorem i_X8_writeSlice_81 : am_i m_X8_writeSlice 81 = some (81, .aload_n 0, 1, [], 0) := rfl
theorem i_X8_writeSlice_82 : am_i m_X8_writeSlice 82 = some (82, .getfield 21, 3, [7, 2, 0], 0) := rfl
theorem i_X8_writeSlice_85 : am_i m_X8_writeSlice 85 = some (85, .iconst 0, 1, [], 0) := rfl
theorem i_X8_writeSlice_86 : am_i m_X8_writeSlice 86 = some (86, .aload_n 1, 1, [], 0) := rfl
theorem i_X8_writeSlice_87 : am_i m_X8_writeSlice 87 = some (87, .iload 5, 2, [], 0) := rfl
theorem i_X8_writeSlice_89 : am_i m_X8_writeSlice 89 = some (89, .invokevirtual 56, 3, [67, 6], 0) := rfl
theorem i_X8_writeSlice_92 : am_i m_X8_writeSlice 92 = some (92, .invokevirtual 59, 3, [72, 8], 0) := rfl
theorem i_X8_writeSlice_188 : am_i m_X8_writeSlice 188 = some (188, .iload_n 2, 1, [], 0) := rfl
theorem i_X8_writeSlice_189 : am_i m_X8_writeSlice 189 = some (189, .aload_n 1, 1, [], 0) := rfl
theorem i_X8_writeSlice_190 : am_i m_X8_writeSlice 190 = some (190, .getfield 106, 3, [6, 5, 1], 0) := rfl
theorem i_X8_writeSlice_193 : am_i m_X8_writeSlice 193 = some (193, .if_icmp .ge 10, 3, [], 0) := rfl
theorem i_X8_writeSlice_196 : am_i m_X8_writeSlice 196 = some (196, .aload_n 0, 1, [], 0) := rfl
theorem i_X8_writeSlice_197 : am_i m_X8_writeSlice 197 = some (197, .getfield 21, 3, [7, 2, 0], 0) := rfl
theorem i_X8_writeSlice_200 : am_i m_X8_writeSlice 200 = some (200, .invokevirtual 109, 3, [44, 8], 0) := rfl
theorem b_X8_writeSlice_42 {a0 a1 a0_writer : Nat} {x2 x3 x4 x5 x2' x5' : Int} {h : am_H} (w2 : wr x2 = x2') (w5 : wr x5 = x5') (k1 : K6 h a1) (k2 : K7 h a0) (e3 : fA h a0 2 = some a0_writer) (k4 : K8 h a0_writer) (g5 : (¬ (16 ≤ x5')) → (0 ≤ x5' ∧ x5' < 16)) (g6 : (¬ (16 ≤ x5')) → ((bZ (¬ ((fZ h a1 5) ≤ 1) ∧ (¬ ((cy x5') < 8)))) = x2') → ((x5' % 4 = 0)) → ((¬ ((zand (fZ h a1 4) 1) = 0))) → (0 ≤ x5' ∧ x5' < (16 : Int))) : rn m_X8_writeSlice 42 [.ref a0, .ref a1, .int (mI x2), .int (mI x3), .int (mI x4), .int (mI x5)] [] h = if 16 ≤ x5' then if (fZ h a1 5) ≤ x2' then rn m_X8_writeSlice 203 [.ref a0, .ref a1, .int (mI x2), .int (mI x3), .int (mI x4), .int (mI x5)] [] h else cl m_X8_writeSlice 203 [.ref a0, .ref a1, .int (mI x2), .int (mI x3), .int (mI x4), .int (mI x5)] [] (rn m_X10_end 0 [.ref a0_writer, am_J] [] h) else if (bZ (¬ ((fZ h a1 5) ≤ 1) ∧ (¬ ((cy x5') < 8)))) = x2' then if (x5' % 4 = 0) then if (¬ ((zand (fZ h a1 4) 1) = 0)) then cl m_X8_writeSlice 95 [.ref a0, .ref a1, .int (mI x2), .int (mI x3), .int (mI x4), .int (mI x5)] [] (rn m_X10_bit 0 [.ref a0_writer, .int (mI 0), .int (mI (bZ (¬ (¬ (gZ h (a1 + 3) x5') = 4)))), am_J, am_J, am_J] [] h) else rn m_X8_writeSlice 95 [.ref a0, .ref a1, .int (mI x2), .int (mI x3), .int (mI x4), .int (mI x5)] [] h else rn m_X8_writeSlice 95 [.ref a0, .ref a1, .int (mI x2), .int (mI x3), .int (mI x4), .int (mI x5)] [] h else rn m_X8_writeSlice 182 [.ref a0, .ref a1, .int (mI x2), .int (mI x3), .int (mI x4), .int (mI x5)] [] h := by
  refine (tq_iload i_X8_writeSlice_42 rfl rfl).trans ?_
  refine (tq_bipush i_X8_writeSlice_44 rfl).trans ?_
  refine (tq_icmp_ge (pt := 188) i_X8_writeSlice_46 w5 w_16 (by decide) rfl).trans ?_
  refine ite_congr rfl (fun c1 => ?_) (fun c1 => ?_)
  · refine (tq_iload_n i_X8_writeSlice_188 rfl rfl).trans ?_
    refine (tq_aload_n i_X8_writeSlice_189 rfl (isA_ref _) rfl).trans ?_
    refine (tq_getfield i_X8_writeSlice_190 (K6_s k1) (g_6_5 (K6_s k1)) (isV_I _) rfl).trans ?_
    refine (tq_icmp_ge (pt := 203) i_X8_writeSlice_193 w2 (wr_fZ _ _ _) (by decide) rfl).trans ?_
    refine ite_congr rfl (fun c2 => ?_) (fun c2 => ?_)
    · rfl
    · refine (tq_aload_n i_X8_writeSlice_196 rfl (isA_ref _) rfl).trans ?_
      refine (tq_getfield i_X8_writeSlice_197 (K7_s k2) (gR (g_7_2 (K7_s k2)) e3) (isV_ref _) rfl).trans ?_
      exact c_X10_end i_X8_writeSlice_200 (K8_s k4) (ltd d_X8_writeSlice (by decide)) stOk_0 rfl
  · refine (tq_aload_n i_X8_writeSlice_49 rfl (isA_ref _) rfl).trans ?_
    refine (tq_iload i_X8_writeSlice_50 rfl rfl).trans ?_
    refine (c_X11_rowOf i_X8_writeSlice_52 (ltd d_X8_writeSlice (by decide)) (stOk_1 _) rfl).trans ?_
    refine (congrArg (cl _ _ _ _) (rowOf_ok w5 (g5 c1))).trans ?_
    refine (cl_v _ _ _ _ _ _).trans ?_
    refine (c_X6_sliceOf i_X8_writeSlice_55 (K6_s k1) (ltd d_X8_writeSlice (by decide)) stOk_0 rfl).trans ?_
    refine (congrArg (cl _ _ _ _) (b_X6_sliceOf_0 (wr_cy _) k1)).trans ?_
    refine (cl_v _ _ _ _ _ _).trans ?_
    refine (tq_iload_n i_X8_writeSlice_58 rfl rfl).trans ?_
    refine (tq_icmp_eq (pt := 65) i_X8_writeSlice_59 (wr_bZ _) w2 (by decide) rfl).trans ?_
    refine ite_congr rfl (fun c3 => ?_) (fun c3 => ?_)
    · refine (tq_iload i_X8_writeSlice_65 rfl rfl).trans ?_
      refine (c_X11_startsBlock i_X8_writeSlice_67 (ltd d_X8_writeSlice (by decide)) stOk_0 rfl).trans ?_
      refine (congrArg (cl _ _ _ _) (startsBlock_ok w5 (g5 c1))).trans ?_
      refine (cl_v _ _ _ _ _ _).trans ?_
      refine (tq_ifb_eq (pt := 95) i_X8_writeSlice_70 (by decide) rfl).trans ?_
      refine ite_congr rfl (fun c4 => ?_) (fun c4 => ?_)
      · refine (tq_aload_n i_X8_writeSlice_73 rfl (isA_ref _) rfl).trans ?_
        refine (tq_iconst i_X8_writeSlice_74 rfl).trans ?_
        refine (c_X6_has i_X8_writeSlice_75 (K6_s k1) (ltd d_X8_writeSlice (by decide)) stOk_0 rfl).trans ?_
        refine (congrArg (cl _ _ _ _) (b_X6_has_0 k1)).trans ?_
        refine (cl_v _ _ _ _ _ _).trans ?_
        refine (tq_ifb_eq (pt := 95) i_X8_writeSlice_78 (by decide) rfl).trans ?_
        refine ite_congr rfl (fun c5 => ?_) (fun c5 => ?_)
        · refine (tq_aload_n i_X8_writeSlice_81 rfl (isA_ref _) rfl).trans ?_
          refine (tq_getfield i_X8_writeSlice_82 (K7_s k2) (gR (g_7_2 (K7_s k2)) e3) (isV_ref _) rfl).trans ?_
          refine (tq_iconst i_X8_writeSlice_85 rfl).trans ?_
          refine (tq_aload_n i_X8_writeSlice_86 rfl (isA_ref _) rfl).trans ?_
          refine (tq_iload i_X8_writeSlice_87 rfl rfl).trans ?_
          refine (c_X6_isSplitAt i_X8_writeSlice_89 (K6_s k1) (ltd d_X8_writeSlice (by decide)) (stOk_2 _ _) rfl).trans ?_
          refine (congrArg (cl _ _ _ _) (b_X6_isSplitAt_0 w5 k1 (g6 c1 c3 c4 c5))).trans ?_
          refine (cl_v _ _ _ _ _ _).trans ?_
          exact c_X10_bit i_X8_writeSlice_92 (K8_s k4) (ltd d_X8_writeSlice (by decide)) stOk_0 rfl
        · rfl
      · rfl
    · refine (tq_goto (pc' := 182) i_X8_writeSlice_62 (by decide)).trans ?_
      rfl
theorem i_X8_writeSlice_95 : am_i m_X8_writeSlice 95 = some (95, .aload_n 1, 1, [], 0) := rfl
theorem i_X8_writeSlice_96 : am_i m_X8_writeSlice 96 = some (96, .iload 5, 2, [], 0) := rfl
theorem i_X8_writeSlice_98 : am_i m_X8_writeSlice 98 = some (98, .invokevirtual 63, 3, [84, 6], 0) := rfl
theorem i_X8_writeSlice_101 : am_i m_X8_writeSlice 101 = some (101, .ifCond .eq 60, 3, [], 0) := rfl
theorem i_X8_writeSlice_104 : am_i m_X8_writeSlice 104 = some (104, .aload_n 1, 1, [], 0) := rfl
theorem i_X8_writeSlice_105 : am_i m_X8_writeSlice 105 = some (105, .aload_n 0, 1, [], 0) := rfl
theorem i_X8_writeSlice_106 : am_i m_X8_writeSlice 106 = some (106, .getfield 27, 3, [7, 3, 0], 0) := rfl
theorem i_X8_writeSlice_109 : am_i m_X8_writeSlice 109 = some (109, .iload 5, 2, [], 0) := rfl
theorem i_X8_writeSlice_111 : am_i m_X8_writeSlice 111 = some (111, .invokevirtual 66, 3, [83, 6], 0) := rfl
theorem i_X8_writeSlice_161 : am_i m_X8_writeSlice 161 = some (161, .aload_n 0, 1, [], 0) := rfl
theorem i_X8_writeSlice_162 : am_i m_X8_writeSlice 162 = some (162, .aload_n 1, 1, [], 0) := rfl
theorem i_X8_writeSlice_163 : am_i m_X8_writeSlice 163 = some (163, .getfield 92, 3, [6, 14, 1], 0) := rfl
theorem i_X8_writeSlice_166 : am_i m_X8_writeSlice 166 = some (166, .iload 5, 2, [], 0) := rfl
theorem i_X8_writeSlice_168 : am_i m_X8_writeSlice 168 = some (168, .invokestatic 96, 3, [6], 0) := rfl
theorem i_X8_writeSlice_171 : am_i m_X8_writeSlice 171 = some (171, .iload 5, 2, [], 0) := rfl
theorem i_X8_writeSlice_173 : am_i m_X8_writeSlice 173 = some (173, .invokestatic 40, 3, [14], 0) := rfl
theorem i_X8_writeSlice_176 : am_i m_X8_writeSlice 176 = some (176, .invokestatic 99, 3, [13], 0) := rfl
theorem i_X8_writeSlice_179 : am_i m_X8_writeSlice 179 = some (179, .invokevirtual 102, 3, [101, 7], 0) := rfl
theorem b_X8_writeSlice_95 {a0 a1 : Nat} {x2 x3 x4 x5 x5' : Int} {h : am_H} (w5 : wr x5 = x5') (k1 : K6 h a1) (g2 : 0 ≤ x5' ∧ x5' < 16) (k3 : K7 h a0) : rn m_X8_writeSlice 95 [.ref a0, .ref a1, .int (mI x2), .int (mI x3), .int (mI x4), .int (mI x5)] [] h = if (x5' % 4 = 0 ∨ gZ h (a1 + 3) x5' = 4) then cl m_X8_writeSlice 114 [.ref a0, .ref a1, .int (mI x2), .int (mI x3), .int (mI x4), .int (mI x5)] [] (rn m_X6_recall 0 [.ref a1, .ref (a0 + 7), .int (mI x5), am_J] [] h) else cl m_X8_writeSlice 182 [.ref a0, .ref a1, .int (mI x2), .int (mI x3), .int (mI x4), .int (mI x5)] [] (rn m_X8_writeSquare 0 [.ref a0, .ref (a1 + 7), .int (mI ((16 * (cy x5')) + (cx x5'))), am_J, am_J, am_J] [] h) := by
  refine (tq_aload_n i_X8_writeSlice_95 rfl (isA_ref _) rfl).trans ?_
  refine (tq_iload i_X8_writeSlice_96 rfl rfl).trans ?_
  refine (c_X6_startsPart i_X8_writeSlice_98 (K6_s k1) (ltd d_X8_writeSlice (by decide)) stOk_0 rfl).trans ?_
  refine (congrArg (cl _ _ _ _) (startsPart_ok w5 g2 k1)).trans ?_
  refine (cl_v _ _ _ _ _ _).trans ?_
  refine (tq_ifb_eq (pt := 161) i_X8_writeSlice_101 (by decide) rfl).trans ?_
  refine ite_congr rfl (fun c1 => ?_) (fun c1 => ?_)
  · refine (tq_aload_n i_X8_writeSlice_104 rfl (isA_ref _) rfl).trans ?_
    refine (tq_aload_n i_X8_writeSlice_105 rfl (isA_ref _) rfl).trans ?_
    refine (tq_getfield i_X8_writeSlice_106 (K7_s k3) (gR (g_7_3 (K7_s k3)) (K7_e3 k3)) (isV_ref _) rfl).trans ?_
    refine (tq_iload i_X8_writeSlice_109 rfl rfl).trans ?_
    exact c_X6_recall i_X8_writeSlice_111 (K6_s k1) (ltd d_X8_writeSlice (by decide)) (isA_ref _) stOk_0 rfl
  · refine (tq_aload_n i_X8_writeSlice_161 rfl (isA_ref _) rfl).trans ?_
    refine (tq_aload_n i_X8_writeSlice_162 rfl (isA_ref _) rfl).trans ?_
    refine (tq_getfield i_X8_writeSlice_163 (K6_s k1) (gR (g_6_14 (K6_s k1)) (K6_e14 k1)) (isV_ref _) rfl).trans ?_
    refine (tq_iload i_X8_writeSlice_166 rfl rfl).trans ?_
    refine (c_X11_columnOf i_X8_writeSlice_168 (ltd d_X8_writeSlice (by decide)) (stOk_2 _ _) rfl).trans ?_
    refine (congrArg (cl _ _ _ _) (columnOf_ok w5 g2)).trans ?_
    refine (cl_v _ _ _ _ _ _).trans ?_
    refine (tq_iload i_X8_writeSlice_171 rfl rfl).trans ?_
    refine (c_X11_rowOf i_X8_writeSlice_173 (ltd d_X8_writeSlice (by decide)) (stOk_3 _ _ _) rfl).trans ?_
    refine (congrArg (cl _ _ _ _) (rowOf_ok w5 g2)).trans ?_
    refine (cl_v _ _ _ _ _ _).trans ?_
    refine (c_X11_placeOf i_X8_writeSlice_176 (ltd d_X8_writeSlice (by decide)) (stOk_2 _ _) rfl).trans ?_
    refine (congrArg (cl _ _ _ _) (b_X11_placeOf_0)).trans ?_
    refine (cl_v _ _ _ _ _ _).trans ?_
    exact c_X8_writeSquare i_X8_writeSlice_179 (K7_s k3) (ltd d_X8_writeSlice (by decide)) (isA_ref _) stOk_0 rfl
theorem i_X8_writeSlice_114 : am_i m_X8_writeSlice 114 = some (114, .aload_n 0, 1, [], 0) := rfl
theorem i_X8_writeSlice_115 : am_i m_X8_writeSlice 115 = some (115, .aload_n 1, 1, [], 0) := rfl
theorem i_X8_writeSlice_116 : am_i m_X8_writeSlice 116 = some (116, .invokevirtual 70, 3, [97, 7], 0) := rfl
theorem b_X8_writeSlice_114 {a0 a1 : Nat} {x2 x3 x4 x5 : Int} {h : am_H} (k1 : K7 h a0) : rn m_X8_writeSlice 114 [.ref a0, .ref a1, .int (mI x2), .int (mI x3), .int (mI x4), .int (mI x5)] [] h = cl m_X8_writeSlice 119 [.ref a0, .ref a1, .int (mI x2), .int (mI x3), .int (mI x4), .int (mI x5)] [] (rn m_X8_writeMode 0 [.ref a0, .ref a1] [] h) := by
  refine (tq_aload_n i_X8_writeSlice_114 rfl (isA_ref _) rfl).trans ?_
  refine (tq_aload_n i_X8_writeSlice_115 rfl (isA_ref _) rfl).trans ?_
  exact c_X8_writeMode i_X8_writeSlice_116 (K7_s k1) (ltd d_X8_writeSlice (by decide)) (isA_ref _) stOk_0 rfl
theorem i_X8_writeSlice_119 : am_i m_X8_writeSlice 119 = some (119, .aload_n 0, 1, [], 0) := rfl
theorem i_X8_writeSlice_120 : am_i m_X8_writeSlice 120 = some (120, .aload_n 0, 1, [], 0) := rfl
theorem i_X8_writeSlice_121 : am_i m_X8_writeSlice 121 = some (121, .getfield 27, 3, [7, 3, 0], 0) := rfl
theorem i_X8_writeSlice_124 : am_i m_X8_writeSlice 124 = some (124, .invokevirtual 74, 3, [22, 5], 0) := rfl
theorem i_X8_writeSlice_127 : am_i m_X8_writeSlice 127 = some (127, .aload_n 0, 1, [], 0) := rfl
theorem i_X8_writeSlice_128 : am_i m_X8_writeSlice 128 = some (128, .getfield 27, 3, [7, 3, 0], 0) := rfl
theorem i_X8_writeSlice_131 : am_i m_X8_writeSlice 131 = some (131, .getfield 78, 3, [5, 5, 1], 0) := rfl
theorem i_X8_writeSlice_134 : am_i m_X8_writeSlice 134 = some (134, .iload_n 3, 1, [], 0) := rfl
theorem i_X8_writeSlice_135 : am_i m_X8_writeSlice 135 = some (135, .invokevirtual 82, 3, [102, 7], 0) := rfl
theorem b_X8_writeSlice_119 {a0 a1 : Nat} {x2 x3 x4 x5 : Int} {h : am_H} (k1 : K7 h a0) : rn m_X8_writeSlice 119 [.ref a0, .ref a1, .int (mI x2), .int (mI x3), .int (mI x4), .int (mI x5)] [] h = cl m_X8_writeSlice 138 [.ref a0, .ref a1, .int (mI x2), .int (mI x3), .int (mI x4), .int (mI x5)] [] (rn m_X8_writeVector 0 [.ref a0, .int (mI (bZ (((fZ h (a0 + 7) 4) = 4) ∨ (¬ (¬ (fZ h (a0 + 7) 4) = 6))))), .int (mI (fZ h (a0 + 7) 5)), .int (mI x3), am_J, am_J] [] h) := by
  refine (tq_aload_n i_X8_writeSlice_119 rfl (isA_ref _) rfl).trans ?_
  refine (tq_aload_n i_X8_writeSlice_120 rfl (isA_ref _) rfl).trans ?_
  refine (tq_getfield i_X8_writeSlice_121 (K7_s k1) (gR (g_7_3 (K7_s k1)) (K7_e3 k1)) (isV_ref _) rfl).trans ?_
  refine (c_X5_usesFirst i_X8_writeSlice_124 (K5_s (K7_k3 k1)) (ltd d_X8_writeSlice (by decide)) (stOk_1 _) rfl).trans ?_
  refine (congrArg (cl _ _ _ _) (b_X5_usesFirst_0 (K7_k3 k1))).trans ?_
  refine (cl_v _ _ _ _ _ _).trans ?_
  refine (tq_aload_n i_X8_writeSlice_127 rfl (isA_ref _) rfl).trans ?_
  refine (tq_getfield i_X8_writeSlice_128 (K7_s k1) (gR (g_7_3 (K7_s k1)) (K7_e3 k1)) (isV_ref _) rfl).trans ?_
  refine (tq_getfield i_X8_writeSlice_131 (K5_s (K7_k3 k1)) (g_5_5 (K5_s (K7_k3 k1))) (isV_I _) rfl).trans ?_
  refine (tq_iload_n i_X8_writeSlice_134 rfl rfl).trans ?_
  exact c_X8_writeVector i_X8_writeSlice_135 (K7_s k1) (ltd d_X8_writeSlice (by decide)) stOk_0 rfl
theorem i_X8_writeSlice_138 : am_i m_X8_writeSlice 138 = some (138, .istore_n 3, 1, [], 0) := rfl
theorem i_X8_writeSlice_139 : am_i m_X8_writeSlice 139 = some (139, .aload_n 0, 1, [], 0) := rfl
theorem i_X8_writeSlice_140 : am_i m_X8_writeSlice 140 = some (140, .aload_n 0, 1, [], 0) := rfl
theorem i_X8_writeSlice_141 : am_i m_X8_writeSlice 141 = some (141, .getfield 27, 3, [7, 3, 0], 0) := rfl
theorem i_X8_writeSlice_144 : am_i m_X8_writeSlice 144 = some (144, .invokevirtual 86, 3, [23, 5], 0) := rfl
theorem i_X8_writeSlice_147 : am_i m_X8_writeSlice 147 = some (147, .aload_n 0, 1, [], 0) := rfl
theorem i_X8_writeSlice_148 : am_i m_X8_writeSlice 148 = some (148, .getfield 27, 3, [7, 3, 0], 0) := rfl
theorem i_X8_writeSlice_151 : am_i m_X8_writeSlice 151 = some (151, .getfield 89, 3, [5, 6, 1], 0) := rfl
theorem i_X8_writeSlice_154 : am_i m_X8_writeSlice 154 = some (154, .iload 4, 2, [], 0) := rfl
theorem i_X8_writeSlice_156 : am_i m_X8_writeSlice 156 = some (156, .invokevirtual 82, 3, [102, 7], 0) := rfl
theorem b_X8_writeSlice_138 {a0 a1 : Nat} {x2 x4 x5 xs0 : Int} {v3 : Value} {h : am_H} (k1 : K7 h a0) : rn m_X8_writeSlice 138 [.ref a0, .ref a1, .int (mI x2), v3, .int (mI x4), .int (mI x5)] [.int (mI xs0)] h = cl m_X8_writeSlice 159 [.ref a0, .ref a1, .int (mI x2), .int (mI xs0), .int (mI x4), .int (mI x5)] [] (rn m_X8_writeVector 0 [.ref a0, .int (mI (bZ (((fZ h (a0 + 7) 4) = 5) ∨ (¬ (¬ (fZ h (a0 + 7) 4) = 6))))), .int (mI (fZ h (a0 + 7) 6)), .int (mI x4), am_J, am_J] [] h) := by
  refine (tq_istore_n (L' := [.ref a0, .ref a1, .int (mI x2), .int (mI xs0), .int (mI x4), .int (mI x5)]) i_X8_writeSlice_138 rfl rfl).trans ?_
  refine (tq_aload_n i_X8_writeSlice_139 rfl (isA_ref _) rfl).trans ?_
  refine (tq_aload_n i_X8_writeSlice_140 rfl (isA_ref _) rfl).trans ?_
  refine (tq_getfield i_X8_writeSlice_141 (K7_s k1) (gR (g_7_3 (K7_s k1)) (K7_e3 k1)) (isV_ref _) rfl).trans ?_
  refine (c_X5_usesSecond i_X8_writeSlice_144 (K5_s (K7_k3 k1)) (ltd d_X8_writeSlice (by decide)) (stOk_1 _) rfl).trans ?_
  refine (congrArg (cl _ _ _ _) (b_X5_usesSecond_0 (K7_k3 k1))).trans ?_
  refine (cl_v _ _ _ _ _ _).trans ?_
  refine (tq_aload_n i_X8_writeSlice_147 rfl (isA_ref _) rfl).trans ?_
  refine (tq_getfield i_X8_writeSlice_148 (K7_s k1) (gR (g_7_3 (K7_s k1)) (K7_e3 k1)) (isV_ref _) rfl).trans ?_
  refine (tq_getfield i_X8_writeSlice_151 (K5_s (K7_k3 k1)) (g_5_6 (K5_s (K7_k3 k1))) (isV_I _) rfl).trans ?_
  refine (tq_iload i_X8_writeSlice_154 rfl rfl).trans ?_
  exact c_X8_writeVector i_X8_writeSlice_156 (K7_s k1) (ltd d_X8_writeSlice (by decide)) stOk_0 rfl
theorem i_X8_writeSlice_159 : am_i m_X8_writeSlice 159 = some (159, .istore 4, 2, [], 0) := rfl
theorem b_X8_writeSlice_159 {a0 a1 : Nat} {x2 x3 x5 xs0 x5' : Int} {v4 : Value} {h : am_H} (w5 : wr x5 = x5') (k1 : K6 h a1) (g2 : 0 ≤ x5' ∧ x5' < 16) (k3 : K7 h a0) : rn m_X8_writeSlice 159 [.ref a0, .ref a1, .int (mI x2), .int (mI x3), v4, .int (mI x5)] [.int (mI xs0)] h = cl m_X8_writeSlice 182 [.ref a0, .ref a1, .int (mI x2), .int (mI x3), .int (mI xs0), .int (mI x5)] [] (rn m_X8_writeSquare 0 [.ref a0, .ref (a1 + 7), .int (mI ((16 * (cy x5')) + (cx x5'))), am_J, am_J, am_J] [] h) := by
  refine (tq_istore (L' := [.ref a0, .ref a1, .int (mI x2), .int (mI x3), .int (mI xs0), .int (mI x5)]) i_X8_writeSlice_159 rfl rfl).trans ?_
  refine (tq_aload_n i_X8_writeSlice_161 rfl (isA_ref _) rfl).trans ?_
  refine (tq_aload_n i_X8_writeSlice_162 rfl (isA_ref _) rfl).trans ?_
  refine (tq_getfield i_X8_writeSlice_163 (K6_s k1) (gR (g_6_14 (K6_s k1)) (K6_e14 k1)) (isV_ref _) rfl).trans ?_
  refine (tq_iload i_X8_writeSlice_166 rfl rfl).trans ?_
  refine (c_X11_columnOf i_X8_writeSlice_168 (ltd d_X8_writeSlice (by decide)) (stOk_2 _ _) rfl).trans ?_
  refine (congrArg (cl _ _ _ _) (columnOf_ok w5 g2)).trans ?_
  refine (cl_v _ _ _ _ _ _).trans ?_
  refine (tq_iload i_X8_writeSlice_171 rfl rfl).trans ?_
  refine (c_X11_rowOf i_X8_writeSlice_173 (ltd d_X8_writeSlice (by decide)) (stOk_3 _ _ _) rfl).trans ?_
  refine (congrArg (cl _ _ _ _) (rowOf_ok w5 g2)).trans ?_
  refine (cl_v _ _ _ _ _ _).trans ?_
  refine (c_X11_placeOf i_X8_writeSlice_176 (ltd d_X8_writeSlice (by decide)) (stOk_2 _ _) rfl).trans ?_
  refine (congrArg (cl _ _ _ _) (b_X11_placeOf_0)).trans ?_
  refine (cl_v _ _ _ _ _ _).trans ?_
  exact c_X8_writeSquare i_X8_writeSlice_179 (K7_s k3) (ltd d_X8_writeSlice (by decide)) (isA_ref _) stOk_0 rfl
theorem i_X8_writeSlice_182 : am_i m_X8_writeSlice 182 = some (182, .iinc 5 1, 3, [], 0) := rfl
theorem i_X8_writeSlice_185 : am_i m_X8_writeSlice 185 = some (185, .goto (-143), 3, [], 0) := rfl
theorem b_X8_writeSlice_182 {a0 a1 : Nat} {x2 x3 x4 x5 : Int} {h : am_H} : rn m_X8_writeSlice 182 [.ref a0, .ref a1, .int (mI x2), .int (mI x3), .int (mI x4), .int (mI x5)] [] h = rn m_X8_writeSlice 42 [.ref a0, .ref a1, .int (mI x2), .int (mI x3), .int (mI x4), .int (mI (x5 + 1))] [] h := by
  refine (tq_iinc (L' := [.ref a0, .ref a1, .int (mI x2), .int (mI x3), .int (mI x4), .int (mI (x5 + 1))]) i_X8_writeSlice_182 rfl rfl rfl).trans ?_
  refine (tq_goto (pc' := 42) i_X8_writeSlice_185 (by decide)).trans ?_
  rfl
theorem i_X8_writeSlice_203 : am_i m_X8_writeSlice 203 = some (203, .return_, 1, [], 0) := rfl
theorem b_X8_writeSlice_203 {v0 v1 v2 v3 v4 v5 : Value} {h : am_H} : rn m_X8_writeSlice 203 [v0, v1, v2, v3, v4, v5] [] h = some (.inl none, h) := by
  exact tq_return i_X8_writeSlice_203 r_X8_writeSlice
/-- what writing a slice changes -/
def SL (S w : Nat) : Nat → Nat → Prop := fun c k => SW w c k ∨ (c = S + 7 ∧ k ≤ 6)
theorem SL_n {S w c k : Nat} (h : c ≠ w ∧ c ≠ w + 1 ∧ c ≠ w + 2 ∧ c ≠ S + 7) : ¬ SL S w c k := by unfold SL SW; omega
theorem WSt_sl {h h' : am_H} {S w : Nat} (m : Md (SL S w) h h') (s : WSt h S w) : WSt h' S w := by
  obtain ⟨s0, s1, s2, s3, s4, s5, s6⟩ := s
  exact ⟨s0, K7_sm m.1 s1, (md_fA m (SL_n (by omega))).trans s2, s3, (md_gn m _).trans s4, (md_sh m _).trans s5, fun k k0 k1 => (md_gZ m (SL_n (by omega)) k).trans (s6 k k0 k1)⟩
theorem WR_md {T : Nat → Nat → Prop} {h h' : am_H} {w e : Nat} {A : cA} (m : Md T h h') (n1 : ¬ T (w + 1) 0) (n2 : ¬ T (w + 2) 0) (n3 : ∀ k, k < 5 → ¬ T w k) (q : WR h w A e) : WR h' w A e := WF_md m n1 n2 n3 q
theorem slo_eq {sl s : Int} : bZ (¬ (sl ≤ 1) ∧ (¬ ((cy s) < 8))) = slo sl s := by
  unfold slo
  by_cases c : 1 < sl ∧ 8 ≤ cy s
  · rw [if_pos c, bZ_t (by omega)]
  · rw [if_neg c, bZ_f (by omega)]
/-- the picture that is written -/
def Pw (h : am_H) (D : Nat) (pd : Nat → Int → Int) (kd tl sl : Int) : Prop := K6 h D ∧ fZ h D 0 = kd ∧ fZ h D 4 = tl ∧ fZ h D 5 = sl ∧ ∀ n, n < 5 → pdh h D n = pd n
theorem Pw_md {T : Nat → Nat → Prop} {h h' : am_H} {D : Nat} {pd : Nat → Int → Int} {kd tl sl : Int} (m : Md T h h') (n0 : ∀ k, k < 6 → ¬ T D k) (n1 : ∀ k, k < 5 → ¬ T (D + 3 + k) 0) (p : Pw h D pd kd tl sl) : Pw h' D pd kd tl sl := by
  obtain ⟨p1, p2, p3, p4, p5⟩ := p
  exact ⟨K6_sm m.1 p1, (md_fZ m (n0 0 (by decide))).trans p2, (md_fZ m (n0 4 (by decide))).trans p3, (md_fZ m (n0 5 (by decide))).trans p4, fun n hn => (md_Z m (n1 n hn)).trans (p5 n hn)⟩
theorem Pw_SW {h h' : am_H} {S w D : Nat} {pd : Nat → Int → Int} {kd tl sl : Int} (hw : w = S + 1 ∨ w = S + 4) (nD : S + 7 < D ∨ D + 8 < S) (m : Md (SW w) h h') (p : Pw h D pd kd tl sl) : Pw h' D pd kd tl sl := Pw_md m (fun k hk => SW_n (by omega)) (fun k hk => by unfold SW; omega) p
theorem Pw_P {h h' : am_H} {P D : Nat} {pd : Nat → Int → Int} {kd tl sl : Int} (nD : P < D ∨ D + 8 < P) (m : Md (fun c k => c = P ∧ k ≤ 6) h h') (p : Pw h D pd kd tl sl) : Pw h' D pd kd tl sl := Pw_md m (fun k hk => by omega) (fun k hk => by omega) p
theorem Pw_SL {h h' : am_H} {S w D : Nat} {pd : Nat → Int → Int} {kd tl sl : Int} (hw : w = S + 1 ∨ w = S + 4) (nD : S + 7 < D ∨ D + 8 < S) (m : Md (SL S w) h h') (p : Pw h D pd kd tl sl) : Pw h' D pd kd tl sl := Pw_md m (fun k hk => SL_n (by omega)) (fun k hk => SL_n (by omega)) p
theorem wSq_ok {h : am_H} {S D w e : Nat} {A : cA} {pd : Nat → Int → Int} {kd tl sl x2 l1 l2 i : Int} (s : WSt h S w) (q : WR h w A e) (p : Pw h D pd kd tl sl) (nD : S + 7 < D ∨ D + 8 < S) (ht : 0 ≤ tl ∧ tl ≤ 7) (hi : 0 ≤ i ∧ i < 16) (b : pdB pd i) (o1 : okv l1) (o2 : okv l2) (ix : slo sl i = x2) (hx : x2 = 0 ∨ x2 = 1) (ft : Ft A e 266 344) : ∃ h', rn m_X8_writeSlice 42 [.ref S, .ref D, .int (mI x2), .int (mI l1), .int (mI l2), .int (mI i)] [] h = rn m_X8_writeSlice 42 [.ref S, .ref D, .int (mI x2), .int (mI (nl1 pd l1 i)), .int (mI (nl2 pd l2 i)), .int (mI (i + 1))] [] h' ∧ Md (SL S w) h h' ∧ WR h' w (runA A (evE pd kd tl l1 l2 i)) (e + (evE pd kd tl l1 l2 i).length) := by
  obtain ⟨p1, p2, p3, p4, p5⟩ := id p
  obtain ⟨b0, b1, b2, b3, b4⟩ := b
  have hw := s.2.2.2.1
  have n7 : ∀ {k}, ¬ SW w (S + 7) k := SW_n (by omega)
  have n7D : S + 7 < D ∨ D + 8 < S + 7 := by omega
  have n7a : ¬ (w + 1 = S + 7 ∧ 0 ≤ 6) := by omega
  have n7b : ¬ (w + 2 = S + 7 ∧ 0 ≤ 6) := by omega
  have n7c : ∀ k, k < 5 → ¬ (w = S + 7 ∧ k ≤ 6) := fun k hk => by omega
  have wi : wr i = i := wr_id (by omega) (by omega)
  have cxb := cx_b i
  have cyb := cy_b i
  have nDw : ∀ k, k < 9 → (D + k ≠ w ∧ D + k ≠ w + 1 ∧ D + k ≠ w + 2) ∧ D + k ≠ S + 7 := fun k hk => by omega
  have st := b_X8_writeSlice_42 (a0 := S) (a1 := D) (x2 := x2) (x3 := l1) (x4 := l2) (x5 := i) (h := h) (wr_id (z := x2) (by omega) (by omega)) (wr_id (z := i) (by omega) (by omega)) p1 s.2.1 s.2.2.1 q.1 (fun _ => hi) (fun _ _ _ _ => hi)
  have ez : gZ h (D + 3) i = pd 0 i := by rw [← p5 0 (by decide)]; rfl
  rw [if_neg (by omega), p4, slo_eq, if_pos ix, p3, zand1 ht, ez] at st
  -- is the block split
  have one : ∃ h1, rn m_X8_writeSlice 42 [.ref S, .ref D, .int (mI x2), .int (mI l1), .int (mI l2), .int (mI i)] [] h = rn m_X8_writeSlice 95 [.ref S, .ref D, .int (mI x2), .int (mI l1), .int (mI l2), .int (mI i)] [] h1 ∧ Wr h h1 w A e (evE0 pd tl i) ∧ Ft (runA A (evE0 pd tl i)) (e + (evE0 pd tl i).length) 265 344 := by
    unfold evE0
    by_cases c4 : i % 4 = 0
    · rw [if_pos c4] at st
      by_cases ct : tl % 2 = 1
      · rw [if_pos (by omega), bZ_congr (q := pd 0 i = 4) (by omega)] at st
        rw [if_pos ⟨c4, ct⟩]
        obtain ⟨h1, e1, r1⟩ := bitP (x1 := 0) (p := pd 0 i = 4) (wr_id (by omega) (by omega)) q (Ft_mono ft (by omega) (by omega)) (by omega)
        rw [e1, cl_n] at st
        exact ⟨h1, st, r1, Ft_b (by omega) ft⟩
      · rw [if_neg (by omega)] at st
        rw [if_neg (fun g => ct g.2)]
        exact ⟨h, st, Wr_nil q, Ft_mono ft (by omega) (by omega)⟩
    · rw [if_neg c4] at st
      rw [if_neg (fun g => c4 g.1)]
      exact ⟨h, st, Wr_nil q, Ft_mono ft (by omega) (by omega)⟩
  obtain ⟨h1, e1, r1, f1⟩ := one
  have s1 := WSt_md r1.1 s
  have p' := Pw_SW hw nD r1.1 p
  obtain ⟨p1', p2', p3', p4', p5'⟩ := id p'
  have ez1 : gZ h1 (D + 3) i = pd 0 i := by rw [← p5' 0 (by decide)]; rfl
  have st1 := b_X8_writeSlice_95 (a0 := S) (a1 := D) (x2 := x2) (x3 := l1) (x4 := l2) (x5 := i) (h := h1) wi p1' hi s1.2.1
  rw [ez1] at st1
  -- the square's levels
  have sq : ∀ (h2 : am_H) (A2 : cA) (e2 : Nat), WSt h2 S w → WR h2 w A2 e2 → Pw h2 D pd kd tl sl → Ft A2 e2 213 320 → ∃ h3, rn m_X8_writeSquare 0 [.ref S, .ref (D + 7), .int (mI ((16 * (cy i)) + (cx i))), am_J, am_J, am_J] [] h2 = some (.inl none, h3) ∧ Wr h2 h3 w A2 e2 (evQ (lvs pd i)) := by
    intro h2 A2 e2 s2 q2 p2 f2
    refine wQ_ok (n0 := 256) (f := lvs pd i) s2 q2 (K6_s14 p2.1) (K6_n14 p2.1) (nDw 7 (by decide)).1 (by omega) (fun k k0 k1 => ?_) (fun k k0 k1 => ?_) (fun k k0 k1 => ?_) f2
    · have rb := rowp_b ⟨k0, k1⟩
      have := pl_b i (rowp k)
      unfold pl at this
      exact this
    · have rb := rowp_b ⟨k0, k1⟩
      exact b4 _ rb.1 rb.2
    · unfold lvs pl
      rw [← p2.2.2.2.2 4 (by decide)]
      rfl
  by_cases cs : i % 4 = 0 ∨ pd 0 i = 4
  · rw [if_pos cs] at st1
    obtain ⟨h2, e2, m2, -, -, -, -, g4, g5, g6⟩ := recall_ok (P := S + 7) (wr_id (z := i) (by omega) (by omega)) p1' (K7_k3 s1.2.1) hi
    rw [p5' 1 (by decide)] at g4
    rw [p5' 2 (by decide)] at g5
    rw [p5' 3 (by decide)] at g6
    have m2' : Md (SL S w) h1 h2 := Md_mono m2 fun c k q => Or.inr q
    have s2 := WSt_sl m2' s1
    have q2 := WR_md m2 n7a n7b n7c r1.2
    have pp2 := Pw_P n7D m2 p'
    obtain ⟨h3, e3, r3⟩ := wM_ok (m := pd 1 i) s2 q2 pp2.1 (nDw 0 (by decide)).1 pp2.2.1 g4 b1 (Ft_mono f1 (by omega) (by omega))
    have s3 := WSt_md r3.1 s2
    have nM := n_evM kd (pd 1 i)
    have f3 : Ft (runA (runA A (evE0 pd tl i)) (evM kd (pd 1 i))) (e + (evE0 pd tl i).length + (evM kd (pd 1 i)).length) 262 344 := Ft_run _ (Ft_mono f1 (by omega) (by omega))
    have g4' : fZ h3 (S + 7) 4 = pd 1 i := (md_fZ r3.1 n7).trans g4
    have g5' : fZ h3 (S + 7) 5 = pd 2 i := (md_fZ r3.1 n7).trans g5
    have g6' : fZ h3 (S + 7) 6 = pd 3 i := (md_fZ r3.1 n7).trans g6
    have st2 := b_X8_writeSlice_119 (a0 := S) (a1 := D) (x2 := x2) (x3 := l1) (x4 := l2) (x5 := i) (h := h3) s3.2.1
    rw [g4', g5', bZ_congr (q := pd 1 i = 4 ∨ pd 1 i = 6) (by omega)] at st2
    obtain ⟨h4, e4, r4⟩ := wV_ok (v := pd 2 i) (l := l1) (p := pd 1 i = 4 ∨ pd 1 i = 6) s3 r3.2 b2 (by rw [← g5']; exact wr_fZ _ _ _) o1 (Ft_mono f3 (by omega) (by omega))
    have n4 : nC (if pd 1 i = 4 ∨ pd 1 i = 6 then evV (pd 2 i) l1 else []) ≤ 24 ∧ nP (if pd 1 i = 4 ∨ pd 1 i = 6 then evV (pd 2 i) l1 else []) ≤ 12 := by
      split
      · rename_i g; exact n_evV (b2 g) o1
      · simp only [nC, nP]; omega
    have f4 : Ft (runA (runA (runA A (evE0 pd tl i)) (evM kd (pd 1 i))) (if pd 1 i = 4 ∨ pd 1 i = 6 then evV (pd 2 i) l1 else [])) (e + (evE0 pd tl i).length + (evM kd (pd 1 i)).length + (if pd 1 i = 4 ∨ pd 1 i = 6 then evV (pd 2 i) l1 else []).length) 238 332 := Ft_run _ (Ft_mono f3 (by omega) (by omega))
    have s4 := WSt_md r4.1 s3
    have st3 := b_X8_writeSlice_138 (a0 := S) (a1 := D) (x2 := x2) (v3 := .int (mI l1)) (x4 := l2) (x5 := i) (xs0 := if pd 1 i = 4 ∨ pd 1 i = 6 then pd 2 i else l1) (h := h4) s4.2.1
    have g4'' : fZ h4 (S + 7) 4 = pd 1 i := (md_fZ r4.1 n7).trans g4'
    have g6'' : fZ h4 (S + 7) 6 = pd 3 i := (md_fZ r4.1 n7).trans g6'
    rw [g4'', g6'', bZ_congr (q := pd 1 i = 5 ∨ pd 1 i = 6) (by omega)] at st3
    obtain ⟨h5, e5, r5⟩ := wV_ok (v := pd 3 i) (l := l2) (p := pd 1 i = 5 ∨ pd 1 i = 6) s4 r4.2 b3 (by rw [← g6'']; exact wr_fZ _ _ _) o2 (Ft_mono f4 (by omega) (by omega))
    have n5 : nC (if pd 1 i = 5 ∨ pd 1 i = 6 then evV (pd 3 i) l2 else []) ≤ 24 ∧ nP (if pd 1 i = 5 ∨ pd 1 i = 6 then evV (pd 3 i) l2 else []) ≤ 12 := by
      split
      · rename_i g; exact n_evV (b3 g) o2
      · simp only [nC, nP]; omega
    have f5 : Ft (runA (runA (runA (runA A (evE0 pd tl i)) (evM kd (pd 1 i))) (if pd 1 i = 4 ∨ pd 1 i = 6 then evV (pd 2 i) l1 else [])) (if pd 1 i = 5 ∨ pd 1 i = 6 then evV (pd 3 i) l2 else [])) (e + (evE0 pd tl i).length + (evM kd (pd 1 i)).length + (if pd 1 i = 4 ∨ pd 1 i = 6 then evV (pd 2 i) l1 else []).length + (if pd 1 i = 5 ∨ pd 1 i = 6 then evV (pd 3 i) l2 else []).length) 214 320 := Ft_run _ (Ft_mono f4 (by omega) (by omega))
    have s5 := WSt_md r5.1 s4
    have md : Md (SW w) h2 h5 := Md_tr r3.1 (Md_tr r4.1 r5.1)
    have pp5 := Pw_SW hw nD md pp2
    have st4 := b_X8_writeSlice_159 (a0 := S) (a1 := D) (x2 := x2) (x3 := if pd 1 i = 4 ∨ pd 1 i = 6 then pd 2 i else l1) (v4 := .int (mI l2)) (x5 := i) (xs0 := if pd 1 i = 5 ∨ pd 1 i = 6 then pd 3 i else l2) (h := h5) wi pp5.1 hi s5.2.1
    obtain ⟨h6, e6, r6⟩ := sq h5 _ _ s5 r5.2 pp5 (Ft_mono f5 (by omega) (by omega))
    rw [e6, cl_n, b_X8_writeSlice_182] at st4
    rw [e5, cl_v, st4] at st3
    rw [e4, cl_v, st3] at st2
    rw [e2, cl_n, b_X8_writeSlice_114 s2.2.1, e3, cl_n, st2] at st1
    have eE : evE pd kd tl l1 l2 i = evE0 pd tl i ++ (evM kd (pd 1 i) ++ ((if pd 1 i = 4 ∨ pd 1 i = 6 then evV (pd 2 i) l1 else []) ++ ((if pd 1 i = 5 ∨ pd 1 i = 6 then evV (pd 3 i) l2 else []) ++ evQ (lvs pd i)))) := by
      unfold evE evE1 evP
      rw [if_pos cs, List.append_assoc, List.append_assoc]
    have en1 : nl1 pd l1 i = if pd 1 i = 4 ∨ pd 1 i = 6 then pd 2 i else l1 := by
      unfold nl1
      by_cases g : pd 1 i = 4 ∨ pd 1 i = 6
      · rw [if_pos g, if_pos ⟨cs, g⟩]
      · rw [if_neg g, if_neg (fun z => g z.2)]
    have en2 : nl2 pd l2 i = if pd 1 i = 5 ∨ pd 1 i = 6 then pd 3 i else l2 := by
      unfold nl2
      by_cases g : pd 1 i = 5 ∨ pd 1 i = 6
      · rw [if_pos g, if_pos ⟨cs, g⟩]
      · rw [if_neg g, if_neg (fun z => g z.2)]
    rw [en1, en2, eE, runA_app, List.length_append, ← Nat.add_assoc]
    have r7 := Wr_tr r3 (Wr_tr r4 (Wr_tr r5 r6))
    exact ⟨h6, e1.trans st1, Md_tr (Md_mono r1.1 fun c k q => Or.inl q) (Md_tr m2' (Md_mono r7.1 fun c k q => Or.inl q)), r7.2⟩
  · rw [if_neg cs] at st1
    obtain ⟨h6, e6, r6⟩ := sq h1 _ _ s1 r1.2 p' (Ft_mono f1 (by omega) (by omega))
    rw [e6, cl_n, b_X8_writeSlice_182] at st1
    have eE : evE pd kd tl l1 l2 i = evE0 pd tl i ++ evQ (lvs pd i) := by
      unfold evE evE1
      rw [if_neg cs, List.nil_append]
    have en1 : nl1 pd l1 i = l1 := by unfold nl1; rw [if_neg (fun z => cs z.1)]
    have en2 : nl2 pd l2 i = l2 := by unfold nl2; rw [if_neg (fun z => cs z.1)]
    rw [en1, en2, eE]
    have r7 := Wr_tr r1 r6
    exact ⟨h6, e1.trans st1, Md_mono r7.1 fun c k q => Or.inl q, r7.2⟩
