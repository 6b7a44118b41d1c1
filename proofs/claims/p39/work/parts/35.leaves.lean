/-! ===== small methods as equations ===== -/
theorem i_X0_filledWith_0 : am_i m_X0_filledWith 0 = some (0, .aload_n 0, 1, [], 0) := rfl
theorem i_X0_filledWith_1 : am_i m_X0_filledWith 1 = some (1, .getfield 18, 3, [0, 2, 0], 0) := rfl
theorem i_X0_filledWith_4 : am_i m_X0_filledWith 4 = some (4, .aload_n 0, 1, [], 0) := rfl
theorem i_X0_filledWith_5 : am_i m_X0_filledWith 5 = some (5, .getfield 15, 3, [0, 1, 0], 0) := rfl
theorem i_X0_filledWith_8 : am_i m_X0_filledWith 8 = some (8, .if_icmp .le 15, 3, [], 0) := rfl
theorem i_X0_filledWith_11 : am_i m_X0_filledWith 11 = some (11, .aload_n 0, 1, [], 0) := rfl
theorem i_X0_filledWith_12 : am_i m_X0_filledWith 12 = some (12, .getfield 18, 3, [0, 2, 0], 0) := rfl
theorem i_X0_filledWith_15 : am_i m_X0_filledWith 15 = some (15, .aload_n 0, 1, [], 0) := rfl
theorem i_X0_filledWith_16 : am_i m_X0_filledWith 16 = some (16, .getfield 15, 3, [0, 1, 0], 0) := rfl
theorem i_X0_filledWith_19 : am_i m_X0_filledWith 19 = some (19, .isub, 1, [], 0) := rfl
theorem i_X0_filledWith_20 : am_i m_X0_filledWith 20 = some (20, .goto 4, 3, [], 0) := rfl
theorem i_X0_filledWith_23 : am_i m_X0_filledWith 23 = some (23, .iconst 0, 1, [], 0) := rfl
theorem i_X0_filledWith_24 : am_i m_X0_filledWith 24 = some (24, .iload_n 1, 1, [], 0) := rfl
theorem i_X0_filledWith_25 : am_i m_X0_filledWith 25 = some (25, .iadd, 1, [], 0) := rfl
theorem i_X0_filledWith_26 : am_i m_X0_filledWith 26 = some (26, .ireturn, 1, [], 0) := rfl
theorem b_X0_filledWith_0 {a0 : Nat} {x1 : Int} {h : am_H} (k1 : K0 h a0) : rn m_X0_filledWith 0 [.ref a0, .int (mI x1)] [] h = some (.inl (some (.int (mI ((if (fZ h a0 2) ≤ (fZ h a0 1) then 0 else (fZ h a0 2) - (fZ h a0 1)) + x1)))), h) := by
  refine (tq_aload_n i_X0_filledWith_0 rfl (isA_ref _) rfl).trans ?_
  refine (tq_getfield i_X0_filledWith_1 (K0_s k1) (g_0_2 (K0_s k1)) (isV_I _) rfl).trans ?_
  refine (tq_aload_n i_X0_filledWith_4 rfl (isA_ref _) rfl).trans ?_
  refine (tq_getfield i_X0_filledWith_5 (K0_s k1) (g_0_1 (K0_s k1)) (isV_I _) rfl).trans ?_
  refine (tq_icmp_le (pt := 23) i_X0_filledWith_8 (wr_fZ _ _ _) (wr_fZ _ _ _) (by decide) rfl).trans ?_
  refine Eq.trans (b := if (fZ h a0 2) ≤ (fZ h a0 1) then rn m_X0_filledWith 24 [.ref a0, .int (mI x1)] [.int (mI 0)] h else rn m_X0_filledWith 24 [.ref a0, .int (mI x1)] [.int (mI ((fZ h a0 2) - (fZ h a0 1)))] h) (ite_congr rfl (fun c1 => ?_) (fun c1 => ?_)) ?_
  · refine (tq_iconst i_X0_filledWith_23 rfl).trans ?_
    rfl
  · refine (tq_aload_n i_X0_filledWith_11 rfl (isA_ref _) rfl).trans ?_
    refine (tq_getfield i_X0_filledWith_12 (K0_s k1) (g_0_2 (K0_s k1)) (isV_I _) rfl).trans ?_
    refine (tq_aload_n i_X0_filledWith_15 rfl (isA_ref _) rfl).trans ?_
    refine (tq_getfield i_X0_filledWith_16 (K0_s k1) (g_0_1 (K0_s k1)) (isV_I _) rfl).trans ?_
    refine (tq_isub i_X0_filledWith_19 rfl).trans ?_
    refine (tq_goto (pc' := 24) i_X0_filledWith_20 (by decide)).trans ?_
    rfl
  refine Eq.trans ite_I ?_
  refine (tq_iload_n i_X0_filledWith_24 rfl rfl).trans ?_
  refine (tq_iadd i_X0_filledWith_25 rfl).trans ?_
  exact tq_ireturn i_X0_filledWith_26 r_X0_filledWith rfl
theorem i_X0_isThere_0 : am_i m_X0_isThere 0 = some (0, .aload_n 0, 1, [], 0) := rfl
theorem i_X0_isThere_1 : am_i m_X0_isThere 1 = some (1, .getfield 9, 3, [0, 0, 0], 0) := rfl
theorem i_X0_isThere_4 : am_i m_X0_isThere 4 = some (4, .ifCond .le 7, 3, [], 0) := rfl
theorem i_X0_isThere_7 : am_i m_X0_isThere 7 = some (7, .iconst 1, 1, [], 1) := rfl
theorem i_X0_isThere_8 : am_i m_X0_isThere 8 = some (8, .goto 4, 3, [], 0) := rfl
theorem i_X0_isThere_11 : am_i m_X0_isThere 11 = some (11, .iconst 0, 1, [], 0) := rfl
theorem i_X0_isThere_12 : am_i m_X0_isThere 12 = some (12, .ireturn, 1, [], 0) := rfl
theorem b_X0_isThere_0 {a0 : Nat} {h : am_H} (k1 : K0 h a0) : rn m_X0_isThere 0 [.ref a0] [] h = some (.inl (some (.int (mI (bZ (¬ ((fZ h a0 0) ≤ 0)))))), h) := by
  refine (tq_aload_n i_X0_isThere_0 rfl (isA_ref _) rfl).trans ?_
  refine (tq_getfield i_X0_isThere_1 (K0_s k1) (g_0_0 (K0_s k1)) (isV_I _) rfl).trans ?_
  refine (tq_if_le (pt := 11) i_X0_isThere_4 (wr_fZ _ _ _) (by decide) rfl).trans ?_
  refine Eq.trans (b := if (fZ h a0 0) ≤ 0 then rn m_X0_isThere 12 [.ref a0] [.int (mI 0)] h else rn m_X0_isThere 12 [.ref a0] [.int (mI 1)] h) (ite_congr rfl (fun c1 => ?_) (fun c1 => ?_)) ?_
  · refine (tq_iconst i_X0_isThere_11 rfl).trans ?_
    rfl
  · refine (tq_iconst i_X0_isThere_7 rfl).trans ?_
    refine (tq_goto (pc' := 12) i_X0_isThere_8 (by decide)).trans ?_
    rfl
  refine Eq.trans ite_b01 ?_
  exact tq_ireturn i_X0_isThere_12 r_X0_isThere (okB (wr_bZ _) (bZ_01 _))
theorem i_X0_put_0 : am_i m_X0_put 0 = some (0, .aload_n 0, 1, [], 0) := rfl
theorem i_X0_put_1 : am_i m_X0_put 1 = some (1, .iload_n 1, 1, [], 0) := rfl
theorem i_X0_put_2 : am_i m_X0_put 2 = some (2, .putfield 9, 3, [0, 0, 0], 0) := rfl
theorem i_X0_put_5 : am_i m_X0_put 5 = some (5, .aload_n 0, 1, [], 0) := rfl
theorem i_X0_put_6 : am_i m_X0_put 6 = some (6, .iload_n 2, 1, [], 0) := rfl
theorem i_X0_put_7 : am_i m_X0_put 7 = some (7, .putfield 15, 3, [0, 1, 0], 0) := rfl
theorem i_X0_put_10 : am_i m_X0_put 10 = some (10, .aload_n 0, 1, [], 0) := rfl
theorem i_X0_put_11 : am_i m_X0_put 11 = some (11, .iconst 0, 1, [], 0) := rfl
theorem i_X0_put_12 : am_i m_X0_put 12 = some (12, .putfield 18, 3, [0, 2, 0], 0) := rfl
theorem i_X0_put_15 : am_i m_X0_put 15 = some (15, .return_, 1, [], 0) := rfl
theorem b_X0_put_0 {a0 : Nat} {x1 x2 : Int} {h : am_H} (k1 : K0 h a0) : rn m_X0_put 0 [.ref a0, .int (mI x1), .int (mI x2)] [] h = some (.inl none, uF 0 (uF 0 (uF 0 h a0 0 (.int (mI x1))) a0 1 (.int (mI x2))) a0 2 (.int (mI 0))) := by
  refine (tq_aload_n i_X0_put_0 rfl (isA_ref _) rfl).trans ?_
  refine (tq_iload_n i_X0_put_1 rfl rfl).trans ?_
  refine (tq_putfield i_X0_put_2 (K0_s k1) (okf_0_0 _) rfl).trans ?_
  refine (tq_aload_n i_X0_put_5 rfl (isA_ref _) rfl).trans ?_
  refine (tq_iload_n i_X0_put_6 rfl rfl).trans ?_
  refine (tq_putfield i_X0_put_7 ((sh_uF _ _ _ _ _ _).trans (K0_s k1)) (okf_0_1 _) rfl).trans ?_
  refine (tq_aload_n i_X0_put_10 rfl (isA_ref _) rfl).trans ?_
  refine (tq_iconst i_X0_put_11 rfl).trans ?_
  refine (tq_putfield i_X0_put_12 ((sh_uF _ _ _ _ _ _).trans ((sh_uF _ _ _ _ _ _).trans (K0_s k1))) (okf_0_2 _) rfl).trans ?_
  exact tq_return i_X0_put_15 r_X0_put
theorem i_X11_columnOf_0 : am_i m_X11_columnOf 0 = some (0, .bipush 8, 2, [], 8) := rfl
theorem i_X11_columnOf_2 : am_i m_X11_columnOf 2 = some (2, .iload_n 0, 1, [], 0) := rfl
theorem i_X11_columnOf_3 : am_i m_X11_columnOf 3 = some (3, .iconst 4, 1, [], 4) := rfl
theorem i_X11_columnOf_4 : am_i m_X11_columnOf 4 = some (4, .idiv, 1, [], 0) := rfl
theorem i_X11_columnOf_5 : am_i m_X11_columnOf 5 = some (5, .iconst 2, 1, [], 2) := rfl
theorem i_X11_columnOf_6 : am_i m_X11_columnOf 6 = some (6, .irem, 1, [], 0) := rfl
theorem i_X11_columnOf_7 : am_i m_X11_columnOf 7 = some (7, .imul, 1, [], 0) := rfl
theorem i_X11_columnOf_8 : am_i m_X11_columnOf 8 = some (8, .iconst 4, 1, [], 4) := rfl
theorem i_X11_columnOf_9 : am_i m_X11_columnOf 9 = some (9, .iload_n 0, 1, [], 0) := rfl
theorem i_X11_columnOf_10 : am_i m_X11_columnOf 10 = some (10, .iconst 2, 1, [], 2) := rfl
theorem i_X11_columnOf_11 : am_i m_X11_columnOf 11 = some (11, .irem, 1, [], 0) := rfl
theorem i_X11_columnOf_12 : am_i m_X11_columnOf 12 = some (12, .imul, 1, [], 0) := rfl
theorem i_X11_columnOf_13 : am_i m_X11_columnOf 13 = some (13, .iadd, 1, [], 0) := rfl
theorem i_X11_columnOf_14 : am_i m_X11_columnOf 14 = some (14, .ireturn, 1, [], 0) := rfl
theorem b_X11_columnOf_0 {x0 x0' : Int} {h : am_H} (w0 : wr x0 = x0') : rn m_X11_columnOf 0 [.int (mI x0)] [] h = some (.inl (some (.int (mI ((8 * (Int.tmod (wr (Int.tdiv x0' 4)) 2)) + (4 * (Int.tmod x0' 2)))))), h) := by
  refine (tq_bipush i_X11_columnOf_0 rfl).trans ?_
  refine (tq_iload_n i_X11_columnOf_2 rfl rfl).trans ?_
  refine (tq_iconst i_X11_columnOf_3 rfl).trans ?_
  refine (tq_idiv i_X11_columnOf_4 w0 w_4 (by decide) rfl).trans ?_
  refine (tq_iconst i_X11_columnOf_5 rfl).trans ?_
  refine (tq_irem i_X11_columnOf_6 rfl w_2 (by decide) rfl).trans ?_
  refine (tq_imul i_X11_columnOf_7 rfl).trans ?_
  refine (tq_iconst i_X11_columnOf_8 rfl).trans ?_
  refine (tq_iload_n i_X11_columnOf_9 rfl rfl).trans ?_
  refine (tq_iconst i_X11_columnOf_10 rfl).trans ?_
  refine (tq_irem i_X11_columnOf_11 w0 w_2 (by decide) rfl).trans ?_
  refine (tq_imul i_X11_columnOf_12 rfl).trans ?_
  refine (tq_iadd i_X11_columnOf_13 rfl).trans ?_
  exact tq_ireturn i_X11_columnOf_14 r_X11_columnOf rfl
theorem i_X11_inPicture_0 : am_i m_X11_inPicture 0 = some (0, .bipush 16, 2, [], 16) := rfl
theorem i_X11_inPicture_2 : am_i m_X11_inPicture 2 = some (2, .iload_n 0, 1, [], 0) := rfl
theorem i_X11_inPicture_3 : am_i m_X11_inPicture 3 = some (3, .iconst 4, 1, [], 4) := rfl
theorem i_X11_inPicture_4 : am_i m_X11_inPicture 4 = some (4, .idiv, 1, [], 0) := rfl
theorem i_X11_inPicture_5 : am_i m_X11_inPicture 5 = some (5, .imul, 1, [], 0) := rfl
theorem i_X11_inPicture_6 : am_i m_X11_inPicture 6 = some (6, .iload_n 0, 1, [], 0) := rfl
theorem i_X11_inPicture_7 : am_i m_X11_inPicture 7 = some (7, .iconst 4, 1, [], 4) := rfl
theorem i_X11_inPicture_8 : am_i m_X11_inPicture 8 = some (8, .irem, 1, [], 0) := rfl
theorem i_X11_inPicture_9 : am_i m_X11_inPicture 9 = some (9, .iadd, 1, [], 0) := rfl
theorem i_X11_inPicture_10 : am_i m_X11_inPicture 10 = some (10, .ireturn, 1, [], 0) := rfl
theorem b_X11_inPicture_0 {x0 x0' : Int} {h : am_H} (w0 : wr x0 = x0') : rn m_X11_inPicture 0 [.int (mI x0)] [] h = some (.inl (some (.int (mI ((16 * (Int.tdiv x0' 4)) + (Int.tmod x0' 4))))), h) := by
  refine (tq_bipush i_X11_inPicture_0 rfl).trans ?_
  refine (tq_iload_n i_X11_inPicture_2 rfl rfl).trans ?_
  refine (tq_iconst i_X11_inPicture_3 rfl).trans ?_
  refine (tq_idiv i_X11_inPicture_4 w0 w_4 (by decide) rfl).trans ?_
  refine (tq_imul i_X11_inPicture_5 rfl).trans ?_
  refine (tq_iload_n i_X11_inPicture_6 rfl rfl).trans ?_
  refine (tq_iconst i_X11_inPicture_7 rfl).trans ?_
  refine (tq_irem i_X11_inPicture_8 w0 w_4 (by decide) rfl).trans ?_
  refine (tq_iadd i_X11_inPicture_9 rfl).trans ?_
  exact tq_ireturn i_X11_inPicture_10 r_X11_inPicture rfl
theorem i_X11_isKeptPlace_0 : am_i m_X11_isKeptPlace 0 = some (0, .iload_n 1, 1, [], 0) := rfl
theorem i_X11_isKeptPlace_1 : am_i m_X11_isKeptPlace 1 = some (1, .ifCond .lt 15, 3, [], 0) := rfl
theorem i_X11_isKeptPlace_4 : am_i m_X11_isKeptPlace 4 = some (4, .iload_n 1, 1, [], 0) := rfl
theorem i_X11_isKeptPlace_5 : am_i m_X11_isKeptPlace 5 = some (5, .aload_n 0, 1, [], 0) := rfl
theorem i_X11_isKeptPlace_6 : am_i m_X11_isKeptPlace 6 = some (6, .getfield 54, 3, [9, 11, 0], 0) := rfl
theorem i_X11_isKeptPlace_9 : am_i m_X11_isKeptPlace 9 = some (9, .if_icmp .ge 7, 3, [], 0) := rfl
theorem i_X11_isKeptPlace_12 : am_i m_X11_isKeptPlace 12 = some (12, .iconst 1, 1, [], 1) := rfl
theorem i_X11_isKeptPlace_13 : am_i m_X11_isKeptPlace 13 = some (13, .goto 4, 3, [], 0) := rfl
theorem i_X11_isKeptPlace_16 : am_i m_X11_isKeptPlace 16 = some (16, .iconst 0, 1, [], 0) := rfl
theorem i_X11_isKeptPlace_17 : am_i m_X11_isKeptPlace 17 = some (17, .ireturn, 1, [], 0) := rfl
theorem b_X11_isKeptPlace_0 {a0 : Nat} {x1 x1' : Int} {h : am_H} (w1 : wr x1 = x1') (k1 : K9 h a0) : rn m_X11_isKeptPlace 0 [.ref a0, .int (mI x1)] [] h = some (.inl (some (.int (mI (bZ (¬ (x1' < 0) ∧ (¬ ((fZ h a0 11) ≤ x1'))))))), h) := by
  refine (tq_iload_n i_X11_isKeptPlace_0 rfl rfl).trans ?_
  refine (tq_if_lt (pt := 16) i_X11_isKeptPlace_1 w1 (by decide) rfl).trans ?_
  refine Eq.trans (b := if x1' < 0 then rn m_X11_isKeptPlace 17 [.ref a0, .int (mI x1)] [.int (mI 0)] h else rn m_X11_isKeptPlace 17 [.ref a0, .int (mI x1)] [.int (mI (bZ (¬ ((fZ h a0 11) ≤ x1'))))] h) (ite_congr rfl (fun c1 => ?_) (fun c1 => ?_)) ?_
  · refine (tq_iconst i_X11_isKeptPlace_16 rfl).trans ?_
    rfl
  · refine (tq_iload_n i_X11_isKeptPlace_4 rfl rfl).trans ?_
    refine (tq_aload_n i_X11_isKeptPlace_5 rfl (isA_ref _) rfl).trans ?_
    refine (tq_getfield i_X11_isKeptPlace_6 (K9_s k1) (g_9_11 (K9_s k1)) (isV_I _) rfl).trans ?_
    refine (tq_icmp_ge (pt := 16) i_X11_isKeptPlace_9 w1 (wr_fZ _ _ _) (by decide) rfl).trans ?_
    refine Eq.trans (b := if (fZ h a0 11) ≤ x1' then rn m_X11_isKeptPlace 17 [.ref a0, .int (mI x1)] [.int (mI 0)] h else rn m_X11_isKeptPlace 17 [.ref a0, .int (mI x1)] [.int (mI 1)] h) (ite_congr rfl (fun c2 => ?_) (fun c2 => ?_)) ?_
    · refine (tq_iconst i_X11_isKeptPlace_16 rfl).trans ?_
      rfl
    · refine (tq_iconst i_X11_isKeptPlace_12 rfl).trans ?_
      refine (tq_goto (pc' := 17) i_X11_isKeptPlace_13 (by decide)).trans ?_
      rfl
    exact ite_b01
  refine Eq.trans ite_b0p ?_
  exact tq_ireturn i_X11_isKeptPlace_17 r_X11_isKeptPlace (okB (wr_bZ _) (bZ_01 _))
theorem i_X11_isOnCanvas_0 : am_i m_X11_isOnCanvas 0 = some (0, .iload_n 0, 1, [], 0) := rfl
theorem i_X11_isOnCanvas_1 : am_i m_X11_isOnCanvas 1 = some (1, .ifCond .lt 23, 3, [], 0) := rfl
theorem i_X11_isOnCanvas_4 : am_i m_X11_isOnCanvas 4 = some (4, .iload_n 0, 1, [], 0) := rfl
theorem i_X11_isOnCanvas_5 : am_i m_X11_isOnCanvas 5 = some (5, .bipush 16, 2, [], 16) := rfl
theorem i_X11_isOnCanvas_7 : am_i m_X11_isOnCanvas 7 = some (7, .if_icmp .ge 17, 3, [], 0) := rfl
theorem i_X11_isOnCanvas_10 : am_i m_X11_isOnCanvas 10 = some (10, .iload_n 1, 1, [], 0) := rfl
theorem i_X11_isOnCanvas_11 : am_i m_X11_isOnCanvas 11 = some (11, .ifCond .lt 13, 3, [], 0) := rfl
theorem i_X11_isOnCanvas_14 : am_i m_X11_isOnCanvas 14 = some (14, .iload_n 1, 1, [], 0) := rfl
theorem i_X11_isOnCanvas_15 : am_i m_X11_isOnCanvas 15 = some (15, .bipush 16, 2, [], 16) := rfl
theorem i_X11_isOnCanvas_17 : am_i m_X11_isOnCanvas 17 = some (17, .if_icmp .ge 7, 3, [], 0) := rfl
theorem i_X11_isOnCanvas_20 : am_i m_X11_isOnCanvas 20 = some (20, .iconst 1, 1, [], 1) := rfl
theorem i_X11_isOnCanvas_21 : am_i m_X11_isOnCanvas 21 = some (21, .goto 4, 3, [], 0) := rfl
theorem i_X11_isOnCanvas_24 : am_i m_X11_isOnCanvas 24 = some (24, .iconst 0, 1, [], 0) := rfl
theorem i_X11_isOnCanvas_25 : am_i m_X11_isOnCanvas 25 = some (25, .ireturn, 1, [], 0) := rfl
theorem b_X11_isOnCanvas_0 {x0 x1 x0' x1' : Int} {h : am_H} (w0 : wr x0 = x0') (w1 : wr x1 = x1') : rn m_X11_isOnCanvas 0 [.int (mI x0), .int (mI x1)] [] h = some (.inl (some (.int (mI (bZ (¬ (x0' < 0) ∧ (¬ (16 ≤ x0') ∧ (¬ (x1' < 0) ∧ (¬ (16 ≤ x1'))))))))), h) := by
  refine (tq_iload_n i_X11_isOnCanvas_0 rfl rfl).trans ?_
  refine (tq_if_lt (pt := 24) i_X11_isOnCanvas_1 w0 (by decide) rfl).trans ?_
  refine Eq.trans (b := if x0' < 0 then rn m_X11_isOnCanvas 25 [.int (mI x0), .int (mI x1)] [.int (mI 0)] h else rn m_X11_isOnCanvas 25 [.int (mI x0), .int (mI x1)] [.int (mI (bZ (¬ (16 ≤ x0') ∧ (¬ (x1' < 0) ∧ (¬ (16 ≤ x1'))))))] h) (ite_congr rfl (fun c1 => ?_) (fun c1 => ?_)) ?_
  · refine (tq_iconst i_X11_isOnCanvas_24 rfl).trans ?_
    rfl
  · refine (tq_iload_n i_X11_isOnCanvas_4 rfl rfl).trans ?_
    refine (tq_bipush i_X11_isOnCanvas_5 rfl).trans ?_
    refine (tq_icmp_ge (pt := 24) i_X11_isOnCanvas_7 w0 w_16 (by decide) rfl).trans ?_
    refine Eq.trans (b := if 16 ≤ x0' then rn m_X11_isOnCanvas 25 [.int (mI x0), .int (mI x1)] [.int (mI 0)] h else rn m_X11_isOnCanvas 25 [.int (mI x0), .int (mI x1)] [.int (mI (bZ (¬ (x1' < 0) ∧ (¬ (16 ≤ x1')))))] h) (ite_congr rfl (fun c2 => ?_) (fun c2 => ?_)) ?_
    · refine (tq_iconst i_X11_isOnCanvas_24 rfl).trans ?_
      rfl
    · refine (tq_iload_n i_X11_isOnCanvas_10 rfl rfl).trans ?_
      refine (tq_if_lt (pt := 24) i_X11_isOnCanvas_11 w1 (by decide) rfl).trans ?_
      refine Eq.trans (b := if x1' < 0 then rn m_X11_isOnCanvas 25 [.int (mI x0), .int (mI x1)] [.int (mI 0)] h else rn m_X11_isOnCanvas 25 [.int (mI x0), .int (mI x1)] [.int (mI (bZ (¬ (16 ≤ x1'))))] h) (ite_congr rfl (fun c3 => ?_) (fun c3 => ?_)) ?_
      · refine (tq_iconst i_X11_isOnCanvas_24 rfl).trans ?_
        rfl
      · refine (tq_iload_n i_X11_isOnCanvas_14 rfl rfl).trans ?_
        refine (tq_bipush i_X11_isOnCanvas_15 rfl).trans ?_
        refine (tq_icmp_ge (pt := 24) i_X11_isOnCanvas_17 w1 w_16 (by decide) rfl).trans ?_
        refine Eq.trans (b := if 16 ≤ x1' then rn m_X11_isOnCanvas 25 [.int (mI x0), .int (mI x1)] [.int (mI 0)] h else rn m_X11_isOnCanvas 25 [.int (mI x0), .int (mI x1)] [.int (mI 1)] h) (ite_congr rfl (fun c4 => ?_) (fun c4 => ?_)) ?_
        · refine (tq_iconst i_X11_isOnCanvas_24 rfl).trans ?_
          rfl
        · refine (tq_iconst i_X11_isOnCanvas_20 rfl).trans ?_
          refine (tq_goto (pc' := 25) i_X11_isOnCanvas_21 (by decide)).trans ?_
          rfl
        exact ite_b01
      exact ite_b0p
    exact ite_b0p
  refine Eq.trans ite_b0p ?_
  exact tq_ireturn i_X11_isOnCanvas_25 r_X11_isOnCanvas (okB (wr_bZ _) (bZ_01 _))
theorem i_X11_isValue_0 : am_i m_X11_isValue 0 = some (0, .iload_n 0, 1, [], 0) := rfl
theorem i_X11_isValue_1 : am_i m_X11_isValue 1 = some (1, .ifCond .lt 14, 3, [], 0) := rfl
theorem i_X11_isValue_4 : am_i m_X11_isValue 4 = some (4, .iload_n 0, 1, [], 0) := rfl
theorem i_X11_isValue_5 : am_i m_X11_isValue 5 = some (5, .sipush 255, 3, [], 255) := rfl
theorem i_X11_isValue_8 : am_i m_X11_isValue 8 = some (8, .if_icmp .gt 7, 3, [], 0) := rfl
theorem i_X11_isValue_11 : am_i m_X11_isValue 11 = some (11, .iconst 1, 1, [], 1) := rfl
theorem i_X11_isValue_12 : am_i m_X11_isValue 12 = some (12, .goto 4, 3, [], 0) := rfl
theorem i_X11_isValue_15 : am_i m_X11_isValue 15 = some (15, .iconst 0, 1, [], 0) := rfl
theorem i_X11_isValue_16 : am_i m_X11_isValue 16 = some (16, .ireturn, 1, [], 0) := rfl
theorem b_X11_isValue_0 {x0 x0' : Int} {h : am_H} (w0 : wr x0 = x0') : rn m_X11_isValue 0 [.int (mI x0)] [] h = some (.inl (some (.int (mI (bZ (¬ (x0' < 0) ∧ (¬ (255 < x0'))))))), h) := by
  refine (tq_iload_n i_X11_isValue_0 rfl rfl).trans ?_
  refine (tq_if_lt (pt := 15) i_X11_isValue_1 w0 (by decide) rfl).trans ?_
  refine Eq.trans (b := if x0' < 0 then rn m_X11_isValue 16 [.int (mI x0)] [.int (mI 0)] h else rn m_X11_isValue 16 [.int (mI x0)] [.int (mI (bZ (¬ (255 < x0'))))] h) (ite_congr rfl (fun c1 => ?_) (fun c1 => ?_)) ?_
  · refine (tq_iconst i_X11_isValue_15 rfl).trans ?_
    rfl
  · refine (tq_iload_n i_X11_isValue_4 rfl rfl).trans ?_
    refine (tq_sipush i_X11_isValue_5 rfl).trans ?_
    refine (tq_icmp_gt (pt := 15) i_X11_isValue_8 w0 w_255 (by decide) rfl).trans ?_
    refine Eq.trans (b := if 255 < x0' then rn m_X11_isValue 16 [.int (mI x0)] [.int (mI 0)] h else rn m_X11_isValue 16 [.int (mI x0)] [.int (mI 1)] h) (ite_congr rfl (fun c2 => ?_) (fun c2 => ?_)) ?_
    · refine (tq_iconst i_X11_isValue_15 rfl).trans ?_
      rfl
    · refine (tq_iconst i_X11_isValue_11 rfl).trans ?_
      refine (tq_goto (pc' := 16) i_X11_isValue_12 (by decide)).trans ?_
      rfl
    exact ite_b01
  refine Eq.trans ite_b0p ?_
  exact tq_ireturn i_X11_isValue_16 r_X11_isValue (okB (wr_bZ _) (bZ_01 _))
theorem i_X11_kept_0 : am_i m_X11_kept 0 = some (0, .aload_n 0, 1, [], 0) := rfl
theorem i_X11_kept_1 : am_i m_X11_kept 1 = some (1, .getfield 54, 3, [9, 11, 0], 0) := rfl
theorem i_X11_kept_4 : am_i m_X11_kept 4 = some (4, .ireturn, 1, [], 0) := rfl
theorem b_X11_kept_0 {a0 : Nat} {h : am_H} (k1 : K9 h a0) : rn m_X11_kept 0 [.ref a0] [] h = some (.inl (some (.int (mI (fZ h a0 11)))), h) := by
  refine (tq_aload_n i_X11_kept_0 rfl (isA_ref _) rfl).trans ?_
  refine (tq_getfield i_X11_kept_1 (K9_s k1) (g_9_11 (K9_s k1)) (isV_I _) rfl).trans ?_
  exact tq_ireturn i_X11_kept_4 r_X11_kept rfl
theorem i_X11_pictures_0 : am_i m_X11_pictures 0 = some (0, .aload_n 0, 1, [], 0) := rfl
theorem i_X11_pictures_1 : am_i m_X11_pictures 1 = some (1, .getfield 43, 3, [9, 8, 0], 0) := rfl
theorem i_X11_pictures_4 : am_i m_X11_pictures 4 = some (4, .ireturn, 1, [], 0) := rfl
theorem b_X11_pictures_0 {a0 : Nat} {h : am_H} (k1 : K9 h a0) : rn m_X11_pictures 0 [.ref a0] [] h = some (.inl (some (.int (mI (fZ h a0 8)))), h) := by
  refine (tq_aload_n i_X11_pictures_0 rfl (isA_ref _) rfl).trans ?_
  refine (tq_getfield i_X11_pictures_1 (K9_s k1) (g_9_8 (K9_s k1)) (isV_I _) rfl).trans ?_
  exact tq_ireturn i_X11_pictures_4 r_X11_pictures rfl
theorem i_X11_placeOf_0 : am_i m_X11_placeOf 0 = some (0, .bipush 16, 2, [], 16) := rfl
theorem i_X11_placeOf_2 : am_i m_X11_placeOf 2 = some (2, .iload_n 1, 1, [], 0) := rfl
theorem i_X11_placeOf_3 : am_i m_X11_placeOf 3 = some (3, .imul, 1, [], 0) := rfl
theorem i_X11_placeOf_4 : am_i m_X11_placeOf 4 = some (4, .iload_n 0, 1, [], 0) := rfl
theorem i_X11_placeOf_5 : am_i m_X11_placeOf 5 = some (5, .iadd, 1, [], 0) := rfl
theorem i_X11_placeOf_6 : am_i m_X11_placeOf 6 = some (6, .ireturn, 1, [], 0) := rfl
theorem b_X11_placeOf_0 {x0 x1 : Int} {h : am_H} : rn m_X11_placeOf 0 [.int (mI x0), .int (mI x1)] [] h = some (.inl (some (.int (mI ((16 * x1) + x0)))), h) := by
  refine (tq_bipush i_X11_placeOf_0 rfl).trans ?_
  refine (tq_iload_n i_X11_placeOf_2 rfl rfl).trans ?_
  refine (tq_imul i_X11_placeOf_3 rfl).trans ?_
  refine (tq_iload_n i_X11_placeOf_4 rfl rfl).trans ?_
  refine (tq_iadd i_X11_placeOf_5 rfl).trans ?_
  exact tq_ireturn i_X11_placeOf_6 r_X11_placeOf rfl
theorem i_X11_rowOf_0 : am_i m_X11_rowOf 0 = some (0, .bipush 8, 2, [], 8) := rfl
theorem i_X11_rowOf_2 : am_i m_X11_rowOf 2 = some (2, .iload_n 0, 1, [], 0) := rfl
theorem i_X11_rowOf_3 : am_i m_X11_rowOf 3 = some (3, .bipush 8, 2, [], 8) := rfl
theorem i_X11_rowOf_5 : am_i m_X11_rowOf 5 = some (5, .idiv, 1, [], 0) := rfl
theorem i_X11_rowOf_6 : am_i m_X11_rowOf 6 = some (6, .imul, 1, [], 0) := rfl
theorem i_X11_rowOf_7 : am_i m_X11_rowOf 7 = some (7, .iconst 4, 1, [], 4) := rfl
theorem i_X11_rowOf_8 : am_i m_X11_rowOf 8 = some (8, .iload_n 0, 1, [], 0) := rfl
theorem i_X11_rowOf_9 : am_i m_X11_rowOf 9 = some (9, .iconst 2, 1, [], 2) := rfl
theorem i_X11_rowOf_10 : am_i m_X11_rowOf 10 = some (10, .idiv, 1, [], 0) := rfl
theorem i_X11_rowOf_11 : am_i m_X11_rowOf 11 = some (11, .iconst 2, 1, [], 2) := rfl
theorem i_X11_rowOf_12 : am_i m_X11_rowOf 12 = some (12, .irem, 1, [], 0) := rfl
theorem i_X11_rowOf_13 : am_i m_X11_rowOf 13 = some (13, .imul, 1, [], 0) := rfl
theorem i_X11_rowOf_14 : am_i m_X11_rowOf 14 = some (14, .iadd, 1, [], 0) := rfl
theorem i_X11_rowOf_15 : am_i m_X11_rowOf 15 = some (15, .ireturn, 1, [], 0) := rfl
theorem b_X11_rowOf_0 {x0 x0' : Int} {h : am_H} (w0 : wr x0 = x0') : rn m_X11_rowOf 0 [.int (mI x0)] [] h = some (.inl (some (.int (mI ((8 * (Int.tdiv x0' 8)) + (4 * (Int.tmod (wr (Int.tdiv x0' 2)) 2)))))), h) := by
  refine (tq_bipush i_X11_rowOf_0 rfl).trans ?_
  refine (tq_iload_n i_X11_rowOf_2 rfl rfl).trans ?_
  refine (tq_bipush i_X11_rowOf_3 rfl).trans ?_
  refine (tq_idiv i_X11_rowOf_5 w0 w_8 (by decide) rfl).trans ?_
  refine (tq_imul i_X11_rowOf_6 rfl).trans ?_
  refine (tq_iconst i_X11_rowOf_7 rfl).trans ?_
  refine (tq_iload_n i_X11_rowOf_8 rfl rfl).trans ?_
  refine (tq_iconst i_X11_rowOf_9 rfl).trans ?_
  refine (tq_idiv i_X11_rowOf_10 w0 w_2 (by decide) rfl).trans ?_
  refine (tq_iconst i_X11_rowOf_11 rfl).trans ?_
  refine (tq_irem i_X11_rowOf_12 rfl w_2 (by decide) rfl).trans ?_
  refine (tq_imul i_X11_rowOf_13 rfl).trans ?_
  refine (tq_iadd i_X11_rowOf_14 rfl).trans ?_
  exact tq_ireturn i_X11_rowOf_15 r_X11_rowOf rfl
theorem i_X11_squareAt_0 : am_i m_X11_squareAt 0 = some (0, .iconst 2, 1, [], 2) := rfl
theorem i_X11_squareAt_1 : am_i m_X11_squareAt 1 = some (1, .iload_n 1, 1, [], 0) := rfl
theorem i_X11_squareAt_2 : am_i m_X11_squareAt 2 = some (2, .bipush 8, 2, [], 8) := rfl
theorem i_X11_squareAt_4 : am_i m_X11_squareAt 4 = some (4, .idiv, 1, [], 0) := rfl
theorem i_X11_squareAt_5 : am_i m_X11_squareAt 5 = some (5, .imul, 1, [], 0) := rfl
theorem i_X11_squareAt_6 : am_i m_X11_squareAt 6 = some (6, .iload_n 0, 1, [], 0) := rfl
theorem i_X11_squareAt_7 : am_i m_X11_squareAt 7 = some (7, .bipush 8, 2, [], 8) := rfl
theorem i_X11_squareAt_9 : am_i m_X11_squareAt 9 = some (9, .idiv, 1, [], 0) := rfl
theorem i_X11_squareAt_10 : am_i m_X11_squareAt 10 = some (10, .iadd, 1, [], 0) := rfl
theorem i_X11_squareAt_11 : am_i m_X11_squareAt 11 = some (11, .istore_n 2, 1, [], 0) := rfl
theorem i_X11_squareAt_12 : am_i m_X11_squareAt 12 = some (12, .iconst 4, 1, [], 4) := rfl
theorem i_X11_squareAt_13 : am_i m_X11_squareAt 13 = some (13, .iload_n 2, 1, [], 0) := rfl
theorem i_X11_squareAt_14 : am_i m_X11_squareAt 14 = some (14, .imul, 1, [], 0) := rfl
theorem i_X11_squareAt_15 : am_i m_X11_squareAt 15 = some (15, .iconst 2, 1, [], 2) := rfl
theorem i_X11_squareAt_16 : am_i m_X11_squareAt 16 = some (16, .iload_n 1, 1, [], 0) := rfl
theorem i_X11_squareAt_17 : am_i m_X11_squareAt 17 = some (17, .bipush 8, 2, [], 8) := rfl
theorem i_X11_squareAt_19 : am_i m_X11_squareAt 19 = some (19, .irem, 1, [], 0) := rfl
theorem i_X11_squareAt_20 : am_i m_X11_squareAt 20 = some (20, .iconst 4, 1, [], 4) := rfl
theorem i_X11_squareAt_21 : am_i m_X11_squareAt 21 = some (21, .idiv, 1, [], 0) := rfl
theorem i_X11_squareAt_22 : am_i m_X11_squareAt 22 = some (22, .imul, 1, [], 0) := rfl
theorem i_X11_squareAt_23 : am_i m_X11_squareAt 23 = some (23, .iadd, 1, [], 0) := rfl
theorem i_X11_squareAt_24 : am_i m_X11_squareAt 24 = some (24, .iload_n 0, 1, [], 0) := rfl
theorem i_X11_squareAt_25 : am_i m_X11_squareAt 25 = some (25, .bipush 8, 2, [], 8) := rfl
theorem i_X11_squareAt_27 : am_i m_X11_squareAt 27 = some (27, .irem, 1, [], 0) := rfl
theorem i_X11_squareAt_28 : am_i m_X11_squareAt 28 = some (28, .iconst 4, 1, [], 4) := rfl
theorem i_X11_squareAt_29 : am_i m_X11_squareAt 29 = some (29, .idiv, 1, [], 0) := rfl
theorem i_X11_squareAt_30 : am_i m_X11_squareAt 30 = some (30, .iadd, 1, [], 0) := rfl
theorem i_X11_squareAt_31 : am_i m_X11_squareAt 31 = some (31, .ireturn, 1, [], 0) := rfl
theorem b_X11_squareAt_0 {x0 x1 x0' x1' : Int} {h : am_H} (w0 : wr x0 = x0') (w1 : wr x1 = x1') : rn m_X11_squareAt 0 [.int (mI x0), .int (mI x1), am_J] [] h = some (.inl (some (.int (mI (((4 * ((2 * (Int.tdiv x1' 8)) + (Int.tdiv x0' 8))) + (2 * (Int.tdiv (wr (Int.tmod x1' 8)) 4))) + (Int.tdiv (wr (Int.tmod x0' 8)) 4))))), h) := by
  refine (tq_iconst i_X11_squareAt_0 rfl).trans ?_
  refine (tq_iload_n i_X11_squareAt_1 rfl rfl).trans ?_
  refine (tq_bipush i_X11_squareAt_2 rfl).trans ?_
  refine (tq_idiv i_X11_squareAt_4 w1 w_8 (by decide) rfl).trans ?_
  refine (tq_imul i_X11_squareAt_5 rfl).trans ?_
  refine (tq_iload_n i_X11_squareAt_6 rfl rfl).trans ?_
  refine (tq_bipush i_X11_squareAt_7 rfl).trans ?_
  refine (tq_idiv i_X11_squareAt_9 w0 w_8 (by decide) rfl).trans ?_
  refine (tq_iadd i_X11_squareAt_10 rfl).trans ?_
  refine (tq_istore_n (L' := [.int (mI x0), .int (mI x1), .int (mI ((2 * (Int.tdiv x1' 8)) + (Int.tdiv x0' 8)))]) i_X11_squareAt_11 rfl rfl).trans ?_
  refine (tq_iconst i_X11_squareAt_12 rfl).trans ?_
  refine (tq_iload_n i_X11_squareAt_13 rfl rfl).trans ?_
  refine (tq_imul i_X11_squareAt_14 rfl).trans ?_
  refine (tq_iconst i_X11_squareAt_15 rfl).trans ?_
  refine (tq_iload_n i_X11_squareAt_16 rfl rfl).trans ?_
  refine (tq_bipush i_X11_squareAt_17 rfl).trans ?_
  refine (tq_irem i_X11_squareAt_19 w1 w_8 (by decide) rfl).trans ?_
  refine (tq_iconst i_X11_squareAt_20 rfl).trans ?_
  refine (tq_idiv i_X11_squareAt_21 rfl w_4 (by decide) rfl).trans ?_
  refine (tq_imul i_X11_squareAt_22 rfl).trans ?_
  refine (tq_iadd i_X11_squareAt_23 rfl).trans ?_
  refine (tq_iload_n i_X11_squareAt_24 rfl rfl).trans ?_
  refine (tq_bipush i_X11_squareAt_25 rfl).trans ?_
  refine (tq_irem i_X11_squareAt_27 w0 w_8 (by decide) rfl).trans ?_
  refine (tq_iconst i_X11_squareAt_28 rfl).trans ?_
  refine (tq_idiv i_X11_squareAt_29 rfl w_4 (by decide) rfl).trans ?_
  refine (tq_iadd i_X11_squareAt_30 rfl).trans ?_
  exact tq_ireturn i_X11_squareAt_31 r_X11_squareAt rfl
theorem i_X11_startsBlock_0 : am_i m_X11_startsBlock 0 = some (0, .iload_n 0, 1, [], 0) := rfl
theorem i_X11_startsBlock_1 : am_i m_X11_startsBlock 1 = some (1, .iconst 4, 1, [], 4) := rfl
theorem i_X11_startsBlock_2 : am_i m_X11_startsBlock 2 = some (2, .irem, 1, [], 0) := rfl
theorem i_X11_startsBlock_3 : am_i m_X11_startsBlock 3 = some (3, .ifCond .ne 7, 3, [], 0) := rfl
theorem i_X11_startsBlock_6 : am_i m_X11_startsBlock 6 = some (6, .iconst 1, 1, [], 1) := rfl
theorem i_X11_startsBlock_7 : am_i m_X11_startsBlock 7 = some (7, .goto 4, 3, [], 0) := rfl
theorem i_X11_startsBlock_10 : am_i m_X11_startsBlock 10 = some (10, .iconst 0, 1, [], 0) := rfl
theorem i_X11_startsBlock_11 : am_i m_X11_startsBlock 11 = some (11, .ireturn, 1, [], 0) := rfl
theorem b_X11_startsBlock_0 {x0 x0' : Int} {h : am_H} (w0 : wr x0 = x0') : rn m_X11_startsBlock 0 [.int (mI x0)] [] h = some (.inl (some (.int (mI (bZ (¬ (¬ (wr (Int.tmod x0' 4)) = 0)))))), h) := by
  refine (tq_iload_n i_X11_startsBlock_0 rfl rfl).trans ?_
  refine (tq_iconst i_X11_startsBlock_1 rfl).trans ?_
  refine (tq_irem i_X11_startsBlock_2 w0 w_4 (by decide) rfl).trans ?_
  refine (tq_if_ne (pt := 10) i_X11_startsBlock_3 rfl (by decide) rfl).trans ?_
  refine Eq.trans (b := if ¬ (wr (Int.tmod x0' 4)) = 0 then rn m_X11_startsBlock 11 [.int (mI x0)] [.int (mI 0)] h else rn m_X11_startsBlock 11 [.int (mI x0)] [.int (mI 1)] h) (ite_congr rfl (fun c1 => ?_) (fun c1 => ?_)) ?_
  · refine (tq_iconst i_X11_startsBlock_10 rfl).trans ?_
    rfl
  · refine (tq_iconst i_X11_startsBlock_6 rfl).trans ?_
    refine (tq_goto (pc' := 11) i_X11_startsBlock_7 (by decide)).trans ?_
    rfl
  refine Eq.trans ite_b01 ?_
  exact tq_ireturn i_X11_startsBlock_11 r_X11_startsBlock (okB (wr_bZ _) (bZ_01 _))
theorem i_X11_withinValues_0 : am_i m_X11_withinValues 0 = some (0, .iload_n 0, 1, [], 0) := rfl
theorem i_X11_withinValues_1 : am_i m_X11_withinValues 1 = some (1, .ifCond .ge 7, 3, [], 0) := rfl
theorem i_X11_withinValues_4 : am_i m_X11_withinValues 4 = some (4, .iconst 0, 1, [], 0) := rfl
theorem i_X11_withinValues_5 : am_i m_X11_withinValues 5 = some (5, .goto 17, 3, [], 0) := rfl
theorem i_X11_withinValues_8 : am_i m_X11_withinValues 8 = some (8, .iload_n 0, 1, [], 0) := rfl
theorem i_X11_withinValues_9 : am_i m_X11_withinValues 9 = some (9, .sipush 255, 3, [], 255) := rfl
theorem i_X11_withinValues_12 : am_i m_X11_withinValues 12 = some (12, .if_icmp .le 9, 3, [], 0) := rfl
theorem i_X11_withinValues_15 : am_i m_X11_withinValues 15 = some (15, .sipush 255, 3, [], 255) := rfl
theorem i_X11_withinValues_18 : am_i m_X11_withinValues 18 = some (18, .goto 4, 3, [], 0) := rfl
theorem i_X11_withinValues_21 : am_i m_X11_withinValues 21 = some (21, .iload_n 0, 1, [], 0) := rfl
theorem i_X11_withinValues_22 : am_i m_X11_withinValues 22 = some (22, .ireturn, 1, [], 0) := rfl
theorem b_X11_withinValues_0 {x0 x0' : Int} {h : am_H} (w0 : wr x0 = x0') : rn m_X11_withinValues 0 [.int (mI x0)] [] h = some (.inl (some (.int (mI (if 0 ≤ x0' then (if x0' ≤ 255 then x0 else 255) else 0)))), h) := by
  refine (tq_iload_n i_X11_withinValues_0 rfl rfl).trans ?_
  refine (tq_if_ge (pt := 8) i_X11_withinValues_1 w0 (by decide) rfl).trans ?_
  refine Eq.trans (b := if 0 ≤ x0' then rn m_X11_withinValues 22 [.int (mI x0)] [.int (mI (if x0' ≤ 255 then x0 else 255))] h else rn m_X11_withinValues 22 [.int (mI x0)] [.int (mI 0)] h) (ite_congr rfl (fun c1 => ?_) (fun c1 => ?_)) ?_
  · refine (tq_iload_n i_X11_withinValues_8 rfl rfl).trans ?_
    refine (tq_sipush i_X11_withinValues_9 rfl).trans ?_
    refine (tq_icmp_le (pt := 21) i_X11_withinValues_12 w0 w_255 (by decide) rfl).trans ?_
    refine Eq.trans (b := if x0' ≤ 255 then rn m_X11_withinValues 22 [.int (mI x0)] [.int (mI x0)] h else rn m_X11_withinValues 22 [.int (mI x0)] [.int (mI 255)] h) (ite_congr rfl (fun c2 => ?_) (fun c2 => ?_)) ?_
    · refine (tq_iload_n i_X11_withinValues_21 rfl rfl).trans ?_
      rfl
    · refine (tq_sipush i_X11_withinValues_15 rfl).trans ?_
      refine (tq_goto (pc' := 22) i_X11_withinValues_18 (by decide)).trans ?_
      rfl
    exact ite_I
  · refine (tq_iconst i_X11_withinValues_4 rfl).trans ?_
    refine (tq_goto (pc' := 22) i_X11_withinValues_5 (by decide)).trans ?_
    rfl
  refine Eq.trans ite_I ?_
  exact tq_ireturn i_X11_withinValues_22 r_X11_withinValues rfl
theorem i_X4_inside_0 : am_i m_X4_inside 0 = some (0, .iload_n 0, 1, [], 0) := rfl
theorem i_X4_inside_1 : am_i m_X4_inside 1 = some (1, .ifCond .ge 7, 3, [], 0) := rfl
theorem i_X4_inside_4 : am_i m_X4_inside 4 = some (4, .iconst 0, 1, [], 0) := rfl
theorem i_X4_inside_5 : am_i m_X4_inside 5 = some (5, .goto 15, 3, [], 0) := rfl
theorem i_X4_inside_8 : am_i m_X4_inside 8 = some (8, .iload_n 0, 1, [], 0) := rfl
theorem i_X4_inside_9 : am_i m_X4_inside 9 = some (9, .bipush 16, 2, [], 16) := rfl
theorem i_X4_inside_11 : am_i m_X4_inside 11 = some (11, .if_icmp .lt 8, 3, [], 0) := rfl
theorem i_X4_inside_14 : am_i m_X4_inside 14 = some (14, .bipush 15, 2, [], 15) := rfl
theorem i_X4_inside_16 : am_i m_X4_inside 16 = some (16, .goto 4, 3, [], 0) := rfl
theorem i_X4_inside_19 : am_i m_X4_inside 19 = some (19, .iload_n 0, 1, [], 0) := rfl
theorem i_X4_inside_20 : am_i m_X4_inside 20 = some (20, .ireturn, 1, [], 0) := rfl
theorem b_X4_inside_0 {x0 x0' : Int} {h : am_H} (w0 : wr x0 = x0') : rn m_X4_inside 0 [.int (mI x0)] [] h = some (.inl (some (.int (mI (if 0 ≤ x0' then (if x0' < 16 then x0 else 15) else 0)))), h) := by
  refine (tq_iload_n i_X4_inside_0 rfl rfl).trans ?_
  refine (tq_if_ge (pt := 8) i_X4_inside_1 w0 (by decide) rfl).trans ?_
  refine Eq.trans (b := if 0 ≤ x0' then rn m_X4_inside 20 [.int (mI x0)] [.int (mI (if x0' < 16 then x0 else 15))] h else rn m_X4_inside 20 [.int (mI x0)] [.int (mI 0)] h) (ite_congr rfl (fun c1 => ?_) (fun c1 => ?_)) ?_
  · refine (tq_iload_n i_X4_inside_8 rfl rfl).trans ?_
    refine (tq_bipush i_X4_inside_9 rfl).trans ?_
    refine (tq_icmp_lt (pt := 19) i_X4_inside_11 w0 w_16 (by decide) rfl).trans ?_
    refine Eq.trans (b := if x0' < 16 then rn m_X4_inside 20 [.int (mI x0)] [.int (mI x0)] h else rn m_X4_inside 20 [.int (mI x0)] [.int (mI 15)] h) (ite_congr rfl (fun c2 => ?_) (fun c2 => ?_)) ?_
    · refine (tq_iload_n i_X4_inside_19 rfl rfl).trans ?_
      rfl
    · refine (tq_bipush i_X4_inside_14 rfl).trans ?_
      refine (tq_goto (pc' := 20) i_X4_inside_16 (by decide)).trans ?_
      rfl
    exact ite_I
  · refine (tq_iconst i_X4_inside_4 rfl).trans ?_
    refine (tq_goto (pc' := 20) i_X4_inside_5 (by decide)).trans ?_
    rfl
  refine Eq.trans ite_I ?_
  exact tq_ireturn i_X4_inside_20 r_X4_inside rfl
theorem i_X4_placeFrom_0 : am_i m_X4_placeFrom 0 = some (0, .bipush 47, 2, [], 47) := rfl
theorem i_X4_placeFrom_2 : am_i m_X4_placeFrom 2 = some (2, .iconst 2, 1, [], 2) := rfl
theorem i_X4_placeFrom_3 : am_i m_X4_placeFrom 3 = some (3, .iload_n 2, 1, [], 0) := rfl
theorem i_X4_placeFrom_4 : am_i m_X4_placeFrom 4 = some (4, .imul, 1, [], 0) := rfl
theorem i_X4_placeFrom_5 : am_i m_X4_placeFrom 5 = some (5, .iload_n 0, 1, [], 0) := rfl
theorem i_X4_placeFrom_6 : am_i m_X4_placeFrom 6 = some (6, .bipush 100, 2, [], 100) := rfl
theorem i_X4_placeFrom_8 : am_i m_X4_placeFrom 8 = some (8, .irem, 1, [], 0) := rfl
theorem i_X4_placeFrom_9 : am_i m_X4_placeFrom 9 = some (9, .iadd, 1, [], 0) := rfl
theorem i_X4_placeFrom_10 : am_i m_X4_placeFrom 10 = some (10, .imul, 1, [], 0) := rfl
theorem i_X4_placeFrom_11 : am_i m_X4_placeFrom 11 = some (11, .iconst 2, 1, [], 2) := rfl
theorem i_X4_placeFrom_12 : am_i m_X4_placeFrom 12 = some (12, .iload_n 1, 1, [], 0) := rfl
theorem i_X4_placeFrom_13 : am_i m_X4_placeFrom 13 = some (13, .imul, 1, [], 0) := rfl
theorem i_X4_placeFrom_14 : am_i m_X4_placeFrom 14 = some (14, .iadd, 1, [], 0) := rfl
theorem i_X4_placeFrom_15 : am_i m_X4_placeFrom 15 = some (15, .iload_n 0, 1, [], 0) := rfl
theorem i_X4_placeFrom_16 : am_i m_X4_placeFrom 16 = some (16, .bipush 100, 2, [], 100) := rfl
theorem i_X4_placeFrom_18 : am_i m_X4_placeFrom 18 = some (18, .idiv, 1, [], 0) := rfl
theorem i_X4_placeFrom_19 : am_i m_X4_placeFrom 19 = some (19, .iadd, 1, [], 0) := rfl
theorem i_X4_placeFrom_20 : am_i m_X4_placeFrom 20 = some (20, .ireturn, 1, [], 0) := rfl
theorem b_X4_placeFrom_0 {x0 x1 x2 x0' : Int} {h : am_H} (w0 : wr x0 = x0') : rn m_X4_placeFrom 0 [.int (mI x0), .int (mI x1), .int (mI x2)] [] h = some (.inl (some (.int (mI (((47 * ((2 * x2) + (Int.tmod x0' 100))) + (2 * x1)) + (Int.tdiv x0' 100))))), h) := by
  refine (tq_bipush i_X4_placeFrom_0 rfl).trans ?_
  refine (tq_iconst i_X4_placeFrom_2 rfl).trans ?_
  refine (tq_iload_n i_X4_placeFrom_3 rfl rfl).trans ?_
  refine (tq_imul i_X4_placeFrom_4 rfl).trans ?_
  refine (tq_iload_n i_X4_placeFrom_5 rfl rfl).trans ?_
  refine (tq_bipush i_X4_placeFrom_6 rfl).trans ?_
  refine (tq_irem i_X4_placeFrom_8 w0 w_100 (by decide) rfl).trans ?_
  refine (tq_iadd i_X4_placeFrom_9 rfl).trans ?_
  refine (tq_imul i_X4_placeFrom_10 rfl).trans ?_
  refine (tq_iconst i_X4_placeFrom_11 rfl).trans ?_
  refine (tq_iload_n i_X4_placeFrom_12 rfl rfl).trans ?_
  refine (tq_imul i_X4_placeFrom_13 rfl).trans ?_
  refine (tq_iadd i_X4_placeFrom_14 rfl).trans ?_
  refine (tq_iload_n i_X4_placeFrom_15 rfl rfl).trans ?_
  refine (tq_bipush i_X4_placeFrom_16 rfl).trans ?_
  refine (tq_idiv i_X4_placeFrom_18 w0 w_100 (by decide) rfl).trans ?_
  refine (tq_iadd i_X4_placeFrom_19 rfl).trans ?_
  exact tq_ireturn i_X4_placeFrom_20 r_X4_placeFrom rfl
theorem i_X5_isOfBorder_0 : am_i m_X5_isOfBorder 0 = some (0, .aload_n 0, 1, [], 0) := rfl
theorem i_X5_isOfBorder_1 : am_i m_X5_isOfBorder 1 = some (1, .getfield 24, 3, [5, 4, 0], 0) := rfl
theorem i_X5_isOfBorder_4 : am_i m_X5_isOfBorder 4 = some (4, .iconst 4, 1, [], 4) := rfl
theorem i_X5_isOfBorder_5 : am_i m_X5_isOfBorder 5 = some (5, .if_icmp .ge 7, 3, [], 0) := rfl
theorem i_X5_isOfBorder_8 : am_i m_X5_isOfBorder 8 = some (8, .iconst 1, 1, [], 1) := rfl
theorem i_X5_isOfBorder_9 : am_i m_X5_isOfBorder 9 = some (9, .goto 4, 3, [], 0) := rfl
theorem i_X5_isOfBorder_12 : am_i m_X5_isOfBorder 12 = some (12, .iconst 0, 1, [], 0) := rfl
theorem i_X5_isOfBorder_13 : am_i m_X5_isOfBorder 13 = some (13, .ireturn, 1, [], 0) := rfl
theorem b_X5_isOfBorder_0 {a0 : Nat} {h : am_H} (k1 : K5 h a0) : rn m_X5_isOfBorder 0 [.ref a0] [] h = some (.inl (some (.int (mI (bZ (¬ (4 ≤ (fZ h a0 4))))))), h) := by
  refine (tq_aload_n i_X5_isOfBorder_0 rfl (isA_ref _) rfl).trans ?_
  refine (tq_getfield i_X5_isOfBorder_1 (K5_s k1) (g_5_4 (K5_s k1)) (isV_I _) rfl).trans ?_
  refine (tq_iconst i_X5_isOfBorder_4 rfl).trans ?_
  refine (tq_icmp_ge (pt := 12) i_X5_isOfBorder_5 (wr_fZ _ _ _) w_4 (by decide) rfl).trans ?_
  refine Eq.trans (b := if 4 ≤ (fZ h a0 4) then rn m_X5_isOfBorder 13 [.ref a0] [.int (mI 0)] h else rn m_X5_isOfBorder 13 [.ref a0] [.int (mI 1)] h) (ite_congr rfl (fun c1 => ?_) (fun c1 => ?_)) ?_
  · refine (tq_iconst i_X5_isOfBorder_12 rfl).trans ?_
    rfl
  · refine (tq_iconst i_X5_isOfBorder_8 rfl).trans ?_
    refine (tq_goto (pc' := 13) i_X5_isOfBorder_9 (by decide)).trans ?_
    rfl
  refine Eq.trans ite_b01 ?_
  exact tq_ireturn i_X5_isOfBorder_13 r_X5_isOfBorder (okB (wr_bZ _) (bZ_01 _))
theorem i_X5_lay_0 : am_i m_X5_lay 0 = some (0, .aload_n 0, 1, [], 0) := rfl
theorem i_X5_lay_1 : am_i m_X5_lay 1 = some (1, .iload_n 1, 1, [], 0) := rfl
theorem i_X5_lay_2 : am_i m_X5_lay 2 = some (2, .putfield 9, 3, [5, 0, 0], 0) := rfl
theorem i_X5_lay_5 : am_i m_X5_lay 5 = some (5, .aload_n 0, 1, [], 0) := rfl
theorem i_X5_lay_6 : am_i m_X5_lay 6 = some (6, .iload_n 2, 1, [], 0) := rfl
theorem i_X5_lay_7 : am_i m_X5_lay 7 = some (7, .putfield 15, 3, [5, 1, 0], 0) := rfl
theorem i_X5_lay_10 : am_i m_X5_lay 10 = some (10, .aload_n 0, 1, [], 0) := rfl
theorem i_X5_lay_11 : am_i m_X5_lay 11 = some (11, .iload_n 3, 1, [], 0) := rfl
theorem i_X5_lay_12 : am_i m_X5_lay 12 = some (12, .putfield 18, 3, [5, 2, 0], 0) := rfl
theorem i_X5_lay_15 : am_i m_X5_lay 15 = some (15, .aload_n 0, 1, [], 0) := rfl
theorem i_X5_lay_16 : am_i m_X5_lay 16 = some (16, .iload 4, 2, [], 0) := rfl
theorem i_X5_lay_18 : am_i m_X5_lay 18 = some (18, .putfield 21, 3, [5, 3, 0], 0) := rfl
theorem i_X5_lay_21 : am_i m_X5_lay 21 = some (21, .return_, 1, [], 0) := rfl
theorem b_X5_lay_0 {a0 : Nat} {x1 x2 x3 x4 : Int} {h : am_H} (k1 : K5 h a0) : rn m_X5_lay 0 [.ref a0, .int (mI x1), .int (mI x2), .int (mI x3), .int (mI x4)] [] h = some (.inl none, uF 5 (uF 5 (uF 5 (uF 5 h a0 0 (.int (mI x1))) a0 1 (.int (mI x2))) a0 2 (.int (mI x3))) a0 3 (.int (mI x4))) := by
  refine (tq_aload_n i_X5_lay_0 rfl (isA_ref _) rfl).trans ?_
  refine (tq_iload_n i_X5_lay_1 rfl rfl).trans ?_
  refine (tq_putfield i_X5_lay_2 (K5_s k1) (okf_5_0 _) rfl).trans ?_
  refine (tq_aload_n i_X5_lay_5 rfl (isA_ref _) rfl).trans ?_
  refine (tq_iload_n i_X5_lay_6 rfl rfl).trans ?_
  refine (tq_putfield i_X5_lay_7 ((sh_uF _ _ _ _ _ _).trans (K5_s k1)) (okf_5_1 _) rfl).trans ?_
  refine (tq_aload_n i_X5_lay_10 rfl (isA_ref _) rfl).trans ?_
  refine (tq_iload_n i_X5_lay_11 rfl rfl).trans ?_
  refine (tq_putfield i_X5_lay_12 ((sh_uF _ _ _ _ _ _).trans ((sh_uF _ _ _ _ _ _).trans (K5_s k1))) (okf_5_2 _) rfl).trans ?_
  refine (tq_aload_n i_X5_lay_15 rfl (isA_ref _) rfl).trans ?_
  refine (tq_iload i_X5_lay_16 rfl rfl).trans ?_
  refine (tq_putfield i_X5_lay_18 ((sh_uF _ _ _ _ _ _).trans ((sh_uF _ _ _ _ _ _).trans ((sh_uF _ _ _ _ _ _).trans (K5_s k1)))) (okf_5_3 _) rfl).trans ?_
  exact tq_return i_X5_lay_21 r_X5_lay
theorem i_X5_usesFirst_0 : am_i m_X5_usesFirst 0 = some (0, .aload_n 0, 1, [], 0) := rfl
theorem i_X5_usesFirst_1 : am_i m_X5_usesFirst 1 = some (1, .getfield 24, 3, [5, 4, 0], 0) := rfl
theorem i_X5_usesFirst_4 : am_i m_X5_usesFirst 4 = some (4, .iconst 4, 1, [], 4) := rfl
theorem i_X5_usesFirst_5 : am_i m_X5_usesFirst 5 = some (5, .if_icmp .eq 12, 3, [], 0) := rfl
theorem i_X5_usesFirst_8 : am_i m_X5_usesFirst 8 = some (8, .aload_n 0, 1, [], 0) := rfl
theorem i_X5_usesFirst_9 : am_i m_X5_usesFirst 9 = some (9, .getfield 24, 3, [5, 4, 0], 0) := rfl
theorem i_X5_usesFirst_12 : am_i m_X5_usesFirst 12 = some (12, .bipush 6, 2, [], 6) := rfl
theorem i_X5_usesFirst_14 : am_i m_X5_usesFirst 14 = some (14, .if_icmp .ne 7, 3, [], 0) := rfl
theorem i_X5_usesFirst_17 : am_i m_X5_usesFirst 17 = some (17, .iconst 1, 1, [], 1) := rfl
theorem i_X5_usesFirst_18 : am_i m_X5_usesFirst 18 = some (18, .goto 4, 3, [], 0) := rfl
theorem i_X5_usesFirst_21 : am_i m_X5_usesFirst 21 = some (21, .iconst 0, 1, [], 0) := rfl
theorem i_X5_usesFirst_22 : am_i m_X5_usesFirst 22 = some (22, .ireturn, 1, [], 0) := rfl
theorem b_X5_usesFirst_0 {a0 : Nat} {h : am_H} (k1 : K5 h a0) : rn m_X5_usesFirst 0 [.ref a0] [] h = some (.inl (some (.int (mI (bZ (((fZ h a0 4) = 4) ∨ (¬ (¬ (fZ h a0 4) = 6))))))), h) := by
  refine (tq_aload_n i_X5_usesFirst_0 rfl (isA_ref _) rfl).trans ?_
  refine (tq_getfield i_X5_usesFirst_1 (K5_s k1) (g_5_4 (K5_s k1)) (isV_I _) rfl).trans ?_
  refine (tq_iconst i_X5_usesFirst_4 rfl).trans ?_
  refine (tq_icmp_eq (pt := 17) i_X5_usesFirst_5 (wr_fZ _ _ _) w_4 (by decide) rfl).trans ?_
  refine Eq.trans (b := if (fZ h a0 4) = 4 then rn m_X5_usesFirst 22 [.ref a0] [.int (mI 1)] h else rn m_X5_usesFirst 22 [.ref a0] [.int (mI (bZ (¬ (¬ (fZ h a0 4) = 6))))] h) (ite_congr rfl (fun c1 => ?_) (fun c1 => ?_)) ?_
  · refine (tq_iconst i_X5_usesFirst_17 rfl).trans ?_
    refine (tq_goto (pc' := 22) i_X5_usesFirst_18 (by decide)).trans ?_
    rfl
  · refine (tq_aload_n i_X5_usesFirst_8 rfl (isA_ref _) rfl).trans ?_
    refine (tq_getfield i_X5_usesFirst_9 (K5_s k1) (g_5_4 (K5_s k1)) (isV_I _) rfl).trans ?_
    refine (tq_bipush i_X5_usesFirst_12 rfl).trans ?_
    refine (tq_icmp_ne (pt := 21) i_X5_usesFirst_14 (wr_fZ _ _ _) w_6 (by decide) rfl).trans ?_
    refine Eq.trans (b := if ¬ (fZ h a0 4) = 6 then rn m_X5_usesFirst 22 [.ref a0] [.int (mI 0)] h else rn m_X5_usesFirst 22 [.ref a0] [.int (mI 1)] h) (ite_congr rfl (fun c2 => ?_) (fun c2 => ?_)) ?_
    · refine (tq_iconst i_X5_usesFirst_21 rfl).trans ?_
      rfl
    · refine (tq_iconst i_X5_usesFirst_17 rfl).trans ?_
      refine (tq_goto (pc' := 22) i_X5_usesFirst_18 (by decide)).trans ?_
      rfl
    exact ite_b01
  refine Eq.trans ite_b1p ?_
  exact tq_ireturn i_X5_usesFirst_22 r_X5_usesFirst (okB (wr_bZ _) (bZ_01 _))
theorem i_X5_usesSecond_0 : am_i m_X5_usesSecond 0 = some (0, .aload_n 0, 1, [], 0) := rfl
theorem i_X5_usesSecond_1 : am_i m_X5_usesSecond 1 = some (1, .getfield 24, 3, [5, 4, 0], 0) := rfl
theorem i_X5_usesSecond_4 : am_i m_X5_usesSecond 4 = some (4, .iconst 5, 1, [], 5) := rfl
theorem i_X5_usesSecond_5 : am_i m_X5_usesSecond 5 = some (5, .if_icmp .eq 12, 3, [], 0) := rfl
theorem i_X5_usesSecond_8 : am_i m_X5_usesSecond 8 = some (8, .aload_n 0, 1, [], 0) := rfl
theorem i_X5_usesSecond_9 : am_i m_X5_usesSecond 9 = some (9, .getfield 24, 3, [5, 4, 0], 0) := rfl
theorem i_X5_usesSecond_12 : am_i m_X5_usesSecond 12 = some (12, .bipush 6, 2, [], 6) := rfl
theorem i_X5_usesSecond_14 : am_i m_X5_usesSecond 14 = some (14, .if_icmp .ne 7, 3, [], 0) := rfl
theorem i_X5_usesSecond_17 : am_i m_X5_usesSecond 17 = some (17, .iconst 1, 1, [], 1) := rfl
theorem i_X5_usesSecond_18 : am_i m_X5_usesSecond 18 = some (18, .goto 4, 3, [], 0) := rfl
theorem i_X5_usesSecond_21 : am_i m_X5_usesSecond 21 = some (21, .iconst 0, 1, [], 0) := rfl
theorem i_X5_usesSecond_22 : am_i m_X5_usesSecond 22 = some (22, .ireturn, 1, [], 0) := rfl
theorem b_X5_usesSecond_0 {a0 : Nat} {h : am_H} (k1 : K5 h a0) : rn m_X5_usesSecond 0 [.ref a0] [] h = some (.inl (some (.int (mI (bZ (((fZ h a0 4) = 5) ∨ (¬ (¬ (fZ h a0 4) = 6))))))), h) := by
  refine (tq_aload_n i_X5_usesSecond_0 rfl (isA_ref _) rfl).trans ?_
  refine (tq_getfield i_X5_usesSecond_1 (K5_s k1) (g_5_4 (K5_s k1)) (isV_I _) rfl).trans ?_
  refine (tq_iconst i_X5_usesSecond_4 rfl).trans ?_
  refine (tq_icmp_eq (pt := 17) i_X5_usesSecond_5 (wr_fZ _ _ _) w_5 (by decide) rfl).trans ?_
  refine Eq.trans (b := if (fZ h a0 4) = 5 then rn m_X5_usesSecond 22 [.ref a0] [.int (mI 1)] h else rn m_X5_usesSecond 22 [.ref a0] [.int (mI (bZ (¬ (¬ (fZ h a0 4) = 6))))] h) (ite_congr rfl (fun c1 => ?_) (fun c1 => ?_)) ?_
  · refine (tq_iconst i_X5_usesSecond_17 rfl).trans ?_
    refine (tq_goto (pc' := 22) i_X5_usesSecond_18 (by decide)).trans ?_
    rfl
  · refine (tq_aload_n i_X5_usesSecond_8 rfl (isA_ref _) rfl).trans ?_
    refine (tq_getfield i_X5_usesSecond_9 (K5_s k1) (g_5_4 (K5_s k1)) (isV_I _) rfl).trans ?_
    refine (tq_bipush i_X5_usesSecond_12 rfl).trans ?_
    refine (tq_icmp_ne (pt := 21) i_X5_usesSecond_14 (wr_fZ _ _ _) w_6 (by decide) rfl).trans ?_
    refine Eq.trans (b := if ¬ (fZ h a0 4) = 6 then rn m_X5_usesSecond 22 [.ref a0] [.int (mI 0)] h else rn m_X5_usesSecond 22 [.ref a0] [.int (mI 1)] h) (ite_congr rfl (fun c2 => ?_) (fun c2 => ?_)) ?_
    · refine (tq_iconst i_X5_usesSecond_21 rfl).trans ?_
      rfl
    · refine (tq_iconst i_X5_usesSecond_17 rfl).trans ?_
      refine (tq_goto (pc' := 22) i_X5_usesSecond_18 (by decide)).trans ?_
      rfl
    exact ite_b01
  refine Eq.trans ite_b1p ?_
  exact tq_ireturn i_X5_usesSecond_22 r_X5_usesSecond (okB (wr_bZ _) (bZ_01 _))
theorem i_X6_describe_0 : am_i m_X6_describe 0 = some (0, .aload_n 0, 1, [], 0) := rfl
theorem i_X6_describe_1 : am_i m_X6_describe 1 = some (1, .iload_n 1, 1, [], 0) := rfl
theorem i_X6_describe_2 : am_i m_X6_describe 2 = some (2, .putfield 9, 3, [6, 0, 0], 0) := rfl
theorem i_X6_describe_5 : am_i m_X6_describe 5 = some (5, .aload_n 0, 1, [], 0) := rfl
theorem i_X6_describe_6 : am_i m_X6_describe 6 = some (6, .iload_n 2, 1, [], 0) := rfl
theorem i_X6_describe_7 : am_i m_X6_describe 7 = some (7, .putfield 15, 3, [6, 1, 0], 0) := rfl
theorem i_X6_describe_10 : am_i m_X6_describe 10 = some (10, .aload_n 0, 1, [], 0) := rfl
theorem i_X6_describe_11 : am_i m_X6_describe 11 = some (11, .iload_n 3, 1, [], 0) := rfl
theorem i_X6_describe_12 : am_i m_X6_describe 12 = some (12, .putfield 19, 3, [6, 2, 0], 0) := rfl
theorem i_X6_describe_15 : am_i m_X6_describe 15 = some (15, .return_, 1, [], 0) := rfl
theorem b_X6_describe_0 {a0 : Nat} {x1 x2 x3 x1' : Int} {h : am_H} (w1 : wr x1 = x1') (g1 : 0 ≤ x1' ∧ x1' ≤ 65535) (k2 : K6 h a0) : rn m_X6_describe 0 [.ref a0, .int (mI x1), .int (mI x2), .int (mI x3)] [] h = some (.inl none, uF 6 (uF 6 (uF 6 h a0 0 (.int (mI x1))) a0 1 (.int (mI x2))) a0 2 (.int (mI x3))) := by
  refine (tq_aload_n i_X6_describe_0 rfl (isA_ref _) rfl).trans ?_
  refine (tq_iload_n i_X6_describe_1 rfl rfl).trans ?_
  refine (tq_putfield i_X6_describe_2 (K6_s k2) (okfC_6_0 w1 g1) rfl).trans ?_
  refine (tq_aload_n i_X6_describe_5 rfl (isA_ref _) rfl).trans ?_
  refine (tq_iload_n i_X6_describe_6 rfl rfl).trans ?_
  refine (tq_putfield i_X6_describe_7 ((sh_uF _ _ _ _ _ _).trans (K6_s k2)) (okf_6_1 _) rfl).trans ?_
  refine (tq_aload_n i_X6_describe_10 rfl (isA_ref _) rfl).trans ?_
  refine (tq_iload_n i_X6_describe_11 rfl rfl).trans ?_
  refine (tq_putfield i_X6_describe_12 ((sh_uF _ _ _ _ _ _).trans ((sh_uF _ _ _ _ _ _).trans (K6_s k2))) (okf_6_2 _) rfl).trans ?_
  exact tq_return i_X6_describe_15 r_X6_describe
theorem i_X6_has_0 : am_i m_X6_has 0 = some (0, .aload_n 0, 1, [], 0) := rfl
theorem i_X6_has_1 : am_i m_X6_has 1 = some (1, .getfield 25, 3, [6, 4, 0], 0) := rfl
theorem i_X6_has_4 : am_i m_X6_has 4 = some (4, .iload_n 1, 1, [], 0) := rfl
theorem i_X6_has_5 : am_i m_X6_has 5 = some (5, .iand, 1, [], 0) := rfl
theorem i_X6_has_6 : am_i m_X6_has 6 = some (6, .ifCond .eq 7, 3, [], 0) := rfl
theorem i_X6_has_9 : am_i m_X6_has 9 = some (9, .iconst 1, 1, [], 1) := rfl
theorem i_X6_has_10 : am_i m_X6_has 10 = some (10, .goto 4, 3, [], 0) := rfl
theorem i_X6_has_13 : am_i m_X6_has 13 = some (13, .iconst 0, 1, [], 0) := rfl
theorem i_X6_has_14 : am_i m_X6_has 14 = some (14, .ireturn, 1, [], 0) := rfl
theorem b_X6_has_0 {a0 : Nat} {x1 : Int} {h : am_H} (k1 : K6 h a0) : rn m_X6_has 0 [.ref a0, .int (mI x1)] [] h = some (.inl (some (.int (mI (bZ (¬ ((zand (fZ h a0 4) x1) = 0)))))), h) := by
  refine (tq_aload_n i_X6_has_0 rfl (isA_ref _) rfl).trans ?_
  refine (tq_getfield i_X6_has_1 (K6_s k1) (g_6_4 (K6_s k1)) (isV_I _) rfl).trans ?_
  refine (tq_iload_n i_X6_has_4 rfl rfl).trans ?_
  refine (tq_iand i_X6_has_5 rfl).trans ?_
  refine (tq_if_eq (pt := 13) i_X6_has_6 (wr_zand _ _) (by decide) rfl).trans ?_
  refine Eq.trans (b := if (zand (fZ h a0 4) x1) = 0 then rn m_X6_has 14 [.ref a0, .int (mI x1)] [.int (mI 0)] h else rn m_X6_has 14 [.ref a0, .int (mI x1)] [.int (mI 1)] h) (ite_congr rfl (fun c1 => ?_) (fun c1 => ?_)) ?_
  · refine (tq_iconst i_X6_has_13 rfl).trans ?_
    rfl
  · refine (tq_iconst i_X6_has_9 rfl).trans ?_
    refine (tq_goto (pc' := 14) i_X6_has_10 (by decide)).trans ?_
    rfl
  refine Eq.trans ite_b01 ?_
  exact tq_ireturn i_X6_has_14 r_X6_has (okB (wr_bZ _) (bZ_01 _))
theorem i_X6_leansOnFirst_0 : am_i m_X6_leansOnFirst 0 = some (0, .aload_n 0, 1, [], 0) := rfl
theorem i_X6_leansOnFirst_1 : am_i m_X6_leansOnFirst 1 = some (1, .getfield 9, 3, [6, 0, 0], 0) := rfl
theorem i_X6_leansOnFirst_4 : am_i m_X6_leansOnFirst 4 = some (4, .bipush 105, 2, [], 105) := rfl
theorem i_X6_leansOnFirst_6 : am_i m_X6_leansOnFirst 6 = some (6, .if_icmp .eq 7, 3, [], 0) := rfl
theorem i_X6_leansOnFirst_9 : am_i m_X6_leansOnFirst 9 = some (9, .iconst 1, 1, [], 1) := rfl
theorem i_X6_leansOnFirst_10 : am_i m_X6_leansOnFirst 10 = some (10, .goto 4, 3, [], 0) := rfl
theorem i_X6_leansOnFirst_13 : am_i m_X6_leansOnFirst 13 = some (13, .iconst 0, 1, [], 0) := rfl
theorem i_X6_leansOnFirst_14 : am_i m_X6_leansOnFirst 14 = some (14, .ireturn, 1, [], 0) := rfl
theorem b_X6_leansOnFirst_0 {a0 : Nat} {h : am_H} (k1 : K6 h a0) : rn m_X6_leansOnFirst 0 [.ref a0] [] h = some (.inl (some (.int (mI (bZ (¬ ((fZ h a0 0) = 105)))))), h) := by
  refine (tq_aload_n i_X6_leansOnFirst_0 rfl (isA_ref _) rfl).trans ?_
  refine (tq_getfield i_X6_leansOnFirst_1 (K6_s k1) (g_6_0 (K6_s k1)) (isV_I _) rfl).trans ?_
  refine (tq_bipush i_X6_leansOnFirst_4 rfl).trans ?_
  refine (tq_icmp_eq (pt := 13) i_X6_leansOnFirst_6 (wr_fZ _ _ _) w_105 (by decide) rfl).trans ?_
  refine Eq.trans (b := if (fZ h a0 0) = 105 then rn m_X6_leansOnFirst 14 [.ref a0] [.int (mI 0)] h else rn m_X6_leansOnFirst 14 [.ref a0] [.int (mI 1)] h) (ite_congr rfl (fun c1 => ?_) (fun c1 => ?_)) ?_
  · refine (tq_iconst i_X6_leansOnFirst_13 rfl).trans ?_
    rfl
  · refine (tq_iconst i_X6_leansOnFirst_9 rfl).trans ?_
    refine (tq_goto (pc' := 14) i_X6_leansOnFirst_10 (by decide)).trans ?_
    rfl
  refine Eq.trans ite_b01 ?_
  exact tq_ireturn i_X6_leansOnFirst_14 r_X6_leansOnFirst (okB (wr_bZ _) (bZ_01 _))
theorem i_X6_leansOnSecond_0 : am_i m_X6_leansOnSecond 0 = some (0, .aload_n 0, 1, [], 0) := rfl
theorem i_X6_leansOnSecond_1 : am_i m_X6_leansOnSecond 1 = some (1, .getfield 9, 3, [6, 0, 0], 0) := rfl
theorem i_X6_leansOnSecond_4 : am_i m_X6_leansOnSecond 4 = some (4, .bipush 98, 2, [], 98) := rfl
theorem i_X6_leansOnSecond_6 : am_i m_X6_leansOnSecond 6 = some (6, .if_icmp .ne 7, 3, [], 0) := rfl
theorem i_X6_leansOnSecond_9 : am_i m_X6_leansOnSecond 9 = some (9, .iconst 1, 1, [], 1) := rfl
theorem i_X6_leansOnSecond_10 : am_i m_X6_leansOnSecond 10 = some (10, .goto 4, 3, [], 0) := rfl
theorem i_X6_leansOnSecond_13 : am_i m_X6_leansOnSecond 13 = some (13, .iconst 0, 1, [], 0) := rfl
theorem i_X6_leansOnSecond_14 : am_i m_X6_leansOnSecond 14 = some (14, .ireturn, 1, [], 0) := rfl
theorem b_X6_leansOnSecond_0 {a0 : Nat} {h : am_H} (k1 : K6 h a0) : rn m_X6_leansOnSecond 0 [.ref a0] [] h = some (.inl (some (.int (mI (bZ (¬ (¬ (fZ h a0 0) = 98)))))), h) := by
  refine (tq_aload_n i_X6_leansOnSecond_0 rfl (isA_ref _) rfl).trans ?_
  refine (tq_getfield i_X6_leansOnSecond_1 (K6_s k1) (g_6_0 (K6_s k1)) (isV_I _) rfl).trans ?_
  refine (tq_bipush i_X6_leansOnSecond_4 rfl).trans ?_
  refine (tq_icmp_ne (pt := 13) i_X6_leansOnSecond_6 (wr_fZ _ _ _) w_98 (by decide) rfl).trans ?_
  refine Eq.trans (b := if ¬ (fZ h a0 0) = 98 then rn m_X6_leansOnSecond 14 [.ref a0] [.int (mI 0)] h else rn m_X6_leansOnSecond 14 [.ref a0] [.int (mI 1)] h) (ite_congr rfl (fun c1 => ?_) (fun c1 => ?_)) ?_
  · refine (tq_iconst i_X6_leansOnSecond_13 rfl).trans ?_
    rfl
  · refine (tq_iconst i_X6_leansOnSecond_9 rfl).trans ?_
    refine (tq_goto (pc' := 14) i_X6_leansOnSecond_10 (by decide)).trans ?_
    rfl
  refine Eq.trans ite_b01 ?_
  exact tq_ireturn i_X6_leansOnSecond_14 r_X6_leansOnSecond (okB (wr_bZ _) (bZ_01 _))
theorem i_X6_sliceOf_0 : am_i m_X6_sliceOf 0 = some (0, .aload_n 0, 1, [], 0) := rfl
theorem i_X6_sliceOf_1 : am_i m_X6_sliceOf 1 = some (1, .getfield 28, 3, [6, 5, 0], 0) := rfl
theorem i_X6_sliceOf_4 : am_i m_X6_sliceOf 4 = some (4, .iconst 1, 1, [], 1) := rfl
theorem i_X6_sliceOf_5 : am_i m_X6_sliceOf 5 = some (5, .if_icmp .le 13, 3, [], 0) := rfl
theorem i_X6_sliceOf_8 : am_i m_X6_sliceOf 8 = some (8, .iload_n 1, 1, [], 0) := rfl
theorem i_X6_sliceOf_9 : am_i m_X6_sliceOf 9 = some (9, .bipush 8, 2, [], 8) := rfl
theorem i_X6_sliceOf_11 : am_i m_X6_sliceOf 11 = some (11, .if_icmp .lt 7, 3, [], 0) := rfl
theorem i_X6_sliceOf_14 : am_i m_X6_sliceOf 14 = some (14, .iconst 1, 1, [], 1) := rfl
theorem i_X6_sliceOf_15 : am_i m_X6_sliceOf 15 = some (15, .goto 4, 3, [], 0) := rfl
theorem i_X6_sliceOf_18 : am_i m_X6_sliceOf 18 = some (18, .iconst 0, 1, [], 0) := rfl
theorem i_X6_sliceOf_19 : am_i m_X6_sliceOf 19 = some (19, .ireturn, 1, [], 0) := rfl
theorem b_X6_sliceOf_0 {a0 : Nat} {x1 x1' : Int} {h : am_H} (w1 : wr x1 = x1') (k1 : K6 h a0) : rn m_X6_sliceOf 0 [.ref a0, .int (mI x1)] [] h = some (.inl (some (.int (mI (bZ (¬ ((fZ h a0 5) ≤ 1) ∧ (¬ (x1' < 8))))))), h) := by
  refine (tq_aload_n i_X6_sliceOf_0 rfl (isA_ref _) rfl).trans ?_
  refine (tq_getfield i_X6_sliceOf_1 (K6_s k1) (g_6_5 (K6_s k1)) (isV_I _) rfl).trans ?_
  refine (tq_iconst i_X6_sliceOf_4 rfl).trans ?_
  refine (tq_icmp_le (pt := 18) i_X6_sliceOf_5 (wr_fZ _ _ _) w_1 (by decide) rfl).trans ?_
  refine Eq.trans (b := if (fZ h a0 5) ≤ 1 then rn m_X6_sliceOf 19 [.ref a0, .int (mI x1)] [.int (mI 0)] h else rn m_X6_sliceOf 19 [.ref a0, .int (mI x1)] [.int (mI (bZ (¬ (x1' < 8))))] h) (ite_congr rfl (fun c1 => ?_) (fun c1 => ?_)) ?_
  · refine (tq_iconst i_X6_sliceOf_18 rfl).trans ?_
    rfl
  · refine (tq_iload_n i_X6_sliceOf_8 rfl rfl).trans ?_
    refine (tq_bipush i_X6_sliceOf_9 rfl).trans ?_
    refine (tq_icmp_lt (pt := 18) i_X6_sliceOf_11 w1 w_8 (by decide) rfl).trans ?_
    refine Eq.trans (b := if x1' < 8 then rn m_X6_sliceOf 19 [.ref a0, .int (mI x1)] [.int (mI 0)] h else rn m_X6_sliceOf 19 [.ref a0, .int (mI x1)] [.int (mI 1)] h) (ite_congr rfl (fun c2 => ?_) (fun c2 => ?_)) ?_
    · refine (tq_iconst i_X6_sliceOf_18 rfl).trans ?_
      rfl
    · refine (tq_iconst i_X6_sliceOf_14 rfl).trans ?_
      refine (tq_goto (pc' := 19) i_X6_sliceOf_15 (by decide)).trans ?_
      rfl
    exact ite_b01
  refine Eq.trans ite_b0p ?_
  exact tq_ireturn i_X6_sliceOf_19 r_X6_sliceOf rfl
theorem i_X6_useSettings_0 : am_i m_X6_useSettings 0 = some (0, .aload_n 0, 1, [], 0) := rfl
theorem i_X6_useSettings_1 : am_i m_X6_useSettings 1 = some (1, .iload_n 1, 1, [], 0) := rfl
theorem i_X6_useSettings_2 : am_i m_X6_useSettings 2 = some (2, .putfield 22, 3, [6, 3, 0], 0) := rfl
theorem i_X6_useSettings_5 : am_i m_X6_useSettings 5 = some (5, .aload_n 0, 1, [], 0) := rfl
theorem i_X6_useSettings_6 : am_i m_X6_useSettings 6 = some (6, .iload_n 2, 1, [], 0) := rfl
theorem i_X6_useSettings_7 : am_i m_X6_useSettings 7 = some (7, .putfield 25, 3, [6, 4, 0], 0) := rfl
theorem i_X6_useSettings_10 : am_i m_X6_useSettings 10 = some (10, .aload_n 0, 1, [], 0) := rfl
theorem i_X6_useSettings_11 : am_i m_X6_useSettings 11 = some (11, .iload_n 3, 1, [], 0) := rfl
theorem i_X6_useSettings_12 : am_i m_X6_useSettings 12 = some (12, .putfield 28, 3, [6, 5, 0], 0) := rfl
theorem i_X6_useSettings_15 : am_i m_X6_useSettings 15 = some (15, .aload_n 0, 1, [], 0) := rfl
theorem i_X6_useSettings_16 : am_i m_X6_useSettings 16 = some (16, .iload 4, 2, [], 0) := rfl
theorem i_X6_useSettings_18 : am_i m_X6_useSettings 18 = some (18, .putfield 31, 3, [6, 6, 0], 0) := rfl
theorem i_X6_useSettings_21 : am_i m_X6_useSettings 21 = some (21, .return_, 1, [], 0) := rfl
theorem b_X6_useSettings_0 {a0 : Nat} {x1 x2 x3 x4 x4' : Int} {h : am_H} (w4 : wr x4 = x4') (k1 : K6 h a0) (g2 : x4' = 0 ∨ x4' = 1) : rn m_X6_useSettings 0 [.ref a0, .int (mI x1), .int (mI x2), .int (mI x3), .int (mI x4)] [] h = some (.inl none, uF 6 (uF 6 (uF 6 (uF 6 h a0 3 (.int (mI x1))) a0 4 (.int (mI x2))) a0 5 (.int (mI x3))) a0 6 (.int (mI x4))) := by
  refine (tq_aload_n i_X6_useSettings_0 rfl (isA_ref _) rfl).trans ?_
  refine (tq_iload_n i_X6_useSettings_1 rfl rfl).trans ?_
  refine (tq_putfield i_X6_useSettings_2 (K6_s k1) (okf_6_3 _) rfl).trans ?_
  refine (tq_aload_n i_X6_useSettings_5 rfl (isA_ref _) rfl).trans ?_
  refine (tq_iload_n i_X6_useSettings_6 rfl rfl).trans ?_
  refine (tq_putfield i_X6_useSettings_7 ((sh_uF _ _ _ _ _ _).trans (K6_s k1)) (okf_6_4 _) rfl).trans ?_
  refine (tq_aload_n i_X6_useSettings_10 rfl (isA_ref _) rfl).trans ?_
  refine (tq_iload_n i_X6_useSettings_11 rfl rfl).trans ?_
  refine (tq_putfield i_X6_useSettings_12 ((sh_uF _ _ _ _ _ _).trans ((sh_uF _ _ _ _ _ _).trans (K6_s k1))) (okf_6_5 _) rfl).trans ?_
  refine (tq_aload_n i_X6_useSettings_15 rfl (isA_ref _) rfl).trans ?_
  refine (tq_iload i_X6_useSettings_16 rfl rfl).trans ?_
  refine (tq_putfield i_X6_useSettings_18 ((sh_uF _ _ _ _ _ _).trans ((sh_uF _ _ _ _ _ _).trans ((sh_uF _ _ _ _ _ _).trans (K6_s k1)))) (okfB_6_6 w4 g2) rfl).trans ?_
  exact tq_return i_X6_useSettings_21 r_X6_useSettings
theorem i_X9_down_0 : am_i m_X9_down 0 = some (0, .iload_n 0, 1, [], 0) := rfl
theorem i_X9_down_1 : am_i m_X9_down 1 = some (1, .bipush 100, 2, [], 100) := rfl
theorem i_X9_down_3 : am_i m_X9_down 3 = some (3, .irem, 1, [], 0) := rfl
theorem i_X9_down_4 : am_i m_X9_down 4 = some (4, .bipush 8, 2, [], 8) := rfl
theorem i_X9_down_6 : am_i m_X9_down 6 = some (6, .isub, 1, [], 0) := rfl
theorem i_X9_down_7 : am_i m_X9_down 7 = some (7, .ireturn, 1, [], 0) := rfl
theorem b_X9_down_0 {x0 x0' : Int} {h : am_H} (w0 : wr x0 = x0') : rn m_X9_down 0 [.int (mI x0)] [] h = some (.inl (some (.int (mI ((Int.tmod x0' 100) - 8)))), h) := by
  refine (tq_iload_n i_X9_down_0 rfl rfl).trans ?_
  refine (tq_bipush i_X9_down_1 rfl).trans ?_
  refine (tq_irem i_X9_down_3 w0 w_100 (by decide) rfl).trans ?_
  refine (tq_bipush i_X9_down_4 rfl).trans ?_
  refine (tq_isub i_X9_down_6 rfl).trans ?_
  exact tq_ireturn i_X9_down_7 r_X9_down rfl
theorem i_X9_of_0 : am_i m_X9_of 0 = some (0, .bipush 100, 2, [], 100) := rfl
theorem i_X9_of_2 : am_i m_X9_of 2 = some (2, .iload_n 0, 1, [], 0) := rfl
theorem i_X9_of_3 : am_i m_X9_of 3 = some (3, .bipush 8, 2, [], 8) := rfl
theorem i_X9_of_5 : am_i m_X9_of 5 = some (5, .iadd, 1, [], 0) := rfl
theorem i_X9_of_6 : am_i m_X9_of 6 = some (6, .imul, 1, [], 0) := rfl
theorem i_X9_of_7 : am_i m_X9_of 7 = some (7, .iload_n 1, 1, [], 0) := rfl
theorem i_X9_of_8 : am_i m_X9_of 8 = some (8, .iadd, 1, [], 0) := rfl
theorem i_X9_of_9 : am_i m_X9_of 9 = some (9, .bipush 8, 2, [], 8) := rfl
theorem i_X9_of_11 : am_i m_X9_of 11 = some (11, .iadd, 1, [], 0) := rfl
theorem i_X9_of_12 : am_i m_X9_of 12 = some (12, .ireturn, 1, [], 0) := rfl
theorem b_X9_of_0 {x0 x1 : Int} {h : am_H} : rn m_X9_of 0 [.int (mI x0), .int (mI x1)] [] h = some (.inl (some (.int (mI (((100 * (x0 + 8)) + x1) + 8)))), h) := by
  refine (tq_bipush i_X9_of_0 rfl).trans ?_
  refine (tq_iload_n i_X9_of_2 rfl rfl).trans ?_
  refine (tq_bipush i_X9_of_3 rfl).trans ?_
  refine (tq_iadd i_X9_of_5 rfl).trans ?_
  refine (tq_imul i_X9_of_6 rfl).trans ?_
  refine (tq_iload_n i_X9_of_7 rfl rfl).trans ?_
  refine (tq_iadd i_X9_of_8 rfl).trans ?_
  refine (tq_bipush i_X9_of_9 rfl).trans ?_
  refine (tq_iadd i_X9_of_11 rfl).trans ?_
  exact tq_ireturn i_X9_of_12 r_X9_of rfl
theorem i_X9_right_0 : am_i m_X9_right 0 = some (0, .iload_n 0, 1, [], 0) := rfl
theorem i_X9_right_1 : am_i m_X9_right 1 = some (1, .bipush 100, 2, [], 100) := rfl
theorem i_X9_right_3 : am_i m_X9_right 3 = some (3, .idiv, 1, [], 0) := rfl
theorem i_X9_right_4 : am_i m_X9_right 4 = some (4, .bipush 8, 2, [], 8) := rfl
theorem i_X9_right_6 : am_i m_X9_right 6 = some (6, .isub, 1, [], 0) := rfl
theorem i_X9_right_7 : am_i m_X9_right 7 = some (7, .ireturn, 1, [], 0) := rfl
theorem b_X9_right_0 {x0 x0' : Int} {h : am_H} (w0 : wr x0 = x0') : rn m_X9_right 0 [.int (mI x0)] [] h = some (.inl (some (.int (mI ((Int.tdiv x0' 100) - 8)))), h) := by
  refine (tq_iload_n i_X9_right_0 rfl rfl).trans ?_
  refine (tq_bipush i_X9_right_1 rfl).trans ?_
  refine (tq_idiv i_X9_right_3 w0 w_100 (by decide) rfl).trans ?_
  refine (tq_bipush i_X9_right_4 rfl).trans ?_
  refine (tq_isub i_X9_right_6 rfl).trans ?_
  exact tq_ireturn i_X9_right_7 r_X9_right rfl
theorem i_X0_hasRoomFor_0 : am_i m_X0_hasRoomFor 0 = some (0, .aload_n 0, 1, [], 0) := rfl
theorem i_X0_hasRoomFor_1 : am_i m_X0_hasRoomFor 1 = some (1, .invokevirtual 21, 3, [3, 0], 0) := rfl
theorem i_X0_hasRoomFor_4 : am_i m_X0_hasRoomFor 4 = some (4, .ifCond .eq 15, 3, [], 0) := rfl
theorem i_X0_hasRoomFor_7 : am_i m_X0_hasRoomFor 7 = some (7, .aload_n 0, 1, [], 0) := rfl
theorem i_X0_hasRoomFor_8 : am_i m_X0_hasRoomFor 8 = some (8, .iload_n 1, 1, [], 0) := rfl
theorem i_X0_hasRoomFor_9 : am_i m_X0_hasRoomFor 9 = some (9, .invokevirtual 25, 3, [2, 0], 0) := rfl
theorem i_X0_hasRoomFor_12 : am_i m_X0_hasRoomFor 12 = some (12, .aload_n 0, 1, [], 0) := rfl
theorem i_X0_hasRoomFor_13 : am_i m_X0_hasRoomFor 13 = some (13, .getfield 9, 3, [0, 0, 0], 0) := rfl
theorem i_X0_hasRoomFor_16 : am_i m_X0_hasRoomFor 16 = some (16, .if_icmp .gt 7, 3, [], 0) := rfl
theorem i_X0_hasRoomFor_19 : am_i m_X0_hasRoomFor 19 = some (19, .iconst 1, 1, [], 1) := rfl
theorem i_X0_hasRoomFor_20 : am_i m_X0_hasRoomFor 20 = some (20, .goto 4, 3, [], 0) := rfl
theorem i_X0_hasRoomFor_23 : am_i m_X0_hasRoomFor 23 = some (23, .iconst 0, 1, [], 0) := rfl
theorem i_X0_hasRoomFor_24 : am_i m_X0_hasRoomFor 24 = some (24, .ireturn, 1, [], 0) := rfl
theorem b_X0_hasRoomFor_0 {a0 : Nat} {x1 : Int} {h : am_H} (k1 : K0 h a0) : rn m_X0_hasRoomFor 0 [.ref a0, .int (mI x1)] [] h = some (.inl (some (.int (mI (bZ (¬ (¬ ((fZ h a0 0) ≤ 0)) ∨ (¬ ((fZ h a0 0) < (wr ((if (fZ h a0 2) ≤ (fZ h a0 1) then 0 else (fZ h a0 2) - (fZ h a0 1)) + x1))))))))), h) := by
  refine (tq_aload_n i_X0_hasRoomFor_0 rfl (isA_ref _) rfl).trans ?_
  refine (c_X0_isThere i_X0_hasRoomFor_1 (K0_s k1) (ltd d_X0_hasRoomFor (by decide)) stOk_0 rfl).trans ?_
  refine (congrArg (cl _ _ _ _) (b_X0_isThere_0 k1)).trans ?_
  refine (cl_v _ _ _ _ _ _).trans ?_
  refine (tq_ifb_eq (pt := 19) i_X0_hasRoomFor_4 (by decide) rfl).trans ?_
  refine Eq.trans (b := if (¬ ((fZ h a0 0) ≤ 0)) then rn m_X0_hasRoomFor 24 [.ref a0, .int (mI x1)] [.int (mI (bZ (¬ ((fZ h a0 0) < (wr ((if (fZ h a0 2) ≤ (fZ h a0 1) then 0 else (fZ h a0 2) - (fZ h a0 1)) + x1))))))] h else rn m_X0_hasRoomFor 24 [.ref a0, .int (mI x1)] [.int (mI 1)] h) (ite_congr rfl (fun c1 => ?_) (fun c1 => ?_)) ?_
  · refine (tq_aload_n i_X0_hasRoomFor_7 rfl (isA_ref _) rfl).trans ?_
    refine (tq_iload_n i_X0_hasRoomFor_8 rfl rfl).trans ?_
    refine (c_X0_filledWith i_X0_hasRoomFor_9 (K0_s k1) (ltd d_X0_hasRoomFor (by decide)) stOk_0 rfl).trans ?_
    refine (congrArg (cl _ _ _ _) (b_X0_filledWith_0 k1)).trans ?_
    refine (cl_v _ _ _ _ _ _).trans ?_
    refine (tq_aload_n i_X0_hasRoomFor_12 rfl (isA_ref _) rfl).trans ?_
    refine (tq_getfield i_X0_hasRoomFor_13 (K0_s k1) (g_0_0 (K0_s k1)) (isV_I _) rfl).trans ?_
    refine (tq_icmp_gt (pt := 23) i_X0_hasRoomFor_16 rfl (wr_fZ _ _ _) (by decide) rfl).trans ?_
    refine Eq.trans (b := if (fZ h a0 0) < (wr ((if (fZ h a0 2) ≤ (fZ h a0 1) then 0 else (fZ h a0 2) - (fZ h a0 1)) + x1)) then rn m_X0_hasRoomFor 24 [.ref a0, .int (mI x1)] [.int (mI 0)] h else rn m_X0_hasRoomFor 24 [.ref a0, .int (mI x1)] [.int (mI 1)] h) (ite_congr rfl (fun c2 => ?_) (fun c2 => ?_)) ?_
    · refine (tq_iconst i_X0_hasRoomFor_23 rfl).trans ?_
      rfl
    · refine (tq_iconst i_X0_hasRoomFor_19 rfl).trans ?_
      refine (tq_goto (pc' := 24) i_X0_hasRoomFor_20 (by decide)).trans ?_
      rfl
    exact ite_b01
  · refine (tq_iconst i_X0_hasRoomFor_19 rfl).trans ?_
    refine (tq_goto (pc' := 24) i_X0_hasRoomFor_20 (by decide)).trans ?_
    rfl
  refine Eq.trans ite_bp1 ?_
  exact tq_ireturn i_X0_hasRoomFor_24 r_X0_hasRoomFor (okB (wr_bZ _) (bZ_01 _))
theorem i_X6_modeCount_0 : am_i m_X6_modeCount 0 = some (0, .aload_n 0, 1, [], 0) := rfl
theorem i_X6_modeCount_1 : am_i m_X6_modeCount 1 = some (1, .invokevirtual 70, 3, [28, 6], 0) := rfl
theorem i_X6_modeCount_4 : am_i m_X6_modeCount 4 = some (4, .ifCond .eq 8, 3, [], 0) := rfl
theorem i_X6_modeCount_7 : am_i m_X6_modeCount 7 = some (7, .bipush 7, 2, [], 7) := rfl
theorem i_X6_modeCount_9 : am_i m_X6_modeCount 9 = some (9, .goto 15, 3, [], 0) := rfl
theorem i_X6_modeCount_12 : am_i m_X6_modeCount 12 = some (12, .aload_n 0, 1, [], 0) := rfl
theorem i_X6_modeCount_13 : am_i m_X6_modeCount 13 = some (13, .invokevirtual 74, 3, [27, 6], 0) := rfl
theorem i_X6_modeCount_16 : am_i m_X6_modeCount 16 = some (16, .ifCond .eq 7, 3, [], 0) := rfl
theorem i_X6_modeCount_19 : am_i m_X6_modeCount 19 = some (19, .iconst 5, 1, [], 5) := rfl
theorem i_X6_modeCount_20 : am_i m_X6_modeCount 20 = some (20, .goto 4, 3, [], 0) := rfl
theorem i_X6_modeCount_23 : am_i m_X6_modeCount 23 = some (23, .iconst 4, 1, [], 4) := rfl
theorem i_X6_modeCount_24 : am_i m_X6_modeCount 24 = some (24, .ireturn, 1, [], 0) := rfl
theorem b_X6_modeCount_0 {a0 : Nat} {h : am_H} (k1 : K6 h a0) : rn m_X6_modeCount 0 [.ref a0] [] h = some (.inl (some (.int (mI (if (¬ (¬ (fZ h a0 0) = 98)) then 7 else (if (¬ ((fZ h a0 0) = 105)) then 5 else 4))))), h) := by
  refine (tq_aload_n i_X6_modeCount_0 rfl (isA_ref _) rfl).trans ?_
  refine (c_X6_leansOnSecond i_X6_modeCount_1 (K6_s k1) (ltd d_X6_modeCount (by decide)) stOk_0 rfl).trans ?_
  refine (congrArg (cl _ _ _ _) (b_X6_leansOnSecond_0 k1)).trans ?_
  refine (cl_v _ _ _ _ _ _).trans ?_
  refine (tq_ifb_eq (pt := 12) i_X6_modeCount_4 (by decide) rfl).trans ?_
  refine Eq.trans (b := if (¬ (¬ (fZ h a0 0) = 98)) then rn m_X6_modeCount 24 [.ref a0] [.int (mI 7)] h else rn m_X6_modeCount 24 [.ref a0] [.int (mI (if (¬ ((fZ h a0 0) = 105)) then 5 else 4))] h) (ite_congr rfl (fun c1 => ?_) (fun c1 => ?_)) ?_
  · refine (tq_bipush i_X6_modeCount_7 rfl).trans ?_
    refine (tq_goto (pc' := 24) i_X6_modeCount_9 (by decide)).trans ?_
    rfl
  · refine (tq_aload_n i_X6_modeCount_12 rfl (isA_ref _) rfl).trans ?_
    refine (c_X6_leansOnFirst i_X6_modeCount_13 (K6_s k1) (ltd d_X6_modeCount (by decide)) stOk_0 rfl).trans ?_
    refine (congrArg (cl _ _ _ _) (b_X6_leansOnFirst_0 k1)).trans ?_
    refine (cl_v _ _ _ _ _ _).trans ?_
    refine (tq_ifb_eq (pt := 23) i_X6_modeCount_16 (by decide) rfl).trans ?_
    refine Eq.trans (b := if (¬ ((fZ h a0 0) = 105)) then rn m_X6_modeCount 24 [.ref a0] [.int (mI 5)] h else rn m_X6_modeCount 24 [.ref a0] [.int (mI 4)] h) (ite_congr rfl (fun c2 => ?_) (fun c2 => ?_)) ?_
    · refine (tq_iconst i_X6_modeCount_19 rfl).trans ?_
      refine (tq_goto (pc' := 24) i_X6_modeCount_20 (by decide)).trans ?_
      rfl
    · refine (tq_iconst i_X6_modeCount_23 rfl).trans ?_
      rfl
    exact ite_I
  refine Eq.trans ite_I ?_
  exact tq_ireturn i_X6_modeCount_24 r_X6_modeCount rfl
theorem i_X6_topOf_0 : am_i m_X6_topOf 0 = some (0, .bipush 8, 2, [], 8) := rfl
theorem i_X6_topOf_2 : am_i m_X6_topOf 2 = some (2, .aload_n 0, 1, [], 0) := rfl
theorem i_X6_topOf_3 : am_i m_X6_topOf 3 = some (3, .iload_n 1, 1, [], 0) := rfl
theorem i_X6_topOf_4 : am_i m_X6_topOf 4 = some (4, .invokevirtual 77, 3, [29, 6], 0) := rfl
theorem i_X6_topOf_7 : am_i m_X6_topOf 7 = some (7, .imul, 1, [], 0) := rfl
theorem i_X6_topOf_8 : am_i m_X6_topOf 8 = some (8, .ireturn, 1, [], 0) := rfl
theorem b_X6_topOf_0 {a0 : Nat} {x1 x1' : Int} {h : am_H} (w1 : wr x1 = x1') (k1 : K6 h a0) : rn m_X6_topOf 0 [.ref a0, .int (mI x1)] [] h = some (.inl (some (.int (mI (8 * (bZ (¬ ((fZ h a0 5) ≤ 1) ∧ (¬ (x1' < 8)))))))), h) := by
  refine (tq_bipush i_X6_topOf_0 rfl).trans ?_
  refine (tq_aload_n i_X6_topOf_2 rfl (isA_ref _) rfl).trans ?_
  refine (tq_iload_n i_X6_topOf_3 rfl rfl).trans ?_
  refine (c_X6_sliceOf i_X6_topOf_4 (K6_s k1) (ltd d_X6_topOf (by decide)) (stOk_1 _) rfl).trans ?_
  refine (congrArg (cl _ _ _ _) (b_X6_sliceOf_0 w1 k1)).trans ?_
  refine (cl_v _ _ _ _ _ _).trans ?_
  refine (tq_imul i_X6_topOf_7 rfl).trans ?_
  exact tq_ireturn i_X6_topOf_8 r_X6_topOf rfl
theorem i_X9_length_0 : am_i m_X9_length 0 = some (0, .iload_n 0, 1, [], 0) := rfl
theorem i_X9_length_1 : am_i m_X9_length 1 = some (1, .invokestatic 9, 3, [39], 0) := rfl
theorem i_X9_length_4 : am_i m_X9_length 4 = some (4, .invokestatic 15, 3, [0, 0], 0) := rfl
theorem i_X9_length_7 : am_i m_X9_length 7 = some (7, .iload_n 0, 1, [], 0) := rfl
theorem i_X9_length_8 : am_i m_X9_length 8 = some (8, .invokestatic 20, 3, [37], 0) := rfl
theorem i_X9_length_11 : am_i m_X9_length 11 = some (11, .invokestatic 15, 3, [0, 0], 0) := rfl
theorem i_X9_length_14 : am_i m_X9_length 14 = some (14, .iadd, 1, [], 0) := rfl
theorem i_X9_length_15 : am_i m_X9_length 15 = some (15, .ireturn, 1, [], 0) := rfl
theorem b_X9_length_0 {x0 x0' : Int} {h : am_H} (w0 : wr x0 = x0') : rn m_X9_length 0 [.int (mI x0)] [] h = some (.inl (some (.int (mI ((max (wr ((Int.tdiv x0' 100) - 8)) (-(wr ((Int.tdiv x0' 100) - 8)))) + (max (wr ((Int.tmod x0' 100) - 8)) (-(wr ((Int.tmod x0' 100) - 8)))))))), h) := by
  refine (tq_iload_n i_X9_length_0 rfl rfl).trans ?_
  refine (c_X9_right i_X9_length_1 (ltd d_X9_length (by decide)) stOk_0 rfl).trans ?_
  refine (congrArg (cl _ _ _ _) (b_X9_right_0 w0)).trans ?_
  refine (cl_v _ _ _ _ _ _).trans ?_
  refine (tq_abs i_X9_length_4 rfl (Nat.le_of_ble_eq_true rfl) rfl).trans ?_
  refine (tq_iload_n i_X9_length_7 rfl rfl).trans ?_
  refine (c_X9_down i_X9_length_8 (ltd d_X9_length (by decide)) (stOk_1 _) rfl).trans ?_
  refine (congrArg (cl _ _ _ _) (b_X9_down_0 w0)).trans ?_
  refine (cl_v _ _ _ _ _ _).trans ?_
  refine (tq_abs i_X9_length_11 rfl (Nat.le_of_ble_eq_true rfl) rfl).trans ?_
  refine (tq_iadd i_X9_length_14 rfl).trans ?_
  exact tq_ireturn i_X9_length_15 r_X9_length rfl
theorem i_X5_extraCost_0 : am_i m_X5_extraCost 0 = some (0, .aload_n 0, 1, [], 0) := rfl
theorem i_X5_extraCost_1 : am_i m_X5_extraCost 1 = some (1, .invokevirtual 33, 3, [20, 5], 0) := rfl
theorem i_X5_extraCost_4 : am_i m_X5_extraCost 4 = some (4, .ifCond .eq 12, 3, [], 0) := rfl
theorem i_X5_extraCost_7 : am_i m_X5_extraCost 7 = some (7, .iconst 2, 1, [], 2) := rfl
theorem i_X5_extraCost_8 : am_i m_X5_extraCost 8 = some (8, .aload_n 0, 1, [], 0) := rfl
theorem i_X5_extraCost_9 : am_i m_X5_extraCost 9 = some (9, .getfield 24, 3, [5, 4, 0], 0) := rfl
theorem i_X5_extraCost_12 : am_i m_X5_extraCost 12 = some (12, .imul, 1, [], 0) := rfl
theorem i_X5_extraCost_13 : am_i m_X5_extraCost 13 = some (13, .goto 4, 3, [], 0) := rfl
theorem i_X5_extraCost_16 : am_i m_X5_extraCost 16 = some (16, .iconst 0, 1, [], 0) := rfl
theorem i_X5_extraCost_17 : am_i m_X5_extraCost 17 = some (17, .istore_n 1, 1, [], 0) := rfl
theorem i_X5_extraCost_18 : am_i m_X5_extraCost 18 = some (18, .iload_n 1, 1, [], 0) := rfl
theorem i_X5_extraCost_19 : am_i m_X5_extraCost 19 = some (19, .aload_n 0, 1, [], 0) := rfl
theorem i_X5_extraCost_20 : am_i m_X5_extraCost 20 = some (20, .invokevirtual 37, 3, [22, 5], 0) := rfl
theorem i_X5_extraCost_23 : am_i m_X5_extraCost 23 = some (23, .ifCond .eq 13, 3, [], 0) := rfl
theorem i_X5_extraCost_26 : am_i m_X5_extraCost 26 = some (26, .aload_n 0, 1, [], 0) := rfl
theorem i_X5_extraCost_27 : am_i m_X5_extraCost 27 = some (27, .getfield 27, 3, [5, 5, 0], 0) := rfl
theorem i_X5_extraCost_30 : am_i m_X5_extraCost 30 = some (30, .invokestatic 40, 3, [71], 0) := rfl
theorem i_X5_extraCost_33 : am_i m_X5_extraCost 33 = some (33, .goto 4, 3, [], 0) := rfl
theorem i_X5_extraCost_36 : am_i m_X5_extraCost 36 = some (36, .iconst 0, 1, [], 0) := rfl
theorem i_X5_extraCost_37 : am_i m_X5_extraCost 37 = some (37, .iadd, 1, [], 0) := rfl
theorem i_X5_extraCost_38 : am_i m_X5_extraCost 38 = some (38, .istore_n 1, 1, [], 0) := rfl
theorem i_X5_extraCost_39 : am_i m_X5_extraCost 39 = some (39, .iload_n 1, 1, [], 0) := rfl
theorem i_X5_extraCost_40 : am_i m_X5_extraCost 40 = some (40, .aload_n 0, 1, [], 0) := rfl
theorem i_X5_extraCost_41 : am_i m_X5_extraCost 41 = some (41, .invokevirtual 46, 3, [23, 5], 0) := rfl
theorem i_X5_extraCost_44 : am_i m_X5_extraCost 44 = some (44, .ifCond .eq 13, 3, [], 0) := rfl
theorem i_X5_extraCost_47 : am_i m_X5_extraCost 47 = some (47, .aload_n 0, 1, [], 0) := rfl
theorem i_X5_extraCost_48 : am_i m_X5_extraCost 48 = some (48, .getfield 30, 3, [5, 6, 0], 0) := rfl
theorem i_X5_extraCost_51 : am_i m_X5_extraCost 51 = some (51, .invokestatic 40, 3, [71], 0) := rfl
theorem i_X5_extraCost_54 : am_i m_X5_extraCost 54 = some (54, .goto 4, 3, [], 0) := rfl
theorem i_X5_extraCost_57 : am_i m_X5_extraCost 57 = some (57, .iconst 0, 1, [], 0) := rfl
theorem i_X5_extraCost_58 : am_i m_X5_extraCost 58 = some (58, .iadd, 1, [], 0) := rfl
theorem i_X5_extraCost_59 : am_i m_X5_extraCost 59 = some (59, .istore_n 1, 1, [], 0) := rfl
theorem i_X5_extraCost_60 : am_i m_X5_extraCost 60 = some (60, .iload_n 1, 1, [], 0) := rfl
theorem i_X5_extraCost_61 : am_i m_X5_extraCost 61 = some (61, .ireturn, 1, [], 0) := rfl
theorem b_X5_extraCost_0 {a0 : Nat} {h : am_H} (k1 : K5 h a0) : rn m_X5_extraCost 0 [.ref a0, am_J] [] h = some (.inl (some (.int (mI (((if (¬ (4 ≤ (fZ h a0 4))) then 2 * (fZ h a0 4) else 0) + (if (((fZ h a0 4) = 4) ∨ (¬ (¬ (fZ h a0 4) = 6))) then (max (wr ((Int.tdiv (fZ h a0 5) 100) - 8)) (-(wr ((Int.tdiv (fZ h a0 5) 100) - 8)))) + (max (wr ((Int.tmod (fZ h a0 5) 100) - 8)) (-(wr ((Int.tmod (fZ h a0 5) 100) - 8)))) else 0)) + (if (((fZ h a0 4) = 5) ∨ (¬ (¬ (fZ h a0 4) = 6))) then (max (wr ((Int.tdiv (fZ h a0 6) 100) - 8)) (-(wr ((Int.tdiv (fZ h a0 6) 100) - 8)))) + (max (wr ((Int.tmod (fZ h a0 6) 100) - 8)) (-(wr ((Int.tmod (fZ h a0 6) 100) - 8)))) else 0))))), h) := by
  refine (tq_aload_n i_X5_extraCost_0 rfl (isA_ref _) rfl).trans ?_
  refine (c_X5_isOfBorder i_X5_extraCost_1 (K5_s k1) (ltd d_X5_extraCost (by decide)) stOk_0 rfl).trans ?_
  refine (congrArg (cl _ _ _ _) (b_X5_isOfBorder_0 k1)).trans ?_
  refine (cl_v _ _ _ _ _ _).trans ?_
  refine (tq_ifb_eq (pt := 16) i_X5_extraCost_4 (by decide) rfl).trans ?_
  refine Eq.trans (b := if (¬ (4 ≤ (fZ h a0 4))) then rn m_X5_extraCost 17 [.ref a0, am_J] [.int (mI (2 * (fZ h a0 4)))] h else rn m_X5_extraCost 17 [.ref a0, am_J] [.int (mI 0)] h) (ite_congr rfl (fun c1 => ?_) (fun c1 => ?_)) ?_
  · refine (tq_iconst i_X5_extraCost_7 rfl).trans ?_
    refine (tq_aload_n i_X5_extraCost_8 rfl (isA_ref _) rfl).trans ?_
    refine (tq_getfield i_X5_extraCost_9 (K5_s k1) (g_5_4 (K5_s k1)) (isV_I _) rfl).trans ?_
    refine (tq_imul i_X5_extraCost_12 rfl).trans ?_
    refine (tq_goto (pc' := 17) i_X5_extraCost_13 (by decide)).trans ?_
    rfl
  · refine (tq_iconst i_X5_extraCost_16 rfl).trans ?_
    rfl
  refine Eq.trans ite_I ?_
  refine (tq_istore_n (L' := [.ref a0, .int (mI (if (¬ (4 ≤ (fZ h a0 4))) then 2 * (fZ h a0 4) else 0))]) i_X5_extraCost_17 rfl rfl).trans ?_
  refine (tq_iload_n i_X5_extraCost_18 rfl rfl).trans ?_
  refine (tq_aload_n i_X5_extraCost_19 rfl (isA_ref _) rfl).trans ?_
  refine (c_X5_usesFirst i_X5_extraCost_20 (K5_s k1) (ltd d_X5_extraCost (by decide)) (stOk_1 _) rfl).trans ?_
  refine (congrArg (cl _ _ _ _) (b_X5_usesFirst_0 k1)).trans ?_
  refine (cl_v _ _ _ _ _ _).trans ?_
  refine (tq_ifb_eq (pt := 36) i_X5_extraCost_23 (by decide) rfl).trans ?_
  refine Eq.trans (b := if (((fZ h a0 4) = 4) ∨ (¬ (¬ (fZ h a0 4) = 6))) then rn m_X5_extraCost 37 [.ref a0, .int (mI (if (¬ (4 ≤ (fZ h a0 4))) then 2 * (fZ h a0 4) else 0))] [.int (mI ((max (wr ((Int.tdiv (fZ h a0 5) 100) - 8)) (-(wr ((Int.tdiv (fZ h a0 5) 100) - 8)))) + (max (wr ((Int.tmod (fZ h a0 5) 100) - 8)) (-(wr ((Int.tmod (fZ h a0 5) 100) - 8)))))), .int (mI (if (¬ (4 ≤ (fZ h a0 4))) then 2 * (fZ h a0 4) else 0))] h else rn m_X5_extraCost 37 [.ref a0, .int (mI (if (¬ (4 ≤ (fZ h a0 4))) then 2 * (fZ h a0 4) else 0))] [.int (mI 0), .int (mI (if (¬ (4 ≤ (fZ h a0 4))) then 2 * (fZ h a0 4) else 0))] h) (ite_congr rfl (fun c2 => ?_) (fun c2 => ?_)) ?_
  · refine (tq_aload_n i_X5_extraCost_26 rfl (isA_ref _) rfl).trans ?_
    refine (tq_getfield i_X5_extraCost_27 (K5_s k1) (g_5_5 (K5_s k1)) (isV_I _) rfl).trans ?_
    refine (c_X9_length i_X5_extraCost_30 (ltd d_X5_extraCost (by decide)) (stOk_1 _) rfl).trans ?_
    refine (congrArg (cl _ _ _ _) (b_X9_length_0 (wr_fZ _ _ _))).trans ?_
    refine (cl_v _ _ _ _ _ _).trans ?_
    refine (tq_goto (pc' := 37) i_X5_extraCost_33 (by decide)).trans ?_
    rfl
  · refine (tq_iconst i_X5_extraCost_36 rfl).trans ?_
    rfl
  refine Eq.trans ite_I ?_
  refine (tq_iadd i_X5_extraCost_37 rfl).trans ?_
  refine (tq_istore_n (L' := [.ref a0, .int (mI ((if (¬ (4 ≤ (fZ h a0 4))) then 2 * (fZ h a0 4) else 0) + (if (((fZ h a0 4) = 4) ∨ (¬ (¬ (fZ h a0 4) = 6))) then (max (wr ((Int.tdiv (fZ h a0 5) 100) - 8)) (-(wr ((Int.tdiv (fZ h a0 5) 100) - 8)))) + (max (wr ((Int.tmod (fZ h a0 5) 100) - 8)) (-(wr ((Int.tmod (fZ h a0 5) 100) - 8)))) else 0)))]) i_X5_extraCost_38 rfl rfl).trans ?_
  refine (tq_iload_n i_X5_extraCost_39 rfl rfl).trans ?_
  refine (tq_aload_n i_X5_extraCost_40 rfl (isA_ref _) rfl).trans ?_
  refine (c_X5_usesSecond i_X5_extraCost_41 (K5_s k1) (ltd d_X5_extraCost (by decide)) (stOk_1 _) rfl).trans ?_
  refine (congrArg (cl _ _ _ _) (b_X5_usesSecond_0 k1)).trans ?_
  refine (cl_v _ _ _ _ _ _).trans ?_
  refine (tq_ifb_eq (pt := 57) i_X5_extraCost_44 (by decide) rfl).trans ?_
  refine Eq.trans (b := if (((fZ h a0 4) = 5) ∨ (¬ (¬ (fZ h a0 4) = 6))) then rn m_X5_extraCost 58 [.ref a0, .int (mI ((if (¬ (4 ≤ (fZ h a0 4))) then 2 * (fZ h a0 4) else 0) + (if (((fZ h a0 4) = 4) ∨ (¬ (¬ (fZ h a0 4) = 6))) then (max (wr ((Int.tdiv (fZ h a0 5) 100) - 8)) (-(wr ((Int.tdiv (fZ h a0 5) 100) - 8)))) + (max (wr ((Int.tmod (fZ h a0 5) 100) - 8)) (-(wr ((Int.tmod (fZ h a0 5) 100) - 8)))) else 0)))] [.int (mI ((max (wr ((Int.tdiv (fZ h a0 6) 100) - 8)) (-(wr ((Int.tdiv (fZ h a0 6) 100) - 8)))) + (max (wr ((Int.tmod (fZ h a0 6) 100) - 8)) (-(wr ((Int.tmod (fZ h a0 6) 100) - 8)))))), .int (mI ((if (¬ (4 ≤ (fZ h a0 4))) then 2 * (fZ h a0 4) else 0) + (if (((fZ h a0 4) = 4) ∨ (¬ (¬ (fZ h a0 4) = 6))) then (max (wr ((Int.tdiv (fZ h a0 5) 100) - 8)) (-(wr ((Int.tdiv (fZ h a0 5) 100) - 8)))) + (max (wr ((Int.tmod (fZ h a0 5) 100) - 8)) (-(wr ((Int.tmod (fZ h a0 5) 100) - 8)))) else 0)))] h else rn m_X5_extraCost 58 [.ref a0, .int (mI ((if (¬ (4 ≤ (fZ h a0 4))) then 2 * (fZ h a0 4) else 0) + (if (((fZ h a0 4) = 4) ∨ (¬ (¬ (fZ h a0 4) = 6))) then (max (wr ((Int.tdiv (fZ h a0 5) 100) - 8)) (-(wr ((Int.tdiv (fZ h a0 5) 100) - 8)))) + (max (wr ((Int.tmod (fZ h a0 5) 100) - 8)) (-(wr ((Int.tmod (fZ h a0 5) 100) - 8)))) else 0)))] [.int (mI 0), .int (mI ((if (¬ (4 ≤ (fZ h a0 4))) then 2 * (fZ h a0 4) else 0) + (if (((fZ h a0 4) = 4) ∨ (¬ (¬ (fZ h a0 4) = 6))) then (max (wr ((Int.tdiv (fZ h a0 5) 100) - 8)) (-(wr ((Int.tdiv (fZ h a0 5) 100) - 8)))) + (max (wr ((Int.tmod (fZ h a0 5) 100) - 8)) (-(wr ((Int.tmod (fZ h a0 5) 100) - 8)))) else 0)))] h) (ite_congr rfl (fun c3 => ?_) (fun c3 => ?_)) ?_
  · refine (tq_aload_n i_X5_extraCost_47 rfl (isA_ref _) rfl).trans ?_
    refine (tq_getfield i_X5_extraCost_48 (K5_s k1) (g_5_6 (K5_s k1)) (isV_I _) rfl).trans ?_
    refine (c_X9_length i_X5_extraCost_51 (ltd d_X5_extraCost (by decide)) (stOk_1 _) rfl).trans ?_
    refine (congrArg (cl _ _ _ _) (b_X9_length_0 (wr_fZ _ _ _))).trans ?_
    refine (cl_v _ _ _ _ _ _).trans ?_
    refine (tq_goto (pc' := 58) i_X5_extraCost_54 (by decide)).trans ?_
    rfl
  · refine (tq_iconst i_X5_extraCost_57 rfl).trans ?_
    rfl
  refine Eq.trans ite_I ?_
  refine (tq_iadd i_X5_extraCost_58 rfl).trans ?_
  refine (tq_istore_n (L' := [.ref a0, .int (mI (((if (¬ (4 ≤ (fZ h a0 4))) then 2 * (fZ h a0 4) else 0) + (if (((fZ h a0 4) = 4) ∨ (¬ (¬ (fZ h a0 4) = 6))) then (max (wr ((Int.tdiv (fZ h a0 5) 100) - 8)) (-(wr ((Int.tdiv (fZ h a0 5) 100) - 8)))) + (max (wr ((Int.tmod (fZ h a0 5) 100) - 8)) (-(wr ((Int.tmod (fZ h a0 5) 100) - 8)))) else 0)) + (if (((fZ h a0 4) = 5) ∨ (¬ (¬ (fZ h a0 4) = 6))) then (max (wr ((Int.tdiv (fZ h a0 6) 100) - 8)) (-(wr ((Int.tdiv (fZ h a0 6) 100) - 8)))) + (max (wr ((Int.tmod (fZ h a0 6) 100) - 8)) (-(wr ((Int.tmod (fZ h a0 6) 100) - 8)))) else 0)))]) i_X5_extraCost_59 rfl rfl).trans ?_
  refine (tq_iload_n i_X5_extraCost_60 rfl rfl).trans ?_
  exact tq_ireturn i_X5_extraCost_61 r_X5_extraCost rfl
