/-! ===== the model's coder ===== -/
theorem i_X12_begins_0 : am_i m_X12_begins 0 = some (0, .aload_n 0, 1, [], 0) := rfl
theorem i_X12_begins_1 : am_i m_X12_begins 1 = some (1, .ldc2_w 220, 3, [], 4294967295) := rfl
theorem i_X12_begins_4 : am_i m_X12_begins 4 = some (4, .putfield 222, 3, [10, 36, 0], 0) := rfl
theorem i_X12_begins_7 : am_i m_X12_begins 7 = some (7, .aload_n 0, 1, [], 0) := rfl
theorem i_X12_begins_8 : am_i m_X12_begins 8 = some (8, .iconst 0, 1, [], 0) := rfl
theorem i_X12_begins_9 : am_i m_X12_begins 9 = some (9, .putfield 226, 3, [10, 37, 0], 0) := rfl
theorem i_X12_begins_12 : am_i m_X12_begins 12 = some (12, .iconst 0, 1, [], 0) := rfl
theorem i_X12_begins_13 : am_i m_X12_begins 13 = some (13, .istore_n 1, 1, [], 0) := rfl
theorem b_X12_begins_0 {a0 : Nat} {h : am_H} (k1 : K10 h a0) : rn m_X12_begins 0 [.ref a0, am_J] [] h = rn m_X12_begins 14 [.ref a0, .int (mI 0)] [] (uF 10 (uF 10 h a0 36 (.long (mL 4294967295))) a0 37 (.int (mI 0))) := by
  refine (tq_aload_n i_X12_begins_0 rfl (isA_ref _) rfl).trans ?_
  refine (tq_ldc2_w i_X12_begins_1 rfl).trans ?_
  refine (tq_putfield i_X12_begins_4 (K10_s k1) (okf_10_36 _) rfl).trans ?_
  refine (tq_aload_n i_X12_begins_7 rfl (isA_ref _) rfl).trans ?_
  refine (tq_iconst i_X12_begins_8 rfl).trans ?_
  refine (tq_putfield i_X12_begins_9 ((sh_uF _ _ _ _ _ _).trans (K10_s k1)) (okf_10_37 _) rfl).trans ?_
  refine (tq_iconst i_X12_begins_12 rfl).trans ?_
  refine (tq_istore_n (L' := [.ref a0, .int (mI 0)]) i_X12_begins_13 rfl rfl).trans ?_
  rfl
theorem i_X12_begins_14 : am_i m_X12_begins 14 = some (14, .iload_n 1, 1, [], 0) := rfl
theorem i_X12_begins_15 : am_i m_X12_begins 15 = some (15, .aload_n 0, 1, [], 0) := rfl
theorem i_X12_begins_16 : am_i m_X12_begins 16 = some (16, .getfield 95, 3, [10, 35, 0], 0) := rfl
theorem i_X12_begins_19 : am_i m_X12_begins 19 = some (19, .arraylength, 1, [], 0) := rfl
theorem i_X12_begins_20 : am_i m_X12_begins 20 = some (20, .if_icmp .ge 18, 3, [], 0) := rfl
theorem i_X12_begins_23 : am_i m_X12_begins 23 = some (23, .aload_n 0, 1, [], 0) := rfl
theorem i_X12_begins_24 : am_i m_X12_begins 24 = some (24, .getfield 95, 3, [10, 35, 0], 0) := rfl
theorem i_X12_begins_27 : am_i m_X12_begins 27 = some (27, .iload_n 1, 1, [], 0) := rfl
theorem i_X12_begins_28 : am_i m_X12_begins 28 = some (28, .sipush 1024, 3, [], 1024) := rfl
theorem i_X12_begins_31 : am_i m_X12_begins 31 = some (31, .iastore, 1, [], 0) := rfl
theorem i_X12_begins_32 : am_i m_X12_begins 32 = some (32, .iinc 1 1, 3, [], 0) := rfl
theorem i_X12_begins_35 : am_i m_X12_begins 35 = some (35, .goto (-21), 3, [], 0) := rfl
theorem i_X12_begins_38 : am_i m_X12_begins 38 = some (38, .iconst 0, 1, [], 0) := rfl
theorem i_X12_begins_39 : am_i m_X12_begins 39 = some (39, .istore_n 1, 1, [], 0) := rfl
theorem b_X12_begins_14 {a0 : Nat} {x1 x1' : Int} {h : am_H} (w1 : wr x1 = x1') (k1 : K10 h a0) (g2 : (¬ ((80 : Int) ≤ x1')) → (0 ≤ x1' ∧ x1' < (80 : Int))) : rn m_X12_begins 14 [.ref a0, .int (mI x1)] [] h = if (80 : Int) ≤ x1' then rn m_X12_begins 40 [.ref a0, .int (mI 0)] [] h else rn m_X12_begins 14 [.ref a0, .int (mI (x1 + 1))] [] (uZ h (a0 + 19) x1' 1024) := by
  refine (tq_iload_n i_X12_begins_14 rfl rfl).trans ?_
  refine (tq_aload_n i_X12_begins_15 rfl (isA_ref _) rfl).trans ?_
  refine (tq_getfield i_X12_begins_16 (K10_s k1) (gR (g_10_35 (K10_s k1)) (K10_e35 k1)) (isV_ref _) rfl).trans ?_
  refine (tq_alen i_X12_begins_19 (K10_s35 k1) (by decide) (by decide) rfl).trans ?_
  rw [(K10_n35 k1)]
  refine (tq_icmp_ge (pt := 38) i_X12_begins_20 w1 (wr_len (K10_s35 k1) (K10_n35 k1) (by decide) (by decide)) (by decide) rfl).trans ?_
  refine ite_congr rfl (fun c1 => ?_) (fun c1 => ?_)
  · refine (tq_iconst i_X12_begins_38 rfl).trans ?_
    refine (tq_istore_n (L' := [.ref a0, .int (mI 0)]) i_X12_begins_39 rfl rfl).trans ?_
    rfl
  · refine (tq_aload_n i_X12_begins_23 rfl (isA_ref _) rfl).trans ?_
    refine (tq_getfield i_X12_begins_24 (K10_s k1) (gR (g_10_35 (K10_s k1)) (K10_e35 k1)) (isV_ref _) rfl).trans ?_
    refine (tq_iload_n i_X12_begins_27 rfl rfl).trans ?_
    refine (tq_sipush i_X12_begins_28 rfl).trans ?_
    refine (tq_iastore i_X12_begins_31 (K10_s35 k1) w1 (g2 c1).1 (lt_gn (K10_n35 k1) (g2 c1).2) rfl).trans ?_
    refine (tq_iinc (L' := [.ref a0, .int (mI (x1 + 1))]) i_X12_begins_32 rfl rfl rfl).trans ?_
    refine (tq_goto (pc' := 14) i_X12_begins_35 (by decide)).trans ?_
    rfl
theorem i_X12_begins_40 : am_i m_X12_begins 40 = some (40, .iload_n 1, 1, [], 0) := rfl
theorem i_X12_begins_41 : am_i m_X12_begins 41 = some (41, .iconst 4, 1, [], 4) := rfl
theorem i_X12_begins_42 : am_i m_X12_begins 42 = some (42, .if_icmp .ge 16, 3, [], 0) := rfl
theorem i_X12_begins_45 : am_i m_X12_begins 45 = some (45, .aload_n 0, 1, [], 0) := rfl
theorem i_X12_begins_46 : am_i m_X12_begins 46 = some (46, .getfield 92, 3, [10, 34, 0], 0) := rfl
theorem i_X12_begins_49 : am_i m_X12_begins 49 = some (49, .iload_n 1, 1, [], 0) := rfl
theorem i_X12_begins_50 : am_i m_X12_begins 50 = some (50, .iconst 0, 1, [], 0) := rfl
theorem i_X12_begins_51 : am_i m_X12_begins 51 = some (51, .iastore, 1, [], 0) := rfl
theorem i_X12_begins_52 : am_i m_X12_begins 52 = some (52, .iinc 1 1, 3, [], 0) := rfl
theorem i_X12_begins_55 : am_i m_X12_begins 55 = some (55, .goto (-15), 3, [], 0) := rfl
theorem i_X12_begins_58 : am_i m_X12_begins 58 = some (58, .return_, 1, [], 0) := rfl
theorem b_X12_begins_40 {a0 : Nat} {x1 x1' : Int} {h : am_H} (w1 : wr x1 = x1') (k1 : K10 h a0) (g2 : (¬ (4 ≤ x1')) → (0 ≤ x1' ∧ x1' < (8192 : Int))) : rn m_X12_begins 40 [.ref a0, .int (mI x1)] [] h = if 4 ≤ x1' then some (.inl none, h) else rn m_X12_begins 40 [.ref a0, .int (mI (x1 + 1))] [] (uZ h (a0 + 18) x1' 0) := by
  refine (tq_iload_n i_X12_begins_40 rfl rfl).trans ?_
  refine (tq_iconst i_X12_begins_41 rfl).trans ?_
  refine (tq_icmp_ge (pt := 58) i_X12_begins_42 w1 w_4 (by decide) rfl).trans ?_
  refine ite_congr rfl (fun c1 => ?_) (fun c1 => ?_)
  · exact tq_return i_X12_begins_58 r_X12_begins
  · refine (tq_aload_n i_X12_begins_45 rfl (isA_ref _) rfl).trans ?_
    refine (tq_getfield i_X12_begins_46 (K10_s k1) (gR (g_10_34 (K10_s k1)) (K10_e34 k1)) (isV_ref _) rfl).trans ?_
    refine (tq_iload_n i_X12_begins_49 rfl rfl).trans ?_
    refine (tq_iconst i_X12_begins_50 rfl).trans ?_
    refine (tq_iastore i_X12_begins_51 (K10_s34 k1) w1 (g2 c1).1 (lt_gn (K10_n34 k1) (g2 c1).2) rfl).trans ?_
    refine (tq_iinc (L' := [.ref a0, .int (mI (x1 + 1))]) i_X12_begins_52 rfl rfl rfl).trans ?_
    refine (tq_goto (pc' := 40) i_X12_begins_55 (by decide)).trans ?_
    rfl
theorem i_X12_adds_0 : am_i m_X12_adds 0 = some (0, .lload_n 1, 1, [], 0) := rfl
theorem i_X12_adds_1 : am_i m_X12_adds 1 = some (1, .lstore_n 3, 1, [], 0) := rfl
theorem i_X12_adds_2 : am_i m_X12_adds 2 = some (2, .aload_n 0, 1, [], 0) := rfl
theorem i_X12_adds_3 : am_i m_X12_adds 3 = some (3, .getfield 226, 3, [10, 37, 0], 0) := rfl
theorem i_X12_adds_6 : am_i m_X12_adds 6 = some (6, .iconst 3, 1, [], 3) := rfl
theorem i_X12_adds_7 : am_i m_X12_adds 7 = some (7, .iadd, 1, [], 0) := rfl
theorem i_X12_adds_8 : am_i m_X12_adds 8 = some (8, .istore 5, 2, [], 0) := rfl
theorem b_X12_adds_0 {a0 : Nat} {j1 : Int} {h : am_H} (k1 : K10 h a0) : rn m_X12_adds 0 [.ref a0, .long (mL j1), am_J, am_J, am_J, am_J] [] h = rn m_X12_adds 10 [.ref a0, .long (mL j1), am_J, .long (mL j1), am_J, .int (mI ((fZ h a0 37) + 3))] [] h := by
  refine (tq_lload_n i_X12_adds_0 rfl rfl).trans ?_
  refine (tq_lstore_n (L' := [.ref a0, .long (mL j1), am_J, .long (mL j1), am_J, am_J]) i_X12_adds_1 rfl rfl).trans ?_
  refine (tq_aload_n i_X12_adds_2 rfl (isA_ref _) rfl).trans ?_
  refine (tq_getfield i_X12_adds_3 (K10_s k1) (g_10_37 (K10_s k1)) (isV_I _) rfl).trans ?_
  refine (tq_iconst i_X12_adds_6 rfl).trans ?_
  refine (tq_iadd i_X12_adds_7 rfl).trans ?_
  refine (tq_istore (L' := [.ref a0, .long (mL j1), am_J, .long (mL j1), am_J, .int (mI ((fZ h a0 37) + 3))]) i_X12_adds_8 rfl rfl).trans ?_
  rfl
theorem i_X12_adds_10 : am_i m_X12_adds 10 = some (10, .iload 5, 2, [], 0) := rfl
theorem i_X12_adds_12 : am_i m_X12_adds 12 = some (12, .ifCond .lt 44, 3, [], 0) := rfl
theorem i_X12_adds_15 : am_i m_X12_adds 15 = some (15, .lload_n 3, 1, [], 0) := rfl
theorem i_X12_adds_16 : am_i m_X12_adds 16 = some (16, .lconst 0, 1, [], 0) := rfl
theorem i_X12_adds_17 : am_i m_X12_adds 17 = some (17, .lcmp, 1, [], 0) := rfl
theorem i_X12_adds_18 : am_i m_X12_adds 18 = some (18, .ifCond .le 38, 3, [], 0) := rfl
theorem i_X12_adds_21 : am_i m_X12_adds 21 = some (21, .lload_n 3, 1, [], 0) := rfl
theorem i_X12_adds_22 : am_i m_X12_adds 22 = some (22, .aload_n 0, 1, [], 0) := rfl
theorem i_X12_adds_23 : am_i m_X12_adds 23 = some (23, .getfield 92, 3, [10, 34, 0], 0) := rfl
theorem i_X12_adds_26 : am_i m_X12_adds 26 = some (26, .iload 5, 2, [], 0) := rfl
theorem i_X12_adds_28 : am_i m_X12_adds 28 = some (28, .iaload, 1, [], 0) := rfl
theorem i_X12_adds_29 : am_i m_X12_adds 29 = some (29, .i2l, 1, [], 0) := rfl
theorem i_X12_adds_30 : am_i m_X12_adds 30 = some (30, .ladd, 1, [], 0) := rfl
theorem i_X12_adds_31 : am_i m_X12_adds 31 = some (31, .lstore_n 3, 1, [], 0) := rfl
theorem i_X12_adds_32 : am_i m_X12_adds 32 = some (32, .aload_n 0, 1, [], 0) := rfl
theorem i_X12_adds_33 : am_i m_X12_adds 33 = some (33, .getfield 92, 3, [10, 34, 0], 0) := rfl
theorem i_X12_adds_36 : am_i m_X12_adds 36 = some (36, .iload 5, 2, [], 0) := rfl
theorem i_X12_adds_38 : am_i m_X12_adds 38 = some (38, .lload_n 3, 1, [], 0) := rfl
theorem i_X12_adds_39 : am_i m_X12_adds 39 = some (39, .ldc2_w 229, 3, [], 255) := rfl
theorem i_X12_adds_42 : am_i m_X12_adds 42 = some (42, .land, 1, [], 0) := rfl
theorem i_X12_adds_43 : am_i m_X12_adds 43 = some (43, .l2i, 1, [], 0) := rfl
theorem i_X12_adds_44 : am_i m_X12_adds 44 = some (44, .iastore, 1, [], 0) := rfl
theorem i_X12_adds_45 : am_i m_X12_adds 45 = some (45, .lload_n 3, 1, [], 0) := rfl
theorem i_X12_adds_46 : am_i m_X12_adds 46 = some (46, .bipush 8, 2, [], 8) := rfl
theorem i_X12_adds_48 : am_i m_X12_adds 48 = some (48, .lshr, 1, [], 0) := rfl
theorem i_X12_adds_49 : am_i m_X12_adds 49 = some (49, .lstore_n 3, 1, [], 0) := rfl
theorem i_X12_adds_50 : am_i m_X12_adds 50 = some (50, .iinc 5 (-1), 3, [], 0) := rfl
theorem i_X12_adds_53 : am_i m_X12_adds 53 = some (53, .goto (-43), 3, [], 0) := rfl
theorem i_X12_adds_56 : am_i m_X12_adds 56 = some (56, .return_, 1, [], 0) := rfl
theorem b_X12_adds_10 {a0 : Nat} {v1 v2 : Value} {j3 x5 j3' x5' : Int} {h : am_H} (w3 : wl j3 = j3') (w5 : wr x5 = x5') (k1 : K10 h a0) (g2 : (¬ (x5' < 0)) → (¬ (j3' ≤ 0)) → (0 ≤ x5' ∧ x5' < (8192 : Int))) : rn m_X12_adds 10 [.ref a0, v1, v2, .long (mL j3), am_J, .int (mI x5)] [] h = if x5' < 0 then some (.inl none, h) else if j3' ≤ 0 then some (.inl none, h) else rn m_X12_adds 10 [.ref a0, v1, (am_k1 (am_k1 v2)), .long (mL ((wl (j3 + (gZ h (a0 + 18) x5'))) / 2 ^ 8)), am_J, .int (mI (x5 + (-1)))] [] (uZ h (a0 + 18) x5' ((wl (j3 + (gZ h (a0 + 18) x5'))) % 2 ^ 8)) := by
  refine (tq_iload i_X12_adds_10 rfl rfl).trans ?_
  refine (tq_if_lt (pt := 56) i_X12_adds_12 w5 (by decide) rfl).trans ?_
  refine ite_congr rfl (fun c1 => ?_) (fun c1 => ?_)
  · exact tq_return i_X12_adds_56 r_X12_adds
  · refine (tq_lload_n i_X12_adds_15 rfl rfl).trans ?_
    refine (tq_lconst i_X12_adds_16 rfl).trans ?_
    refine (tq_lcmp_le (pt := 56) i_X12_adds_17 i_X12_adds_18 rfl w3 wl_0 (by decide) rfl).trans ?_
    refine ite_congr rfl (fun c2 => ?_) (fun c2 => ?_)
    · exact tq_return i_X12_adds_56 r_X12_adds
    · refine (tq_lload_n i_X12_adds_21 rfl rfl).trans ?_
      refine (tq_aload_n i_X12_adds_22 rfl (isA_ref _) rfl).trans ?_
      refine (tq_getfield i_X12_adds_23 (K10_s k1) (gR (g_10_34 (K10_s k1)) (K10_e34 k1)) (isV_ref _) rfl).trans ?_
      refine (tq_iload i_X12_adds_26 rfl rfl).trans ?_
      refine (tq_iaload i_X12_adds_28 (K10_s34 k1) (by decide) w5 (g2 c1 c2).1 (lt_gn (K10_n34 k1) (g2 c1 c2).2) rfl).trans ?_
      refine (tq_i2l i_X12_adds_29 (wr_gZ _ _ _) rfl).trans ?_
      refine (tq_ladd i_X12_adds_30 rfl).trans ?_
      refine (tq_lstore_n (L' := [.ref a0, v1, (am_k1 v2), .long (mL (j3 + (gZ h (a0 + 18) x5'))), am_J, .int (mI x5)]) i_X12_adds_31 rfl rfl).trans ?_
      refine (tq_aload_n i_X12_adds_32 rfl (isA_ref _) rfl).trans ?_
      refine (tq_getfield i_X12_adds_33 (K10_s k1) (gR (g_10_34 (K10_s k1)) (K10_e34 k1)) (isV_ref _) rfl).trans ?_
      refine (tq_iload i_X12_adds_36 rfl rfl).trans ?_
      refine (tq_lload_n i_X12_adds_38 rfl rfl).trans ?_
      refine (tq_ldc2_w i_X12_adds_39 rfl).trans ?_
      refine (tq_lmask 8 i_X12_adds_42 rfl (by decide) (by decide) rfl).trans ?_
      refine (tq_l2i i_X12_adds_43 rfl).trans ?_
      refine (tq_iastore i_X12_adds_44 (K10_s34 k1) w5 (g2 c1 c2).1 (lt_gn (K10_n34 k1) (g2 c1 c2).2) rfl).trans ?_
      refine (tq_lload_n i_X12_adds_45 rfl rfl).trans ?_
      refine (tq_bipush i_X12_adds_46 rfl).trans ?_
      refine (tq_lshr (k := 8) i_X12_adds_48 rfl w_8 (by decide) rfl).trans ?_
      refine (tq_lstore_n (L' := [.ref a0, v1, (am_k1 (am_k1 v2)), .long (mL ((wl (j3 + (gZ h (a0 + 18) x5'))) / 2 ^ 8)), am_J, .int (mI x5)]) i_X12_adds_49 rfl rfl).trans ?_
      refine (tq_iinc (L' := [.ref a0, v1, (am_k1 (am_k1 v2)), .long (mL ((wl (j3 + (gZ h (a0 + 18) x5'))) / 2 ^ 8)), am_J, .int (mI (x5 + (-1)))]) i_X12_adds_50 rfl rfl rfl).trans ?_
      refine (tq_goto (pc' := 10) i_X12_adds_53 (by decide)).trans ?_
      rfl
theorem i_X12_widens_0 : am_i m_X12_widens 0 = some (0, .aload_n 0, 1, [], 0) := rfl
theorem i_X12_widens_1 : am_i m_X12_widens 1 = some (1, .getfield 222, 3, [10, 36, 0], 0) := rfl
theorem i_X12_widens_4 : am_i m_X12_widens 4 = some (4, .ldc2_w 231, 3, [], 16777216) := rfl
theorem i_X12_widens_7 : am_i m_X12_widens 7 = some (7, .lcmp, 1, [], 0) := rfl
theorem i_X12_widens_8 : am_i m_X12_widens 8 = some (8, .ifCond .ge 40, 3, [], 0) := rfl
theorem i_X12_widens_11 : am_i m_X12_widens 11 = some (11, .aload_n 0, 1, [], 0) := rfl
theorem i_X12_widens_12 : am_i m_X12_widens 12 = some (12, .dup, 1, [], 0) := rfl
theorem i_X12_widens_13 : am_i m_X12_widens 13 = some (13, .getfield 222, 3, [10, 36, 0], 0) := rfl
theorem i_X12_widens_16 : am_i m_X12_widens 16 = some (16, .ldc2_w 233, 3, [], 256) := rfl
theorem i_X12_widens_19 : am_i m_X12_widens 19 = some (19, .lmul, 1, [], 0) := rfl
theorem i_X12_widens_20 : am_i m_X12_widens 20 = some (20, .putfield 222, 3, [10, 36, 0], 0) := rfl
theorem i_X12_widens_23 : am_i m_X12_widens 23 = some (23, .aload_n 0, 1, [], 0) := rfl
theorem i_X12_widens_24 : am_i m_X12_widens 24 = some (24, .getfield 92, 3, [10, 34, 0], 0) := rfl
theorem i_X12_widens_27 : am_i m_X12_widens 27 = some (27, .aload_n 0, 1, [], 0) := rfl
theorem i_X12_widens_28 : am_i m_X12_widens 28 = some (28, .getfield 226, 3, [10, 37, 0], 0) := rfl
theorem i_X12_widens_31 : am_i m_X12_widens 31 = some (31, .iconst 4, 1, [], 4) := rfl
theorem i_X12_widens_32 : am_i m_X12_widens 32 = some (32, .iadd, 1, [], 0) := rfl
theorem i_X12_widens_33 : am_i m_X12_widens 33 = some (33, .iconst 0, 1, [], 0) := rfl
theorem i_X12_widens_34 : am_i m_X12_widens 34 = some (34, .iastore, 1, [], 0) := rfl
theorem i_X12_widens_35 : am_i m_X12_widens 35 = some (35, .aload_n 0, 1, [], 0) := rfl
theorem i_X12_widens_36 : am_i m_X12_widens 36 = some (36, .dup, 1, [], 0) := rfl
theorem i_X12_widens_37 : am_i m_X12_widens 37 = some (37, .getfield 226, 3, [10, 37, 0], 0) := rfl
theorem i_X12_widens_40 : am_i m_X12_widens 40 = some (40, .iconst 1, 1, [], 1) := rfl
theorem i_X12_widens_41 : am_i m_X12_widens 41 = some (41, .iadd, 1, [], 0) := rfl
theorem i_X12_widens_42 : am_i m_X12_widens 42 = some (42, .putfield 226, 3, [10, 37, 0], 0) := rfl
theorem i_X12_widens_45 : am_i m_X12_widens 45 = some (45, .goto (-45), 3, [], 0) := rfl
theorem i_X12_widens_48 : am_i m_X12_widens 48 = some (48, .return_, 1, [], 0) := rfl
theorem b_X12_widens_0 {a0 : Nat} {h : am_H} (k1 : K10 h a0) (g2 : (¬ (16777216 ≤ (fJ h a0 36))) → (0 ≤ wr ((fZ h a0 37) + 4) ∧ wr ((fZ h a0 37) + 4) < (8192 : Int))) : rn m_X12_widens 0 [.ref a0] [] h = if 16777216 ≤ (fJ h a0 36) then some (.inl none, h) else rn m_X12_widens 0 [.ref a0] [] (uF 10 (uZ (uF 10 h a0 36 (.long (mL ((fJ h a0 36) * 256)))) (a0 + 18) (wr ((fZ h a0 37) + 4)) 0) a0 37 (.int (mI ((fZ h a0 37) + 1)))) := by
  refine (tq_aload_n i_X12_widens_0 rfl (isA_ref _) rfl).trans ?_
  refine (tq_getfield i_X12_widens_1 (K10_s k1) (g_10_36 (K10_s k1)) (isV_J _) rfl).trans ?_
  refine (tq_ldc2_w i_X12_widens_4 rfl).trans ?_
  refine (tq_lcmp_ge (pt := 48) i_X12_widens_7 i_X12_widens_8 rfl (wl_fJ _ _ _) wl_16777216 (by decide) rfl).trans ?_
  refine ite_congr rfl (fun c1 => ?_) (fun c1 => ?_)
  · exact tq_return i_X12_widens_48 r_X12_widens
  · refine (tq_aload_n i_X12_widens_11 rfl (isA_ref _) rfl).trans ?_
    refine (tq_dup i_X12_widens_12 rfl rfl).trans ?_
    refine (tq_getfield i_X12_widens_13 (K10_s k1) (g_10_36 (K10_s k1)) (isV_J _) rfl).trans ?_
    refine (tq_ldc2_w i_X12_widens_16 rfl).trans ?_
    refine (tq_lmul i_X12_widens_19 rfl).trans ?_
    refine (tq_putfield i_X12_widens_20 (K10_s k1) (okf_10_36 _) rfl).trans ?_
    refine (tq_aload_n i_X12_widens_23 rfl (isA_ref _) rfl).trans ?_
    refine (tq_getfield i_X12_widens_24 ((sh_uF _ _ _ _ _ _).trans (K10_s k1)) (gR ((g_10_34 ((sh_uF _ _ _ _ _ _).trans (K10_s k1))).trans (congrArg am_rv (fA_uF_nk (K10_s k1) (okf_10_36 _) (by decide)))) (K10_e34 k1)) (isV_ref _) rfl).trans ?_
    refine (tq_aload_n i_X12_widens_27 rfl (isA_ref _) rfl).trans ?_
    refine (tq_getfield i_X12_widens_28 ((sh_uF _ _ _ _ _ _).trans (K10_s k1)) ((g_10_37 ((sh_uF _ _ _ _ _ _).trans (K10_s k1))).trans (congrArg (fun z => Value.int (mI z)) (fZ_uF_nk (K10_s k1) (okf_10_36 _) (by decide)))) (isV_I _) rfl).trans ?_
    refine (tq_iconst i_X12_widens_31 rfl).trans ?_
    refine (tq_iadd i_X12_widens_32 rfl).trans ?_
    refine (tq_iconst i_X12_widens_33 rfl).trans ?_
    refine (tq_iastore i_X12_widens_34 ((sh_uF _ _ _ _ _ _).trans (K10_s34 k1)) rfl (g2 c1).1 (lt_gn ((gn_uF _ _ _ _ _ _).trans (K10_n34 k1)) (g2 c1).2) rfl).trans ?_
    refine (tq_aload_n i_X12_widens_35 rfl (isA_ref _) rfl).trans ?_
    refine (tq_dup i_X12_widens_36 rfl rfl).trans ?_
    refine (tq_getfield i_X12_widens_37 ((sh_uZ _ _ _ _ _).trans ((sh_uF _ _ _ _ _ _).trans (K10_s k1))) ((g_10_37 ((sh_uZ _ _ _ _ _).trans ((sh_uF _ _ _ _ _ _).trans (K10_s k1)))).trans (congrArg (fun z => Value.int (mI z)) ((fZ_uZ _ _ _ _ _ _).trans (fZ_uF_nk (K10_s k1) (okf_10_36 _) (by decide))))) (isV_I _) rfl).trans ?_
    refine (tq_iconst i_X12_widens_40 rfl).trans ?_
    refine (tq_iadd i_X12_widens_41 rfl).trans ?_
    refine (tq_putfield i_X12_widens_42 ((sh_uZ _ _ _ _ _).trans ((sh_uF _ _ _ _ _ _).trans (K10_s k1))) (okf_10_37 _) rfl).trans ?_
    refine (tq_goto (pc' := 0) i_X12_widens_45 (by decide)).trans ?_
    rfl
def SM (M : Nat) : Nat → Nat → Prop := fun c k => c = M + 18 ∨ c = M + 19 ∨ (c = M ∧ (k = 36 ∨ k = 37))
def MF (h : am_H) (M : Nat) (ch : Int → Int) (L wd : Int) (len : Nat) : Prop := K10 h M ∧ (∀ i, 0 ≤ i → i < 70 → gZ h (M + 19) i = ch i) ∧ fJ h M 36 = wd ∧ fZ h M 37 = len ∧ Dig (gZ h (M + 18)) (len + 4) L
def MR (h : am_H) (M : Nat) (A : cA) : Prop := MF h M A.1 A.2.1 A.2.2.1 A.2.2.2
theorem begins_ok {h : am_H} {M : Nat} (k : K10 h M) : ∃ h', rn m_X12_begins 0 [.ref M, am_J] [] h = some (.inl none, h') ∧ Md (SM M) h h' ∧ MR h' M A0 := by
  have s0 := K10_s k
  have st := b_X12_begins_0 k
  have m0 : Md (SM M) h (uF 10 (uF 10 h M 36 (.long (mL 4294967295))) M 37 (.int (mI 0))) := Md_tr (Md_mono (Md_uF (Sm_uF_10_36 _ _ _)) fun c k q => Or.inr (Or.inr ⟨q.1, Or.inl q.2⟩)) (Md_mono (Md_uF (Sm_uF_10_37 _ _ _)) fun c k q => Or.inr (Or.inr ⟨q.1, Or.inr q.2⟩))
  have j36 : fJ (uF 10 (uF 10 h M 36 (.long (mL 4294967295))) M 37 (.int (mI 0))) M 36 = 4294967295 := by rw [fJ_uF_k (by decide), fJ_uF_eq s0 (okf_10_36 _), wl_id (by omega) (by omega)]
  have j37 : fZ (uF 10 (uF 10 h M 36 (.long (mL 4294967295))) M 37 (.int (mI 0))) M 37 = 0 := by rw [fZ_uF_eq ((sh_uF _ _ _ _ _ _).trans s0) (okf_10_37 _), wr_id (by omega) (by omega)]
  have k1 := K10_sm m0.1 k
  generalize uF 10 (uF 10 h M 36 (.long (mL 4294967295))) M 37 (.int (mI 0)) = h1 at *
  rw [st]
  refine lp (m := m_X12_begins) (pc := 14) (L := fun i (_ : Unit) => [.ref M, .int (mI i)]) (N := 80) (P := fun r => ∃ h', r = some (.inl none, h') ∧ Md (SM M) h h' ∧ MR h' M A0) (fun i _ h' => 0 ≤ i ∧ Md (fun c _ => c = M + 19) h1 h' ∧ ∀ j, 0 ≤ j → j < i → gZ h' (M + 19) j = 1024) ?_ ?_ 0 () h1 (by omega) ⟨by omega, Md_rf _ _, fun j j0 j1 => by omega⟩
  · intro i _ h' hi ⟨i0, md, hh⟩
    have k' := K10_sm md.1 k1
    refine ⟨(), _, (b_X12_begins_14 (wr_id (by omega) (by omega)) k' (fun _ => by omega)).trans (if_neg (by omega)), by omega, Md_tr md (Md_uZ _ _ _ _), fun j j0 j1 => ?_⟩
    rw [gZ_uZ' (sh1 (K10_s35 k'))]
    by_cases q : j = i
    · rw [if_pos q, wr_id (by omega) (by omega)]
    · rw [if_neg q]; exact hh j j0 (by omega)
  · intro _ h2 ⟨_, md, hh⟩
    have k2 := K10_sm md.1 k1
    rw [b_X12_begins_14 (wr_id (by omega) (by omega)) k2 (fun g => by omega), if_pos (by omega)]
    refine lp (m := m_X12_begins) (pc := 40) (L := fun i (_ : Unit) => [.ref M, .int (mI i)]) (N := 4) (P := fun r => ∃ h', r = some (.inl none, h') ∧ Md (SM M) h h' ∧ MR h' M A0) (fun i _ h' => 0 ≤ i ∧ Md (fun c _ => c = M + 18) h2 h' ∧ ∀ j, 0 ≤ j → j < i → gZ h' (M + 18) j = 0) ?_ ?_ 0 () h2 (by omega) ⟨by omega, Md_rf _ _, fun j j0 j1 => by omega⟩
    · intro i _ h' hi ⟨i0, md', hh'⟩
      have k' := K10_sm md'.1 k2
      refine ⟨(), _, (b_X12_begins_40 (wr_id (by omega) (by omega)) k' (fun _ => by omega)).trans (if_neg (by omega)), by omega, Md_tr md' (Md_uZ _ _ _ _), fun j j0 j1 => ?_⟩
      rw [gZ_uZ' (sh1 (K10_s34 k'))]
      by_cases q : j = i
      · rw [if_pos q, wr_id (by omega) (by omega)]
      · rw [if_neg q]; exact hh' j j0 (by omega)
    · intro _ h3 ⟨_, md', hh'⟩
      have k3 := K10_sm md'.1 k2
      rw [b_X12_begins_40 (wr_id (by omega) (by omega)) k3 (fun g => by omega), if_pos (by omega)]
      have z := fun j a b => hh' j a b
      have v0 : vrow (gZ h3 (M + 18)) 4 = 0 := by
        have e0 := z 0 (by omega) (by omega)
        have e1 := z 1 (by omega) (by omega)
        have e2 := z 2 (by omega) (by omega)
        have e3 := z 3 (by omega) (by omega)
        show (((0 * 256 + gZ h3 (M + 18) 0) * 256 + gZ h3 (M + 18) 1) * 256 + gZ h3 (M + 18) 2) * 256 + gZ h3 (M + 18) 3 = 0
        rw [e0, e1, e2, e3]
        rfl
      refine ⟨h3, rfl, Md_tr m0 (Md_tr (Md_mono md fun c k q => Or.inr (Or.inl q)) (Md_mono md' fun c k q => Or.inl q)), k3, fun i i0 i1 => ?_, ?_, ?_, v0, fun i i0 i1 => ?_⟩
      · rw [md_gZ md' (by omega)]; exact hh i i0 (by omega)
      · rw [md_fJ md' (by omega), md_fJ md (by omega)]; exact j36
      · rw [md_fZ md' (by omega), md_fZ md (by omega)]; exact j37
      · rw [z i i0 i1]; omega
theorem adds_loop {M : Nat} {v1 : Value} : ∀ (k : Nat) (h : am_H) (c : Int) (v2 : Value), k ≤ 8000 → K10 h M → 0 ≤ c ∧ c ≤ 1099511627776 → (∀ i : Int, 0 ≤ i → i < (k : Int) → 0 ≤ gZ h (M + 18) i ∧ gZ h (M + 18) i ≤ 255) → vrow (gZ h (M + 18)) k + c < 256 ^ k → ∃ h', rn m_X12_adds 10 [.ref M, v1, v2, .long (mL c), am_J, .int (mI ((k : Int) - 1))] [] h = some (.inl none, h') ∧ Md (fun c _ => c = M + 18) h h' ∧ Dig (gZ h' (M + 18)) k (vrow (gZ h (M + 18)) k + c) ∧ ∀ i : Int, (k : Int) ≤ i → gZ h' (M + 18) i = gZ h (M + 18) i
  | 0, h, c, v2, hk, k10, hc, hd, hv => by
    have st := b_X12_adds_10 (a0 := M) (v1 := v1) (v2 := v2) (j3 := c) (x5 := ((0 : Nat) : Int) - 1) (h := h) (wl_id (by omega) (by omega)) (wr_id (by omega) (by omega)) k10 (fun g => absurd (by omega) g)
    rw [if_pos (by omega)] at st
    rw [Int.pow_zero] at hv
    have : vrow (gZ h (M + 18)) 0 = 0 := rfl
    exact ⟨h, st, Md_rf _ _, ⟨by omega, fun i i0 i1 => by omega⟩, fun _ _ => rfl⟩
  | k + 1, h, c, v2, hk, k10, hc, hd, hv => by
    have st := b_X12_adds_10 (a0 := M) (v1 := v1) (v2 := v2) (j3 := c) (x5 := ((k + 1 : Nat) : Int) - 1) (x5' := (k : Int)) (h := h) (wl_id (by omega) (by omega)) (by rw [wr_id (by omega) (by omega)]; omega) k10 (fun _ _ => by omega)
    rw [if_neg (by omega)] at st
    by_cases c0 : c ≤ 0
    · rw [if_pos c0] at st
      have : c = 0 := by omega
      subst this
      exact ⟨h, st, Md_rf _ _, ⟨(Int.add_zero _).symm, hd⟩, fun _ _ => rfl⟩
    · rw [if_neg c0] at st
      have p8 : (2 : Int) ^ 8 = 256 := rfl
      have rk := hd k (by omega) (by omega)
      have hv' : vrow (gZ h (M + 18)) k * 256 + gZ h (M + 18) k + c < 256 ^ k * 256 := by rw [← Int.pow_succ]; exact hv
      rw [wl_id (z := c + gZ h (M + 18) k) (by omega) (by omega), p8, show ((k + 1 : Nat) : Int) - 1 + -1 = (k : Int) - 1 by omega] at st
      have md : Md (fun c _ => c = M + 18) h (uZ h (M + 18) k ((c + gZ h (M + 18) k) % 256)) := Md_uZ _ _ _ _
      have rr : ∀ i, gZ (uZ h (M + 18) k ((c + gZ h (M + 18) k) % 256)) (M + 18) i = if i = (k : Int) then (c + gZ h (M + 18) k) % 256 else gZ h (M + 18) i := fun i => by
        rw [gZ_uZ' (sh1 (K10_s34 k10)), wr_id (by omega) (by omega)]
      have k10' := K10_sm md.1 k10
      generalize uZ h (M + 18) k ((c + gZ h (M + 18) k) % 256) = h1 at *
      have ve : vrow (gZ h1 (M + 18)) k = vrow (gZ h (M + 18)) k := vrow_congr fun i i0 i1 => by rw [rr, if_neg (by omega)]
      obtain ⟨h2, r2, m2, d2, e2⟩ := adds_loop k h1 ((c + gZ h (M + 18) k) / 256) (am_k1 (am_k1 v2)) (by omega) k10' (by omega) (fun i i0 i1 => by rw [rr, if_neg (by omega)]; exact hd i i0 (by omega)) (by rw [ve]; omega)
      refine ⟨h2, st.trans r2, Md_tr md m2, ⟨?_, fun i i0 i1 => ?_⟩, fun i i1 => by rw [e2 i (by omega), rr, if_neg (by omega)]⟩
      · show vrow (gZ h2 (M + 18)) k * 256 + gZ h2 (M + 18) (k : Int) = vrow (gZ h (M + 18)) k * 256 + gZ h (M + 18) (k : Int) + c
        rw [d2.1, ve, e2 k (by omega), rr, if_pos rfl]
        omega
      · by_cases q : i = k
        · rw [q, e2 k (by omega), rr, if_pos rfl]; omega
        · exact d2.2 i i0 (by omega)
theorem adds_ok {h : am_H} {M len : Nat} {ch : Int → Int} {L wd a : Int} (q : MF h M ch L wd len) (hl : len ≤ 4000) (ha : 0 ≤ a ∧ a ≤ 4294967296) (hs : L + a < 4294967296 * 256 ^ len) : ∃ h', rn m_X12_adds 0 [.ref M, .long (mL a), am_J, am_J, am_J, am_J] [] h = some (.inl none, h') ∧ Md (fun c _ => c = M + 18) h h' ∧ MF h' M ch (L + a) wd len := by
  obtain ⟨k, q2, q3, q4, q5⟩ := q
  have st := b_X12_adds_0 (a0 := M) (j1 := a) (h := h) k
  rw [q4, show (len : Int) + 3 = ((len + 4 : Nat) : Int) - 1 by omega] at st
  have p4 : (256 : Int) ^ (len + 4) = 4294967296 * 256 ^ len := by rw [Int.pow_add, Int.mul_comm]; rfl
  obtain ⟨h1, r1, m1, d1, -⟩ := adds_loop (M := M) (v1 := .long (mL a)) (len + 4) h a am_J (by omega) k (by omega) q5.2 (by rw [q5.1, p4]; exact hs)
  rw [q5.1] at d1
  exact ⟨h1, st.trans r1, m1, K10_sm m1.1 k, fun i i0 i1 => by rw [md_gZ m1 (by omega)]; exact q2 i i0 i1, (md_fJ m1 (by omega)).trans q3, (md_fZ m1 (by omega)).trans q4, d1⟩
theorem widens_ok {h : am_H} {M len : Nat} {ch : Int → Int} {L wd : Int} (q : MF h M ch L wd len) (hl : len ≤ 4000) (hw : 65536 ≤ wd ∧ wd ≤ 4294967295) : ∃ h', rn m_X12_widens 0 [.ref M] [] h = some (.inl none, h') ∧ Md (SM M) h h' ∧ MR h' M (nrmA ch L wd len) := by
  obtain ⟨k, q2, q3, q4, q5⟩ := id q
  have w4 : wr (fZ h M 37 + 4) = ((len + 4 : Nat) : Int) := by rw [q4, wr_id (by omega) (by omega)]; omega
  have st := b_X12_widens_0 (a0 := M) (h := h) k (fun _ => by rw [w4]; omega)
  rw [w4, q3, q4] at st
  unfold nrmA
  by_cases c : wd < 16777216
  · rw [if_neg (by omega)] at st
    rw [if_pos c]
    have m1 : Md (SM M) h (uF 10 (uZ (uF 10 h M 36 (.long (mL (wd * 256)))) (M + 18) ((len + 4 : Nat) : Int) 0) M 37 (.int (mI ((len : Int) + 1)))) := Md_tr (Md_mono (Md_uF (Sm_uF_10_36 _ _ _)) fun c k q => Or.inr (Or.inr ⟨q.1, Or.inl q.2⟩)) (Md_tr (Md_mono (Md_uZ _ _ _ _) fun c k q => Or.inl q) (Md_mono (Md_uF (Sm_uF_10_37 _ _ _)) fun c k q => Or.inr (Or.inr ⟨q.1, Or.inr q.2⟩)))
    have s0 := K10_s k
    have j36 : fJ (uF 10 (uZ (uF 10 h M 36 (.long (mL (wd * 256)))) (M + 18) ((len + 4 : Nat) : Int) 0) M 37 (.int (mI ((len : Int) + 1)))) M 36 = wd * 256 := by rw [fJ_uF_k (by decide), fJ_uZ, fJ_uF_eq s0 (okf_10_36 _), wl_id (by omega) (by omega)]
    have j37 : fZ (uF 10 (uZ (uF 10 h M 36 (.long (mL (wd * 256)))) (M + 18) ((len + 4 : Nat) : Int) 0) M 37 (.int (mI ((len : Int) + 1)))) M 37 = (len + 1 : Nat) := by rw [fZ_uF_eq ((sh_uZ _ _ _ _ _).trans ((sh_uF _ _ _ _ _ _).trans s0)) (okf_10_37 _), wr_id (by omega) (by omega)]; omega
    have rr : ∀ i, gZ (uF 10 (uZ (uF 10 h M 36 (.long (mL (wd * 256)))) (M + 18) ((len + 4 : Nat) : Int) 0) M 37 (.int (mI ((len : Int) + 1)))) (M + 18) i = if i = ((len + 4 : Nat) : Int) then 0 else gZ h (M + 18) i := fun i => by
      rw [gZ_uF, gZ_uZ' (sh1 ((sh_uF _ _ _ _ _ _).trans (K10_s34 k))), wr_id (by omega) (by omega), gZ_uF]
    have cc : ∀ i, gZ (uF 10 (uZ (uF 10 h M 36 (.long (mL (wd * 256)))) (M + 18) ((len + 4 : Nat) : Int) 0) M 37 (.int (mI ((len : Int) + 1)))) (M + 19) i = gZ h (M + 19) i := fun i => by
      rw [gZ_uF, gZ_uZ_ne _ _ (by omega), gZ_uF]
    have k1 := K10_sm m1.1 k
    generalize uF 10 (uZ (uF 10 h M 36 (.long (mL (wd * 256)))) (M + 18) ((len + 4 : Nat) : Int) 0) M 37 (.int (mI ((len : Int) + 1))) = h1 at *
    have w4' : wr (fZ h1 M 37 + 4) = ((len + 5 : Nat) : Int) := by rw [j37, wr_id (by omega) (by omega)]; omega
    have st2 := b_X12_widens_0 (a0 := M) (h := h1) k1 (fun _ => by rw [w4']; omega)
    rw [j36, if_pos (by omega)] at st2
    refine ⟨h1, st.trans st2, m1, k1, fun i i0 i1 => (cc i).trans (q2 i i0 i1), j36, j37, ?_, fun i i0 i1 => ?_⟩
    · show vrow (gZ h1 (M + 18)) (len + 1 + 4) = L * 256
      have e5 : len + 1 + 4 = len + 4 + 1 := by omega
      rw [e5]
      show vrow (gZ h1 (M + 18)) (len + 4) * 256 + gZ h1 (M + 18) ((len + 4 : Nat) : Int) = L * 256
      rw [vrow_congr (r' := gZ h (M + 18)) fun i i0 i1 => by rw [rr, if_neg (by omega)], rr, if_pos rfl, q5.1, Int.add_zero]
    · simp only at i1
      rw [rr]
      split
      · omega
      · exact q5.2 i i0 (by omega)
  · rw [if_pos (by omega)] at st
    rw [if_neg c]
    exact ⟨h, st, Md_rf _ _, q⟩
theorem i_X12_says_0 : am_i m_X12_says 0 = some (0, .aload_n 0, 1, [], 0) := rfl
theorem i_X12_says_1 : am_i m_X12_says 1 = some (1, .getfield 222, 3, [10, 36, 0], 0) := rfl
theorem i_X12_says_4 : am_i m_X12_says 4 = some (4, .ldc2_w 235, 3, [], 2048) := rfl
theorem i_X12_says_7 : am_i m_X12_says 7 = some (7, .ldiv, 1, [], 0) := rfl
theorem i_X12_says_8 : am_i m_X12_says 8 = some (8, .aload_n 0, 1, [], 0) := rfl
theorem i_X12_says_9 : am_i m_X12_says 9 = some (9, .getfield 95, 3, [10, 35, 0], 0) := rfl
theorem i_X12_says_12 : am_i m_X12_says 12 = some (12, .iload_n 1, 1, [], 0) := rfl
theorem i_X12_says_13 : am_i m_X12_says 13 = some (13, .iaload, 1, [], 0) := rfl
theorem i_X12_says_14 : am_i m_X12_says 14 = some (14, .i2l, 1, [], 0) := rfl
theorem i_X12_says_15 : am_i m_X12_says 15 = some (15, .lmul, 1, [], 0) := rfl
theorem i_X12_says_16 : am_i m_X12_says 16 = some (16, .lstore_n 3, 1, [], 0) := rfl
theorem i_X12_says_17 : am_i m_X12_says 17 = some (17, .iload_n 2, 1, [], 0) := rfl
theorem i_X12_says_18 : am_i m_X12_says 18 = some (18, .ifCond .eq 39, 3, [], 0) := rfl
theorem i_X12_says_21 : am_i m_X12_says 21 = some (21, .aload_n 0, 1, [], 0) := rfl
theorem i_X12_says_22 : am_i m_X12_says 22 = some (22, .lload_n 3, 1, [], 0) := rfl
theorem i_X12_says_23 : am_i m_X12_says 23 = some (23, .invokevirtual 237, 3, [18, 10], 0) := rfl
theorem i_X12_says_57 : am_i m_X12_says 57 = some (57, .aload_n 0, 1, [], 0) := rfl
theorem i_X12_says_58 : am_i m_X12_says 58 = some (58, .lload_n 3, 1, [], 0) := rfl
theorem i_X12_says_59 : am_i m_X12_says 59 = some (59, .putfield 222, 3, [10, 36, 0], 0) := rfl
theorem i_X12_says_62 : am_i m_X12_says 62 = some (62, .aload_n 0, 1, [], 0) := rfl
theorem i_X12_says_63 : am_i m_X12_says 63 = some (63, .getfield 95, 3, [10, 35, 0], 0) := rfl
theorem i_X12_says_66 : am_i m_X12_says 66 = some (66, .iload_n 1, 1, [], 0) := rfl
theorem i_X12_says_67 : am_i m_X12_says 67 = some (67, .dup2, 1, [], 0) := rfl
theorem i_X12_says_68 : am_i m_X12_says 68 = some (68, .iaload, 1, [], 0) := rfl
theorem i_X12_says_69 : am_i m_X12_says 69 = some (69, .sipush 2048, 3, [], 2048) := rfl
theorem i_X12_says_72 : am_i m_X12_says 72 = some (72, .aload_n 0, 1, [], 0) := rfl
theorem i_X12_says_73 : am_i m_X12_says 73 = some (73, .getfield 95, 3, [10, 35, 0], 0) := rfl
theorem i_X12_says_76 : am_i m_X12_says 76 = some (76, .iload_n 1, 1, [], 0) := rfl
theorem i_X12_says_77 : am_i m_X12_says 77 = some (77, .iaload, 1, [], 0) := rfl
theorem i_X12_says_78 : am_i m_X12_says 78 = some (78, .isub, 1, [], 0) := rfl
theorem i_X12_says_79 : am_i m_X12_says 79 = some (79, .bipush 32, 2, [], 32) := rfl
theorem i_X12_says_81 : am_i m_X12_says 81 = some (81, .idiv, 1, [], 0) := rfl
theorem i_X12_says_82 : am_i m_X12_says 82 = some (82, .iadd, 1, [], 0) := rfl
theorem i_X12_says_83 : am_i m_X12_says 83 = some (83, .iastore, 1, [], 0) := rfl
theorem i_X12_says_84 : am_i m_X12_says 84 = some (84, .aload_n 0, 1, [], 0) := rfl
theorem i_X12_says_85 : am_i m_X12_says 85 = some (85, .invokevirtual 241, 3, [41, 10], 0) := rfl
theorem b_X12_says_0 {a0 : Nat} {x1 x2 x1' x2' : Int} {h : am_H} (w1 : wr x1 = x1') (w2 : wr x2 = x2') (k1 : K10 h a0) (g2 : 0 ≤ x1' ∧ x1' < (80 : Int)) : rn m_X12_says 0 [.ref a0, .int (mI x1), .int (mI x2), am_J, am_J] [] h = if x2' = 0 then cl m_X12_says 88 [.ref a0, .int (mI x1), .int (mI x2), .long (mL ((Int.tdiv (fJ h a0 36) 2048) * (gZ h (a0 + 19) x1'))), am_J] [] (rn m_X12_widens 0 [.ref a0] [] (uZ (uF 10 h a0 36 (.long (mL ((Int.tdiv (fJ h a0 36) 2048) * (gZ h (a0 + 19) x1'))))) (a0 + 19) x1' ((gZ (uF 10 h a0 36 (.long (mL ((Int.tdiv (fJ h a0 36) 2048) * (gZ h (a0 + 19) x1'))))) (a0 + 19) x1') + (Int.tdiv (wr (2048 - (gZ (uF 10 h a0 36 (.long (mL ((Int.tdiv (fJ h a0 36) 2048) * (gZ h (a0 + 19) x1'))))) (a0 + 19) x1'))) 32)))) else cl m_X12_says 26 [.ref a0, .int (mI x1), .int (mI x2), .long (mL ((Int.tdiv (fJ h a0 36) 2048) * (gZ h (a0 + 19) x1'))), am_J] [] (rn m_X12_adds 0 [.ref a0, .long (mL ((Int.tdiv (fJ h a0 36) 2048) * (gZ h (a0 + 19) x1'))), am_J, am_J, am_J, am_J] [] h) := by
  refine (tq_aload_n i_X12_says_0 rfl (isA_ref _) rfl).trans ?_
  refine (tq_getfield i_X12_says_1 (K10_s k1) (g_10_36 (K10_s k1)) (isV_J _) rfl).trans ?_
  refine (tq_ldc2_w i_X12_says_4 rfl).trans ?_
  refine (tq_ldiv i_X12_says_7 (wl_fJ _ _ _) wl_2048 (by decide) rfl).trans ?_
  refine (tq_aload_n i_X12_says_8 rfl (isA_ref _) rfl).trans ?_
  refine (tq_getfield i_X12_says_9 (K10_s k1) (gR (g_10_35 (K10_s k1)) (K10_e35 k1)) (isV_ref _) rfl).trans ?_
  refine (tq_iload_n i_X12_says_12 rfl rfl).trans ?_
  refine (tq_iaload i_X12_says_13 (K10_s35 k1) (by decide) w1 g2.1 (lt_gn (K10_n35 k1) g2.2) rfl).trans ?_
  refine (tq_i2l i_X12_says_14 (wr_gZ _ _ _) rfl).trans ?_
  refine (tq_lmul i_X12_says_15 rfl).trans ?_
  refine (tq_lstore_n (L' := [.ref a0, .int (mI x1), .int (mI x2), .long (mL ((Int.tdiv (fJ h a0 36) 2048) * (gZ h (a0 + 19) x1'))), am_J]) i_X12_says_16 rfl rfl).trans ?_
  refine (tq_iload_n i_X12_says_17 rfl rfl).trans ?_
  refine (tq_if_eq (pt := 57) i_X12_says_18 w2 (by decide) rfl).trans ?_
  refine ite_congr rfl (fun c1 => ?_) (fun c1 => ?_)
  · refine (tq_aload_n i_X12_says_57 rfl (isA_ref _) rfl).trans ?_
    refine (tq_lload_n i_X12_says_58 rfl rfl).trans ?_
    refine (tq_putfield i_X12_says_59 (K10_s k1) (okf_10_36 _) rfl).trans ?_
    refine (tq_aload_n i_X12_says_62 rfl (isA_ref _) rfl).trans ?_
    refine (tq_getfield i_X12_says_63 ((sh_uF _ _ _ _ _ _).trans (K10_s k1)) (gR ((g_10_35 ((sh_uF _ _ _ _ _ _).trans (K10_s k1))).trans (congrArg am_rv (fA_uF_nk (K10_s k1) (okf_10_36 _) (by decide)))) (K10_e35 k1)) (isV_ref _) rfl).trans ?_
    refine (tq_iload_n i_X12_says_66 rfl rfl).trans ?_
    refine (tq_dup2 i_X12_says_67 rfl rfl rfl).trans ?_
    refine (tq_iaload i_X12_says_68 ((sh_uF _ _ _ _ _ _).trans (K10_s35 k1)) (by decide) w1 g2.1 (lt_gn ((gn_uF _ _ _ _ _ _).trans (K10_n35 k1)) g2.2) rfl).trans ?_
    refine (tq_sipush i_X12_says_69 rfl).trans ?_
    refine (tq_aload_n i_X12_says_72 rfl (isA_ref _) rfl).trans ?_
    refine (tq_getfield i_X12_says_73 ((sh_uF _ _ _ _ _ _).trans (K10_s k1)) (gR ((g_10_35 ((sh_uF _ _ _ _ _ _).trans (K10_s k1))).trans (congrArg am_rv (fA_uF_nk (K10_s k1) (okf_10_36 _) (by decide)))) (K10_e35 k1)) (isV_ref _) rfl).trans ?_
    refine (tq_iload_n i_X12_says_76 rfl rfl).trans ?_
    refine (tq_iaload i_X12_says_77 ((sh_uF _ _ _ _ _ _).trans (K10_s35 k1)) (by decide) w1 g2.1 (lt_gn ((gn_uF _ _ _ _ _ _).trans (K10_n35 k1)) g2.2) rfl).trans ?_
    refine (tq_isub i_X12_says_78 rfl).trans ?_
    refine (tq_bipush i_X12_says_79 rfl).trans ?_
    refine (tq_idiv i_X12_says_81 rfl w_32 (by decide) rfl).trans ?_
    refine (tq_iadd i_X12_says_82 rfl).trans ?_
    refine (tq_iastore i_X12_says_83 ((sh_uF _ _ _ _ _ _).trans (K10_s35 k1)) w1 g2.1 (lt_gn ((gn_uF _ _ _ _ _ _).trans (K10_n35 k1)) g2.2) rfl).trans ?_
    refine (tq_aload_n i_X12_says_84 rfl (isA_ref _) rfl).trans ?_
    exact c_X12_widens i_X12_says_85 ((sh_uZ _ _ _ _ _).trans ((sh_uF _ _ _ _ _ _).trans (K10_s k1))) (ltd d_X12_says (by decide)) stOk_0 rfl
  · refine (tq_aload_n i_X12_says_21 rfl (isA_ref _) rfl).trans ?_
    refine (tq_lload_n i_X12_says_22 rfl rfl).trans ?_
    exact c_X12_adds i_X12_says_23 (K10_s k1) (ltd d_X12_says (by decide)) stOk_0 rfl
theorem i_X12_says_26 : am_i m_X12_says 26 = some (26, .aload_n 0, 1, [], 0) := rfl
theorem i_X12_says_27 : am_i m_X12_says 27 = some (27, .dup, 1, [], 0) := rfl
theorem i_X12_says_28 : am_i m_X12_says 28 = some (28, .getfield 222, 3, [10, 36, 0], 0) := rfl
theorem i_X12_says_31 : am_i m_X12_says 31 = some (31, .lload_n 3, 1, [], 0) := rfl
theorem i_X12_says_32 : am_i m_X12_says 32 = some (32, .lsub, 1, [], 0) := rfl
theorem i_X12_says_33 : am_i m_X12_says 33 = some (33, .putfield 222, 3, [10, 36, 0], 0) := rfl
theorem i_X12_says_36 : am_i m_X12_says 36 = some (36, .aload_n 0, 1, [], 0) := rfl
theorem i_X12_says_37 : am_i m_X12_says 37 = some (37, .getfield 95, 3, [10, 35, 0], 0) := rfl
theorem i_X12_says_40 : am_i m_X12_says 40 = some (40, .iload_n 1, 1, [], 0) := rfl
theorem i_X12_says_41 : am_i m_X12_says 41 = some (41, .dup2, 1, [], 0) := rfl
theorem i_X12_says_42 : am_i m_X12_says 42 = some (42, .iaload, 1, [], 0) := rfl
theorem i_X12_says_43 : am_i m_X12_says 43 = some (43, .aload_n 0, 1, [], 0) := rfl
theorem i_X12_says_44 : am_i m_X12_says 44 = some (44, .getfield 95, 3, [10, 35, 0], 0) := rfl
theorem i_X12_says_47 : am_i m_X12_says 47 = some (47, .iload_n 1, 1, [], 0) := rfl
theorem i_X12_says_48 : am_i m_X12_says 48 = some (48, .iaload, 1, [], 0) := rfl
theorem i_X12_says_49 : am_i m_X12_says 49 = some (49, .bipush 32, 2, [], 32) := rfl
theorem i_X12_says_51 : am_i m_X12_says 51 = some (51, .idiv, 1, [], 0) := rfl
theorem i_X12_says_52 : am_i m_X12_says 52 = some (52, .isub, 1, [], 0) := rfl
theorem i_X12_says_53 : am_i m_X12_says 53 = some (53, .iastore, 1, [], 0) := rfl
theorem i_X12_says_54 : am_i m_X12_says 54 = some (54, .goto 30, 3, [], 0) := rfl
theorem b_X12_says_26 {a0 : Nat} {x1 j3 x1' : Int} {v2 : Value} {h : am_H} (w1 : wr x1 = x1') (k1 : K10 h a0) (g2 : 0 ≤ x1' ∧ x1' < (80 : Int)) : rn m_X12_says 26 [.ref a0, .int (mI x1), v2, .long (mL j3), am_J] [] h = cl m_X12_says 88 [.ref a0, .int (mI x1), v2, .long (mL j3), am_J] [] (rn m_X12_widens 0 [.ref a0] [] (uZ (uF 10 h a0 36 (.long (mL ((fJ h a0 36) - j3)))) (a0 + 19) x1' ((gZ (uF 10 h a0 36 (.long (mL ((fJ h a0 36) - j3)))) (a0 + 19) x1') - (Int.tdiv (gZ (uF 10 h a0 36 (.long (mL ((fJ h a0 36) - j3)))) (a0 + 19) x1') 32)))) := by
  refine (tq_aload_n i_X12_says_26 rfl (isA_ref _) rfl).trans ?_
  refine (tq_dup i_X12_says_27 rfl rfl).trans ?_
  refine (tq_getfield i_X12_says_28 (K10_s k1) (g_10_36 (K10_s k1)) (isV_J _) rfl).trans ?_
  refine (tq_lload_n i_X12_says_31 rfl rfl).trans ?_
  refine (tq_lsub i_X12_says_32 rfl).trans ?_
  refine (tq_putfield i_X12_says_33 (K10_s k1) (okf_10_36 _) rfl).trans ?_
  refine (tq_aload_n i_X12_says_36 rfl (isA_ref _) rfl).trans ?_
  refine (tq_getfield i_X12_says_37 ((sh_uF _ _ _ _ _ _).trans (K10_s k1)) (gR ((g_10_35 ((sh_uF _ _ _ _ _ _).trans (K10_s k1))).trans (congrArg am_rv (fA_uF_nk (K10_s k1) (okf_10_36 _) (by decide)))) (K10_e35 k1)) (isV_ref _) rfl).trans ?_
  refine (tq_iload_n i_X12_says_40 rfl rfl).trans ?_
  refine (tq_dup2 i_X12_says_41 rfl rfl rfl).trans ?_
  refine (tq_iaload i_X12_says_42 ((sh_uF _ _ _ _ _ _).trans (K10_s35 k1)) (by decide) w1 g2.1 (lt_gn ((gn_uF _ _ _ _ _ _).trans (K10_n35 k1)) g2.2) rfl).trans ?_
  refine (tq_aload_n i_X12_says_43 rfl (isA_ref _) rfl).trans ?_
  refine (tq_getfield i_X12_says_44 ((sh_uF _ _ _ _ _ _).trans (K10_s k1)) (gR ((g_10_35 ((sh_uF _ _ _ _ _ _).trans (K10_s k1))).trans (congrArg am_rv (fA_uF_nk (K10_s k1) (okf_10_36 _) (by decide)))) (K10_e35 k1)) (isV_ref _) rfl).trans ?_
  refine (tq_iload_n i_X12_says_47 rfl rfl).trans ?_
  refine (tq_iaload i_X12_says_48 ((sh_uF _ _ _ _ _ _).trans (K10_s35 k1)) (by decide) w1 g2.1 (lt_gn ((gn_uF _ _ _ _ _ _).trans (K10_n35 k1)) g2.2) rfl).trans ?_
  refine (tq_bipush i_X12_says_49 rfl).trans ?_
  refine (tq_idiv i_X12_says_51 (wr_gZ _ _ _) w_32 (by decide) rfl).trans ?_
  refine (tq_isub i_X12_says_52 rfl).trans ?_
  refine (tq_iastore i_X12_says_53 ((sh_uF _ _ _ _ _ _).trans (K10_s35 k1)) w1 g2.1 (lt_gn ((gn_uF _ _ _ _ _ _).trans (K10_n35 k1)) g2.2) rfl).trans ?_
  refine (tq_goto (pc' := 84) i_X12_says_54 (by decide)).trans ?_
  refine (tq_aload_n i_X12_says_84 rfl (isA_ref _) rfl).trans ?_
  exact c_X12_widens i_X12_says_85 ((sh_uZ _ _ _ _ _).trans ((sh_uF _ _ _ _ _ _).trans (K10_s k1))) (ltd d_X12_says (by decide)) stOk_0 rfl
theorem i_X12_says_88 : am_i m_X12_says 88 = some (88, .return_, 1, [], 0) := rfl
theorem b_X12_says_88 {v0 v1 v2 v3 v4 : Value} {h : am_H} : rn m_X12_says 88 [v0, v1, v2, v3, v4] [] h = some (.inl none, h) := by
  exact tq_return i_X12_says_88 r_X12_says
theorem i_X12_saysPlain_0 : am_i m_X12_saysPlain 0 = some (0, .aload_n 0, 1, [], 0) := rfl
theorem i_X12_saysPlain_1 : am_i m_X12_saysPlain 1 = some (1, .dup, 1, [], 0) := rfl
theorem i_X12_saysPlain_2 : am_i m_X12_saysPlain 2 = some (2, .getfield 222, 3, [10, 36, 0], 0) := rfl
theorem i_X12_saysPlain_5 : am_i m_X12_saysPlain 5 = some (5, .ldc2_w 244, 3, [], 2) := rfl
theorem i_X12_saysPlain_8 : am_i m_X12_saysPlain 8 = some (8, .ldiv, 1, [], 0) := rfl
theorem i_X12_saysPlain_9 : am_i m_X12_saysPlain 9 = some (9, .putfield 222, 3, [10, 36, 0], 0) := rfl
theorem i_X12_saysPlain_12 : am_i m_X12_saysPlain 12 = some (12, .iload_n 1, 1, [], 0) := rfl
theorem i_X12_saysPlain_13 : am_i m_X12_saysPlain 13 = some (13, .ifCond .eq 11, 3, [], 0) := rfl
theorem i_X12_saysPlain_16 : am_i m_X12_saysPlain 16 = some (16, .aload_n 0, 1, [], 0) := rfl
theorem i_X12_saysPlain_17 : am_i m_X12_saysPlain 17 = some (17, .aload_n 0, 1, [], 0) := rfl
theorem i_X12_saysPlain_18 : am_i m_X12_saysPlain 18 = some (18, .getfield 222, 3, [10, 36, 0], 0) := rfl
theorem i_X12_saysPlain_21 : am_i m_X12_saysPlain 21 = some (21, .invokevirtual 237, 3, [18, 10], 0) := rfl
theorem b_X12_saysPlain_0 {a0 : Nat} {x1 x1' : Int} {h : am_H} (w1 : wr x1 = x1') (k1 : K10 h a0) : rn m_X12_saysPlain 0 [.ref a0, .int (mI x1)] [] h = if x1' = 0 then rn m_X12_saysPlain 24 [.ref a0, .int (mI x1)] [] (uF 10 h a0 36 (.long (mL (Int.tdiv (fJ h a0 36) 2)))) else cl m_X12_saysPlain 24 [.ref a0, .int (mI x1)] [] (rn m_X12_adds 0 [.ref a0, .long (mL (Int.tdiv (fJ h a0 36) 2)), am_J, am_J, am_J, am_J] [] (uF 10 h a0 36 (.long (mL (Int.tdiv (fJ h a0 36) 2))))) := by
  refine (tq_aload_n i_X12_saysPlain_0 rfl (isA_ref _) rfl).trans ?_
  refine (tq_dup i_X12_saysPlain_1 rfl rfl).trans ?_
  refine (tq_getfield i_X12_saysPlain_2 (K10_s k1) (g_10_36 (K10_s k1)) (isV_J _) rfl).trans ?_
  refine (tq_ldc2_w i_X12_saysPlain_5 rfl).trans ?_
  refine (tq_ldiv i_X12_saysPlain_8 (wl_fJ _ _ _) wl_2 (by decide) rfl).trans ?_
  refine (tq_putfield i_X12_saysPlain_9 (K10_s k1) (okf_10_36 _) rfl).trans ?_
  refine (tq_iload_n i_X12_saysPlain_12 rfl rfl).trans ?_
  refine (tq_if_eq (pt := 24) i_X12_saysPlain_13 w1 (by decide) rfl).trans ?_
  refine ite_congr rfl (fun c1 => ?_) (fun c1 => ?_)
  · rfl
  · refine (tq_aload_n i_X12_saysPlain_16 rfl (isA_ref _) rfl).trans ?_
    refine (tq_aload_n i_X12_saysPlain_17 rfl (isA_ref _) rfl).trans ?_
    refine (tq_getfield i_X12_saysPlain_18 ((sh_uF _ _ _ _ _ _).trans (K10_s k1)) (gV_uF_eq (K10_s k1) (okf_10_36 _)) (isV_J _) rfl).trans ?_
    exact c_X12_adds i_X12_saysPlain_21 ((sh_uF _ _ _ _ _ _).trans (K10_s k1)) (ltd d_X12_saysPlain (by decide)) stOk_0 rfl
theorem i_X12_saysPlain_24 : am_i m_X12_saysPlain 24 = some (24, .aload_n 0, 1, [], 0) := rfl
theorem i_X12_saysPlain_25 : am_i m_X12_saysPlain 25 = some (25, .invokevirtual 241, 3, [41, 10], 0) := rfl
theorem b_X12_saysPlain_24 {a0 : Nat} {v1 : Value} {h : am_H} (k1 : K10 h a0) : rn m_X12_saysPlain 24 [.ref a0, v1] [] h = cl m_X12_saysPlain 28 [.ref a0, v1] [] (rn m_X12_widens 0 [.ref a0] [] h) := by
  refine (tq_aload_n i_X12_saysPlain_24 rfl (isA_ref _) rfl).trans ?_
  exact c_X12_widens i_X12_saysPlain_25 (K10_s k1) (ltd d_X12_saysPlain (by decide)) stOk_0 rfl
theorem i_X12_saysPlain_28 : am_i m_X12_saysPlain 28 = some (28, .return_, 1, [], 0) := rfl
theorem b_X12_saysPlain_28 {v0 v1 : Value} {h : am_H} : rn m_X12_saysPlain 28 [v0, v1] [] h = some (.inl none, h) := by
  exact tq_return i_X12_saysPlain_28 r_X12_saysPlain
theorem says_ok {h : am_H} {M : Nat} {A : cA} {c x1 x2 x' : Int} {b : Bool} (w1 : wr x1 = c) (w2 : wr x2 = x') (hb : x' = 0 ↔ b = false) (q : MR h M A) (ok : okA A) (hl : A.2.2.2 ≤ 4000) (hc : 0 ≤ c ∧ c < 70) : ∃ h', rn m_X12_says 0 [.ref M, .int (mI x1), .int (mI x2), am_J, am_J] [] h = some (.inl none, h') ∧ Md (SM M) h h' ∧ MR h' M (stA A (c, b)) := by
  obtain ⟨k, q2, q3, q4, q5⟩ := id q
  have bb := bdA_b ok c
  have o1 := ok.1 c
  have o2 := ok.2.1
  have o4 := ok.2.2
  have st := b_X12_says_0 (a0 := M) (h := h) w1 w2 k (by omega)
  have cz := q2 c hc.1 hc.2
  have t1 : Int.tdiv A.2.2.1 2048 * A.1 c = bdA A c := by rw [tdv (by omega)]; rfl
  rw [q3, cz, gZ_uF, cz, t1, wr_id (z := 2048 - A.1 c) (by omega) (by omega), tdv (x := 2048 - A.1 c) (by omega)] at st
  unfold stA
  rw [if_neg (by omega)]
  -- the new width and chance
  have upd : ∀ (h1 : am_H) (L nw v : Int), MF h1 M A.1 L A.2.2.1 A.2.2.2 → (0 ≤ nw ∧ nw ≤ 4294967295) → (-100000 ≤ v ∧ v ≤ 100000) → Md (SM M) h1 (uZ (uF 10 h1 M 36 (.long (mL nw))) (M + 19) c v) ∧ MF (uZ (uF 10 h1 M 36 (.long (mL nw))) (M + 19) c v) M (setA A.1 c v) L nw A.2.2.2 := by
    intro h1 L nw v ⟨k1, p2, p3, p4, p5⟩ hn hv
    have ma : Md (fun c k => c = M ∧ k = 36) h1 (uF 10 h1 M 36 (.long (mL nw))) := Md_uF (Sm_uF_10_36 _ _ _)
    have mb : Md (fun c _ => c = M + 19) (uF 10 h1 M 36 (.long (mL nw))) (uZ (uF 10 h1 M 36 (.long (mL nw))) (M + 19) c v) := Md_uZ _ _ _ _
    have ka := K10_sm ma.1 k1
    refine ⟨Md_tr (Md_mono ma fun c k q => Or.inr (Or.inr ⟨q.1, Or.inl q.2⟩)) (Md_mono mb fun c k q => Or.inr (Or.inl q)), K10_sm mb.1 ka, fun i i0 i1 => ?_, ?_, ?_, ?_⟩
    · rw [gZ_uZ' (sh1 (K10_s35 ka)), wr_id (z := v) (by omega) (by omega)]
      unfold setA
      split
      · rfl
      · rw [gZ_uF]; exact p2 i i0 i1
    · rw [fJ_uZ, fJ_uF_eq (K10_s k1) (okf_10_36 _), wl_id (by omega) (by omega)]
    · rw [fZ_uZ, fZ_uF_k (by decide)]; exact p4
    · rw [md_Z mb (by omega), md_Z ma (by omega)]; exact p5
  cases b with
  | false =>
    have x0 := hb.mpr rfl
    rw [if_pos x0] at st
    obtain ⟨m1, f1⟩ := upd h A.2.1 (bdA A c) (A.1 c + (2048 - A.1 c) / 32) q (by omega) (by omega)
    obtain ⟨h2, e2, m2, r2⟩ := widens_ok f1 hl (by omega)
    rw [e2, cl_n, b_X12_says_88] at st
    rw [if_neg (show ¬ ((c, false) : Int × Bool).2 = true from Bool.false_ne_true)]
    exact ⟨h2, st, Md_tr m1 m2, r2⟩
  | true =>
    have x0 : ¬ x' = 0 := fun q => by have := hb.mp q; cases this
    rw [if_neg x0] at st
    obtain ⟨h1, e1, m1, f1⟩ := adds_ok (a := bdA A c) q hl (by omega) (by omega)
    have st2 := b_X12_says_26 (a0 := M) (v2 := .int (mI x2)) (j3 := bdA A c) (h := h1) w1 f1.1 (by omega)
    rw [f1.2.2.1, gZ_uF, f1.2.1 c hc.1 hc.2, tdv (x := A.1 c) (by omega)] at st2
    obtain ⟨m2, f2⟩ := upd h1 (A.2.1 + bdA A c) (A.2.2.1 - bdA A c) (A.1 c - A.1 c / 32) f1 (by omega) (by omega)
    obtain ⟨h3, e3, m3, r3⟩ := widens_ok f2 hl (by omega)
    rw [e3, cl_n, b_X12_says_88] at st2
    rw [e1, cl_n] at st
    rw [if_pos rfl]
    exact ⟨h3, st.trans st2, Md_tr (Md_mono m1 fun c k q => Or.inl q) (Md_tr m2 m3), r3⟩
theorem saysPlain_ok {h : am_H} {M : Nat} {A : cA} {x1 x' : Int} {b : Bool} (w1 : wr x1 = x') (hb : x' = 0 ↔ b = false) (q : MR h M A) (ok : okA A) (hl : A.2.2.2 ≤ 4000) : ∃ h', rn m_X12_saysPlain 0 [.ref M, .int (mI x1)] [] h = some (.inl none, h') ∧ Md (SM M) h h' ∧ MR h' M (stA A (-1, b)) := by
  obtain ⟨k, q2, q3, q4, q5⟩ := id q
  have o2 := ok.2.1
  have o4 := ok.2.2
  have st := b_X12_saysPlain_0 (a0 := M) (h := h) w1 k
  rw [q3, tdv (by omega)] at st
  unfold stA
  rw [if_pos (show (((-1 : Int), b) : Int × Bool).1 < 0 from (by decide : (-1 : Int) < 0))]
  have ma : Md (fun c k => c = M ∧ k = 36) h (uF 10 h M 36 (.long (mL (A.2.2.1 / 2)))) := Md_uF (Sm_uF_10_36 _ _ _)
  have f1 : MF (uF 10 h M 36 (.long (mL (A.2.2.1 / 2)))) M A.1 A.2.1 (A.2.2.1 / 2) A.2.2.2 := ⟨K10_sm ma.1 k, fun i i0 i1 => by rw [md_gZ ma (by omega)]; exact q2 i i0 i1, by rw [fJ_uF_eq (K10_s k) (okf_10_36 _), wl_id (by omega) (by omega)], by rw [fZ_uF_k (by decide)]; exact q4, by rw [md_Z ma (by omega)]; exact q5⟩
  generalize uF 10 h M 36 (.long (mL (A.2.2.1 / 2))) = h1 at *
  have m1 : Md (SM M) h h1 := Md_mono ma fun c k q => Or.inr (Or.inr ⟨q.1, Or.inl q.2⟩)
  cases b with
  | false =>
    rw [if_pos (hb.mpr rfl), b_X12_saysPlain_24 f1.1] at st
    obtain ⟨h2, e2, m2, r2⟩ := widens_ok f1 hl (by omega)
    rw [e2, cl_n, b_X12_saysPlain_28] at st
    rw [if_neg (show ¬ (((-1 : Int), false) : Int × Bool).2 = true from Bool.false_ne_true), Int.add_zero]
    exact ⟨h2, st, Md_tr m1 m2, r2⟩
  | true =>
    rw [if_neg (fun q => by have := hb.mp q; cases this)] at st
    obtain ⟨h2, e2, m2, f2⟩ := adds_ok (a := A.2.2.1 / 2) f1 hl (by omega) (by omega)
    obtain ⟨h3, e3, m3, r3⟩ := widens_ok f2 hl (by omega)
    rw [e2, cl_n, b_X12_saysPlain_24 f2.1, e3, cl_n, b_X12_saysPlain_28] at st
    rw [if_pos rfl]
    exact ⟨h3, st, Md_tr m1 (Md_tr (Md_mono m2 fun c k q => Or.inl q) m3), r3⟩
