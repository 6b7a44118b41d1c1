/-! ===== the law's blocks ===== -/
theorem i_X11_meanBits_0 : am_i m_X11_meanBits 0 = some (0, .aload_n 0, 1, [], 0) := rfl
theorem i_X11_meanBits_1 : am_i m_X11_meanBits 1 = some (1, .getfield 43, 3, [9, 8, 0], 0) := rfl
theorem i_X11_meanBits_4 : am_i m_X11_meanBits 4 = some (4, .ifCond .ne 14, 3, [], 0) := rfl
theorem i_X11_meanBits_7 : am_i m_X11_meanBits 7 = some (7, .new 305, 3, [5, 0], 0) := rfl
theorem i_X11_meanBits_18 : am_i m_X11_meanBits 18 = some (18, .iconst 0, 1, [], 0) := rfl
theorem i_X11_meanBits_19 : am_i m_X11_meanBits 19 = some (19, .istore_n 1, 1, [], 0) := rfl
theorem i_X11_meanBits_20 : am_i m_X11_meanBits 20 = some (20, .iconst 0, 1, [], 0) := rfl
theorem i_X11_meanBits_21 : am_i m_X11_meanBits 21 = some (21, .istore_n 2, 1, [], 0) := rfl
theorem b_X11_meanBits_0 {a0 : Nat} {h : am_H} (k1 : K9 h a0) : rn m_X11_meanBits 0 [.ref a0, am_J, am_J] [] h = if ¬ (fZ h a0 8) = 0 then rn m_X11_meanBits 22 [.ref a0, .int (mI 0), .int (mI 0)] [] h else some (.inr 5, hexc h) := by
  refine (tq_aload_n i_X11_meanBits_0 rfl (isA_ref _) rfl).trans ?_
  refine (tq_getfield i_X11_meanBits_1 (K9_s k1) (g_9_8 (K9_s k1)) (isV_I _) rfl).trans ?_
  refine (tq_if_ne (pt := 18) i_X11_meanBits_4 (wr_fZ _ _ _) (by decide) rfl).trans ?_
  refine ite_congr rfl (fun c1 => ?_) (fun c1 => ?_)
  · refine (tq_iconst i_X11_meanBits_18 rfl).trans ?_
    refine (tq_istore_n (L' := [.ref a0, .int (mI 0), am_J]) i_X11_meanBits_19 rfl rfl).trans ?_
    refine (tq_iconst i_X11_meanBits_20 rfl).trans ?_
    refine (tq_istore_n (L' := [.ref a0, .int (mI 0), .int (mI 0)]) i_X11_meanBits_21 rfl rfl).trans ?_
    rfl
  · exact tq_newx i_X11_meanBits_7
theorem i_X11_cleanShare_0 : am_i m_X11_cleanShare 0 = some (0, .aload_n 0, 1, [], 0) := rfl
theorem i_X11_cleanShare_1 : am_i m_X11_cleanShare 1 = some (1, .getfield 74, 3, [9, 14, 0], 0) := rfl
theorem i_X11_cleanShare_4 : am_i m_X11_cleanShare 4 = some (4, .getfield 309, 3, [3, 10, 1], 0) := rfl
theorem i_X11_cleanShare_7 : am_i m_X11_cleanShare 7 = some (7, .ifCond .ne 14, 3, [], 0) := rfl
theorem i_X11_cleanShare_10 : am_i m_X11_cleanShare 10 = some (10, .new 305, 3, [5, 0], 0) := rfl
theorem i_X11_cleanShare_21 : am_i m_X11_cleanShare 21 = some (21, .aload_n 0, 1, [], 0) := rfl
theorem i_X11_cleanShare_22 : am_i m_X11_cleanShare 22 = some (22, .getfield 74, 3, [9, 14, 0], 0) := rfl
theorem i_X11_cleanShare_25 : am_i m_X11_cleanShare 25 = some (25, .getfield 314, 3, [3, 11, 1], 0) := rfl
theorem i_X11_cleanShare_28 : am_i m_X11_cleanShare 28 = some (28, .i2f, 1, [], 0) := rfl
theorem i_X11_cleanShare_29 : am_i m_X11_cleanShare 29 = some (29, .aload_n 0, 1, [], 0) := rfl
theorem i_X11_cleanShare_30 : am_i m_X11_cleanShare 30 = some (30, .getfield 74, 3, [9, 14, 0], 0) := rfl
theorem i_X11_cleanShare_33 : am_i m_X11_cleanShare 33 = some (33, .getfield 309, 3, [3, 10, 1], 0) := rfl
theorem i_X11_cleanShare_36 : am_i m_X11_cleanShare 36 = some (36, .i2f, 1, [], 0) := rfl
theorem i_X11_cleanShare_37 : am_i m_X11_cleanShare 37 = some (37, .fdiv, 1, [], 0) := rfl
theorem i_X11_cleanShare_38 : am_i m_X11_cleanShare 38 = some (38, .freturn, 1, [], 0) := rfl
theorem b_X11_cleanShare_0 {a0 : Nat} {h : am_H} (k1 : K9 h a0) (g2 : (¬ (fZ h (a0 + 34) 10) = 0) → (decide (FP.fdiv (FP.i2f (mI (fZ h (a0 + 34) 11))) (FP.i2f (mI (fZ h (a0 + 34) 10))) &&& 0x7fffffff ≤ 0x7f800000) = true)) : rn m_X11_cleanShare 0 [.ref a0] [] h = if ¬ (fZ h (a0 + 34) 10) = 0 then some (.inl (some (.float (FP.fdiv (FP.i2f (mI (fZ h (a0 + 34) 11))) (FP.i2f (mI (fZ h (a0 + 34) 10)))))), h) else some (.inr 5, hexc h) := by
  refine (tq_aload_n i_X11_cleanShare_0 rfl (isA_ref _) rfl).trans ?_
  refine (tq_getfield i_X11_cleanShare_1 (K9_s k1) (gR (g_9_14 (K9_s k1)) (K9_e14 k1)) (isV_ref _) rfl).trans ?_
  refine (tq_getfield i_X11_cleanShare_4 (K3_s (K9_k14 k1)) (g_3_10 (K3_s (K9_k14 k1))) (isV_I _) rfl).trans ?_
  refine (tq_if_ne (pt := 21) i_X11_cleanShare_7 (wr_fZ _ _ _) (by decide) rfl).trans ?_
  refine ite_congr rfl (fun c1 => ?_) (fun c1 => ?_)
  · refine (tq_aload_n i_X11_cleanShare_21 rfl (isA_ref _) rfl).trans ?_
    refine (tq_getfield i_X11_cleanShare_22 (K9_s k1) (gR (g_9_14 (K9_s k1)) (K9_e14 k1)) (isV_ref _) rfl).trans ?_
    refine (tq_getfield i_X11_cleanShare_25 (K3_s (K9_k14 k1)) (g_3_11 (K3_s (K9_k14 k1))) (isV_I _) rfl).trans ?_
    refine (tq_i2f i_X11_cleanShare_28 rfl).trans ?_
    refine (tq_aload_n i_X11_cleanShare_29 rfl (isA_ref _) rfl).trans ?_
    refine (tq_getfield i_X11_cleanShare_30 (K9_s k1) (gR (g_9_14 (K9_s k1)) (K9_e14 k1)) (isV_ref _) rfl).trans ?_
    refine (tq_getfield i_X11_cleanShare_33 (K3_s (K9_k14 k1)) (g_3_10 (K3_s (K9_k14 k1))) (isV_I _) rfl).trans ?_
    refine (tq_i2f i_X11_cleanShare_36 rfl).trans ?_
    refine (tq_fdiv i_X11_cleanShare_37 (g2 c1) rfl).trans ?_
    exact tq_freturn i_X11_cleanShare_38 r_X11_cleanShare
  · exact tq_newx i_X11_cleanShare_10
theorem i_L_law_0 : am_i m_L_law 0 = some (0, .new 8, 3, [9], 0) := (lk_law_0).trans rfl
theorem b_L_law_0 {a0 : Nat} {h : am_H} : rn m_L_law 0 [.ref a0, am_J, am_J, am_J, am_J, am_J, am_J, am_J, am_J, am_J, am_J] [] h = rn m_L_law 3 [.ref a0, am_J, am_J, am_J, am_J, am_J, am_J, am_J, am_J, am_J, am_J] [.ref (hnx h)] (aO 9 h) := by
  exact tq_new i_L_law_0 rfl
theorem i_L_law_3 : am_i m_L_law 3 = some (3, .dup, 1, [], 0) := (lk_law_0).trans rfl
theorem i_L_law_4 : am_i m_L_law 4 = some (4, .invokespecial 162, 3, [98], 0) := (lk_law_0).trans rfl
theorem b_L_law_3 {a0 as0 : Nat} {v1 v2 v3 v4 v5 v6 v7 v8 v9 v10 : Value} {h : am_H} : rn m_L_law 3 [.ref a0, v1, v2, v3, v4, v5, v6, v7, v8, v9, v10] [.ref as0] h = cl m_L_law 7 [.ref a0, v1, v2, v3, v4, v5, v6, v7, v8, v9, v10] [.ref as0] (rn m_X11_init 0 [.ref as0] [] h) := by
  refine (tq_dup i_L_law_3 rfl rfl).trans ?_
  exact c_X11_init i_L_law_4 (ltd d_L_law (by decide)) (stOk_1 _) rfl
theorem i_L_law_7 : am_i m_L_law 7 = some (7, .astore_n 1, 1, [], 0) := (lk_law_0).trans rfl
theorem i_L_law_8 : am_i m_L_law 8 = some (8, .sipush 256, 3, [], 256) := (lk_law_0).trans rfl
theorem i_L_law_11 : am_i m_L_law 11 = some (11, .newarray .int, 2, [], 0) := (lk_law_0).trans rfl
theorem b_L_law_7 {a0 as0 : Nat} {v1 v2 v3 v4 v5 v6 v7 v8 v9 v10 : Value} {h : am_H} : rn m_L_law 7 [.ref a0, v1, v2, v3, v4, v5, v6, v7, v8, v9, v10] [.ref as0] h = rn m_L_law 13 [.ref a0, .ref as0, v2, v3, v4, v5, v6, v7, v8, v9, v10] [.ref (hnx h)] (aI 0 256 h) := by
  refine (tq_astore_n (L' := [.ref a0, .ref as0, v2, v3, v4, v5, v6, v7, v8, v9, v10]) i_L_law_7 (isA_ref _) rfl rfl).trans ?_
  refine (tq_sipush i_L_law_8 rfl).trans ?_
  exact tq_newI (n := 256) (t := 0) i_L_law_11 w_256 (by decide) rfl (by decide) rfl rfl
theorem i_L_law_13 : am_i m_L_law 13 = some (13, .astore_n 2, 1, [], 0) := (lk_law_0).trans rfl
theorem i_L_law_14 : am_i m_L_law 14 = some (14, .aload_n 1, 1, [], 0) := (lk_law_0).trans rfl
theorem i_L_law_15 : am_i m_L_law 15 = some (15, .aload_n 2, 1, [], 0) := (lk_law_0).trans rfl
theorem i_L_law_16 : am_i m_L_law 16 = some (16, .invokestatic 158, 3, [146], 0) := (lk_law_0).trans rfl
theorem b_L_law_13 {a0 a1 as0 : Nat} {v2 v3 v4 v5 v6 v7 v8 v9 v10 : Value} {h : am_H} : rn m_L_law 13 [.ref a0, .ref a1, v2, v3, v4, v5, v6, v7, v8, v9, v10] [.ref as0] h = cl m_L_law 19 [.ref a0, .ref a1, .ref as0, v3, v4, v5, v6, v7, v8, v9, v10] [] (rn m_L_isLike 0 [.ref a1, .ref as0, am_J] [] h) := by
  refine (tq_astore_n (L' := [.ref a0, .ref a1, .ref as0, v3, v4, v5, v6, v7, v8, v9, v10]) i_L_law_13 (isA_ref _) rfl rfl).trans ?_
  refine (tq_aload_n i_L_law_14 rfl (isA_ref _) rfl).trans ?_
  refine (tq_aload_n i_L_law_15 rfl (isA_ref _) rfl).trans ?_
  exact c_L_isLike i_L_law_16 (ltd d_L_law (by decide)) (isA_ref _) (isA_ref _) stOk_0 rfl
theorem i_L_law_19 : am_i m_L_law 19 = some (19, .ifCond .eq 105, 3, [], 0) := (lk_law_0).trans rfl
theorem i_L_law_22 : am_i m_L_law 22 = some (22, .aload_n 1, 1, [], 0) := (lk_law_0).trans rfl
theorem i_L_law_23 : am_i m_L_law 23 = some (23, .iconst 1, 1, [], 1) := (lk_law_0).trans rfl
theorem i_L_law_24 : am_i m_L_law 24 = some (24, .invokestatic 173, 3, [140], 0) := (lk_law_0).trans rfl
theorem i_L_law_124 : am_i m_L_law 124 = some (124, .iconst 0, 1, [], 0) := (lk_law_0).trans rfl
theorem i_L_law_125 : am_i m_L_law 125 = some (125, .ireturn, 1, [], 0) := (lk_law_1 (Nat.le_of_ble_eq_true rfl)).trans rfl
theorem b_L_law_19 {a0 a1 a2 : Nat} {v3 v4 v5 v6 v7 v8 v9 v10 : Value} {xs0 xs0' : Int} {h : am_H} (ws0 : wr xs0 = xs0') : rn m_L_law 19 [.ref a0, .ref a1, .ref a2, v3, v4, v5, v6, v7, v8, v9, v10] [.int (mI xs0)] h = if xs0' = 0 then some (.inl (some (.int (mI 0))), h) else cl m_L_law 27 [.ref a0, .ref a1, .ref a2, v3, v4, v5, v6, v7, v8, v9, v10] [] (rn m_L_figure 0 [.ref a1, .int (mI 1), am_J] [] h) := by
  refine (tq_if_eq (pt := 124) i_L_law_19 ws0 (by decide) rfl).trans ?_
  refine ite_congr rfl (fun c1 => ?_) (fun c1 => ?_)
  · refine (tq_iconst i_L_law_124 rfl).trans ?_
    exact tq_ireturn i_L_law_125 r_L_law (okB w_0 (by decide))
  · refine (tq_aload_n i_L_law_22 rfl (isA_ref _) rfl).trans ?_
    refine (tq_iconst i_L_law_23 rfl).trans ?_
    exact c_L_figure i_L_law_24 (ltd d_L_law (by decide)) (isA_ref _) stOk_0 rfl
theorem i_L_law_27 : am_i m_L_law 27 = some (27, .ldc2_w 128, 3, [0], 13841813454723219456) := (lk_law_0).trans rfl
theorem i_L_law_30 : am_i m_L_law 30 = some (30, .dcmp .l, 1, [], 0) := (lk_law_0).trans rfl
theorem i_L_law_31 : am_i m_L_law 31 = some (31, .ifCond .ne 93, 3, [], 0) := (lk_law_0).trans rfl
theorem i_L_law_34 : am_i m_L_law 34 = some (34, .aload_n 1, 1, [], 0) := (lk_law_0).trans rfl
theorem i_L_law_35 : am_i m_L_law 35 = some (35, .iconst 0, 1, [], 0) := (lk_law_0).trans rfl
theorem i_L_law_36 : am_i m_L_law 36 = some (36, .invokestatic 173, 3, [140], 0) := (lk_law_0).trans rfl
theorem b_L_law_27 {a0 a1 a2 : Nat} {v3 v4 v5 v6 v7 v8 v9 v10 : Value} {ds0 : UInt64} {h : am_H} : rn m_L_law 27 [.ref a0, .ref a1, .ref a2, v3, v4, v5, v6, v7, v8, v9, v10] [.double ds0] h = if ¬ (wr ((Op.cmpValue (FP.dcmp ds0 (UInt64.ofNat (13841813454723219456 : Int).toNat)) .l).toInt)) = 0 then some (.inl (some (.int (mI 0))), h) else cl m_L_law 39 [.ref a0, .ref a1, .ref a2, v3, v4, v5, v6, v7, v8, v9, v10] [] (rn m_L_figure 0 [.ref a1, .int (mI 0), am_J] [] h) := by
  refine (tq_ldc2d i_L_law_27 rfl).trans ?_
  refine (tq_dcmp2 i_L_law_30 rfl).trans ?_
  refine (tq_if_ne (pt := 124) i_L_law_31 rfl (by decide) rfl).trans ?_
  refine ite_congr rfl (fun c1 => ?_) (fun c1 => ?_)
  · refine (tq_iconst i_L_law_124 rfl).trans ?_
    exact tq_ireturn i_L_law_125 r_L_law (okB w_0 (by decide))
  · refine (tq_aload_n i_L_law_34 rfl (isA_ref _) rfl).trans ?_
    refine (tq_iconst i_L_law_35 rfl).trans ?_
    exact c_L_figure i_L_law_36 (ltd d_L_law (by decide)) (isA_ref _) stOk_0 rfl
theorem i_L_law_39 : am_i m_L_law 39 = some (39, .ldc2_w 128, 3, [0], 13841813454723219456) := (lk_law_0).trans rfl
theorem i_L_law_42 : am_i m_L_law 42 = some (42, .dcmp .l, 1, [], 0) := (lk_law_0).trans rfl
theorem i_L_law_43 : am_i m_L_law 43 = some (43, .ifCond .ne 81, 3, [], 0) := (lk_law_0).trans rfl
theorem i_L_law_46 : am_i m_L_law 46 = some (46, .aload_n 1, 1, [], 0) := (lk_law_0).trans rfl
theorem i_L_law_47 : am_i m_L_law 47 = some (47, .bipush 98, 2, [], 98) := (lk_law_0).trans rfl
theorem i_L_law_49 : am_i m_L_law 49 = some (49, .iconst 0, 1, [], 0) := (lk_law_0).trans rfl
theorem i_L_law_50 : am_i m_L_law 50 = some (50, .invokestatic 163, 3, [144], 0) := (lk_law_0).trans rfl
theorem b_L_law_39 {a0 a1 a2 : Nat} {v3 v4 v5 v6 v7 v8 v9 v10 : Value} {ds0 : UInt64} {h : am_H} : rn m_L_law 39 [.ref a0, .ref a1, .ref a2, v3, v4, v5, v6, v7, v8, v9, v10] [.double ds0] h = if ¬ (wr ((Op.cmpValue (FP.dcmp ds0 (UInt64.ofNat (13841813454723219456 : Int).toNat)) .l).toInt)) = 0 then some (.inl (some (.int (mI 0))), h) else cl m_L_law 53 [.ref a0, .ref a1, .ref a2, v3, v4, v5, v6, v7, v8, v9, v10] [] (rn m_L_ask 0 [.ref a1, .int (mI 98), .int (mI 0), am_J] [] h) := by
  refine (tq_ldc2d i_L_law_39 rfl).trans ?_
  refine (tq_dcmp2 i_L_law_42 rfl).trans ?_
  refine (tq_if_ne (pt := 124) i_L_law_43 rfl (by decide) rfl).trans ?_
  refine ite_congr rfl (fun c1 => ?_) (fun c1 => ?_)
  · refine (tq_iconst i_L_law_124 rfl).trans ?_
    exact tq_ireturn i_L_law_125 r_L_law (okB w_0 (by decide))
  · refine (tq_aload_n i_L_law_46 rfl (isA_ref _) rfl).trans ?_
    refine (tq_bipush i_L_law_47 rfl).trans ?_
    refine (tq_iconst i_L_law_49 rfl).trans ?_
    exact c_L_ask i_L_law_50 (ltd d_L_law (by decide)) (isA_ref _) stOk_0 rfl
theorem i_L_law_53 : am_i m_L_law 53 = some (53, .sipush (-1005), 3, [], -1005) := (lk_law_0).trans rfl
theorem i_L_law_56 : am_i m_L_law 56 = some (56, .if_icmp .ne 68, 3, [], 0) := (lk_law_0).trans rfl
theorem i_L_law_59 : am_i m_L_law 59 = some (59, .aload_n 1, 1, [], 0) := (lk_law_0).trans rfl
theorem i_L_law_60 : am_i m_L_law 60 = some (60, .bipush 119, 2, [], 119) := (lk_law_0).trans rfl
theorem i_L_law_62 : am_i m_L_law 62 = some (62, .iconst 0, 1, [], 0) := (lk_law_0).trans rfl
theorem i_L_law_63 : am_i m_L_law 63 = some (63, .invokestatic 163, 3, [144], 0) := (lk_law_0).trans rfl
theorem b_L_law_53 {a0 a1 a2 : Nat} {v3 v4 v5 v6 v7 v8 v9 v10 : Value} {xs0 xs0' : Int} {h : am_H} (ws0 : wr xs0 = xs0') : rn m_L_law 53 [.ref a0, .ref a1, .ref a2, v3, v4, v5, v6, v7, v8, v9, v10] [.int (mI xs0)] h = if ¬ xs0' = (-1005) then some (.inl (some (.int (mI 0))), h) else cl m_L_law 66 [.ref a0, .ref a1, .ref a2, v3, v4, v5, v6, v7, v8, v9, v10] [] (rn m_L_ask 0 [.ref a1, .int (mI 119), .int (mI 0), am_J] [] h) := by
  refine (tq_sipush i_L_law_53 rfl).trans ?_
  refine (tq_icmp_ne (pt := 124) i_L_law_56 ws0 w_m1005 (by decide) rfl).trans ?_
  refine ite_congr rfl (fun c1 => ?_) (fun c1 => ?_)
  · refine (tq_iconst i_L_law_124 rfl).trans ?_
    exact tq_ireturn i_L_law_125 r_L_law (okB w_0 (by decide))
  · refine (tq_aload_n i_L_law_59 rfl (isA_ref _) rfl).trans ?_
    refine (tq_bipush i_L_law_60 rfl).trans ?_
    refine (tq_iconst i_L_law_62 rfl).trans ?_
    exact c_L_ask i_L_law_63 (ltd d_L_law (by decide)) (isA_ref _) stOk_0 rfl
theorem i_L_law_66 : am_i m_L_law 66 = some (66, .sipush (-1005), 3, [], -1005) := (lk_law_0).trans rfl
theorem i_L_law_69 : am_i m_L_law 69 = some (69, .if_icmp .ne 55, 3, [], 0) := (lk_law_0).trans rfl
theorem i_L_law_72 : am_i m_L_law 72 = some (72, .aload_n 1, 1, [], 0) := (lk_law_0).trans rfl
theorem i_L_law_73 : am_i m_L_law 73 = some (73, .bipush 102, 2, [], 102) := (lk_law_0).trans rfl
theorem i_L_law_75 : am_i m_L_law 75 = some (75, .iconst 0, 1, [], 0) := (lk_law_0).trans rfl
theorem i_L_law_76 : am_i m_L_law 76 = some (76, .invokestatic 163, 3, [144], 0) := (lk_law_0).trans rfl
theorem b_L_law_66 {a0 a1 a2 : Nat} {v3 v4 v5 v6 v7 v8 v9 v10 : Value} {xs0 xs0' : Int} {h : am_H} (ws0 : wr xs0 = xs0') : rn m_L_law 66 [.ref a0, .ref a1, .ref a2, v3, v4, v5, v6, v7, v8, v9, v10] [.int (mI xs0)] h = if ¬ xs0' = (-1005) then some (.inl (some (.int (mI 0))), h) else cl m_L_law 79 [.ref a0, .ref a1, .ref a2, v3, v4, v5, v6, v7, v8, v9, v10] [] (rn m_L_ask 0 [.ref a1, .int (mI 102), .int (mI 0), am_J] [] h) := by
  refine (tq_sipush i_L_law_66 rfl).trans ?_
  refine (tq_icmp_ne (pt := 124) i_L_law_69 ws0 w_m1005 (by decide) rfl).trans ?_
  refine ite_congr rfl (fun c1 => ?_) (fun c1 => ?_)
  · refine (tq_iconst i_L_law_124 rfl).trans ?_
    exact tq_ireturn i_L_law_125 r_L_law (okB w_0 (by decide))
  · refine (tq_aload_n i_L_law_72 rfl (isA_ref _) rfl).trans ?_
    refine (tq_bipush i_L_law_73 rfl).trans ?_
    refine (tq_iconst i_L_law_75 rfl).trans ?_
    exact c_L_ask i_L_law_76 (ltd d_L_law (by decide)) (isA_ref _) stOk_0 rfl
theorem i_L_law_79 : am_i m_L_law 79 = some (79, .sipush (-1005), 3, [], -1005) := (lk_law_0).trans rfl
theorem i_L_law_82 : am_i m_L_law 82 = some (82, .if_icmp .ne 42, 3, [], 0) := (lk_law_0).trans rfl
theorem i_L_law_85 : am_i m_L_law 85 = some (85, .aload_n 1, 1, [], 0) := (lk_law_0).trans rfl
theorem i_L_law_86 : am_i m_L_law 86 = some (86, .bipush 108, 2, [], 108) := (lk_law_0).trans rfl
theorem i_L_law_88 : am_i m_L_law 88 = some (88, .iconst 0, 1, [], 0) := (lk_law_0).trans rfl
theorem i_L_law_89 : am_i m_L_law 89 = some (89, .invokestatic 163, 3, [144], 0) := (lk_law_0).trans rfl
theorem b_L_law_79 {a0 a1 a2 : Nat} {v3 v4 v5 v6 v7 v8 v9 v10 : Value} {xs0 xs0' : Int} {h : am_H} (ws0 : wr xs0 = xs0') : rn m_L_law 79 [.ref a0, .ref a1, .ref a2, v3, v4, v5, v6, v7, v8, v9, v10] [.int (mI xs0)] h = if ¬ xs0' = (-1005) then some (.inl (some (.int (mI 0))), h) else cl m_L_law 92 [.ref a0, .ref a1, .ref a2, v3, v4, v5, v6, v7, v8, v9, v10] [] (rn m_L_ask 0 [.ref a1, .int (mI 108), .int (mI 0), am_J] [] h) := by
  refine (tq_sipush i_L_law_79 rfl).trans ?_
  refine (tq_icmp_ne (pt := 124) i_L_law_82 ws0 w_m1005 (by decide) rfl).trans ?_
  refine ite_congr rfl (fun c1 => ?_) (fun c1 => ?_)
  · refine (tq_iconst i_L_law_124 rfl).trans ?_
    exact tq_ireturn i_L_law_125 r_L_law (okB w_0 (by decide))
  · refine (tq_aload_n i_L_law_85 rfl (isA_ref _) rfl).trans ?_
    refine (tq_bipush i_L_law_86 rfl).trans ?_
    refine (tq_iconst i_L_law_88 rfl).trans ?_
    exact c_L_ask i_L_law_89 (ltd d_L_law (by decide)) (isA_ref _) stOk_0 rfl
theorem i_L_law_92 : am_i m_L_law 92 = some (92, .sipush (-1005), 3, [], -1005) := (lk_law_0).trans rfl
theorem i_L_law_95 : am_i m_L_law 95 = some (95, .if_icmp .ne 29, 3, [], 0) := (lk_law_0).trans rfl
theorem i_L_law_98 : am_i m_L_law 98 = some (98, .aload_n 1, 1, [], 0) := (lk_law_0).trans rfl
theorem i_L_law_99 : am_i m_L_law 99 = some (99, .bipush 109, 2, [], 109) := (lk_law_0).trans rfl
theorem i_L_law_101 : am_i m_L_law 101 = some (101, .iconst 0, 1, [], 0) := (lk_law_0).trans rfl
theorem i_L_law_102 : am_i m_L_law 102 = some (102, .invokestatic 163, 3, [144], 0) := (lk_law_0).trans rfl
theorem b_L_law_92 {a0 a1 a2 : Nat} {v3 v4 v5 v6 v7 v8 v9 v10 : Value} {xs0 xs0' : Int} {h : am_H} (ws0 : wr xs0 = xs0') : rn m_L_law 92 [.ref a0, .ref a1, .ref a2, v3, v4, v5, v6, v7, v8, v9, v10] [.int (mI xs0)] h = if ¬ xs0' = (-1005) then some (.inl (some (.int (mI 0))), h) else cl m_L_law 105 [.ref a0, .ref a1, .ref a2, v3, v4, v5, v6, v7, v8, v9, v10] [] (rn m_L_ask 0 [.ref a1, .int (mI 109), .int (mI 0), am_J] [] h) := by
  refine (tq_sipush i_L_law_92 rfl).trans ?_
  refine (tq_icmp_ne (pt := 124) i_L_law_95 ws0 w_m1005 (by decide) rfl).trans ?_
  refine ite_congr rfl (fun c1 => ?_) (fun c1 => ?_)
  · refine (tq_iconst i_L_law_124 rfl).trans ?_
    exact tq_ireturn i_L_law_125 r_L_law (okB w_0 (by decide))
  · refine (tq_aload_n i_L_law_98 rfl (isA_ref _) rfl).trans ?_
    refine (tq_bipush i_L_law_99 rfl).trans ?_
    refine (tq_iconst i_L_law_101 rfl).trans ?_
    exact c_L_ask i_L_law_102 (ltd d_L_law (by decide)) (isA_ref _) stOk_0 rfl
theorem i_L_law_105 : am_i m_L_law 105 = some (105, .sipush (-1005), 3, [], -1005) := (lk_law_0).trans rfl
theorem i_L_law_108 : am_i m_L_law 108 = some (108, .if_icmp .ne 16, 3, [], 0) := (lk_law_0).trans rfl
theorem i_L_law_111 : am_i m_L_law 111 = some (111, .aload_n 1, 1, [], 0) := (lk_law_0).trans rfl
theorem i_L_law_112 : am_i m_L_law 112 = some (112, .bipush 100, 2, [], 100) := (lk_law_0).trans rfl
theorem i_L_law_114 : am_i m_L_law 114 = some (114, .iconst 0, 1, [], 0) := (lk_law_0).trans rfl
theorem i_L_law_115 : am_i m_L_law 115 = some (115, .invokestatic 163, 3, [144], 0) := (lk_law_0).trans rfl
theorem b_L_law_105 {a0 a1 a2 : Nat} {v3 v4 v5 v6 v7 v8 v9 v10 : Value} {xs0 xs0' : Int} {h : am_H} (ws0 : wr xs0 = xs0') : rn m_L_law 105 [.ref a0, .ref a1, .ref a2, v3, v4, v5, v6, v7, v8, v9, v10] [.int (mI xs0)] h = if ¬ xs0' = (-1005) then some (.inl (some (.int (mI 0))), h) else cl m_L_law 118 [.ref a0, .ref a1, .ref a2, v3, v4, v5, v6, v7, v8, v9, v10] [] (rn m_L_ask 0 [.ref a1, .int (mI 100), .int (mI 0), am_J] [] h) := by
  refine (tq_sipush i_L_law_105 rfl).trans ?_
  refine (tq_icmp_ne (pt := 124) i_L_law_108 ws0 w_m1005 (by decide) rfl).trans ?_
  refine ite_congr rfl (fun c1 => ?_) (fun c1 => ?_)
  · refine (tq_iconst i_L_law_124 rfl).trans ?_
    exact tq_ireturn i_L_law_125 r_L_law (okB w_0 (by decide))
  · refine (tq_aload_n i_L_law_111 rfl (isA_ref _) rfl).trans ?_
    refine (tq_bipush i_L_law_112 rfl).trans ?_
    refine (tq_iconst i_L_law_114 rfl).trans ?_
    exact c_L_ask i_L_law_115 (ltd d_L_law (by decide)) (isA_ref _) stOk_0 rfl
theorem i_L_law_118 : am_i m_L_law 118 = some (118, .sipush (-1005), 3, [], -1005) := (lk_law_0).trans rfl
theorem i_L_law_121 : am_i m_L_law 121 = some (121, .if_icmp .eq 5, 3, [], 0) := (lk_law_0).trans rfl
theorem i_L_law_126 : am_i m_L_law 126 = some (126, .aload_n 0, 1, [], 0) := (lk_law_1 (Nat.le_of_ble_eq_true rfl)).trans rfl
theorem i_L_law_127 : am_i m_L_law 127 = some (127, .iconst 0, 1, [], 0) := (lk_law_1 (Nat.le_of_ble_eq_true rfl)).trans rfl
theorem i_L_law_128 : am_i m_L_law 128 = some (128, .invokestatic 177, 3, [0], 0) := (lk_law_1 (Nat.le_of_ble_eq_true rfl)).trans rfl
theorem b_L_law_118 {a0 a1 a2 : Nat} {v3 v4 v5 v6 v7 v8 v9 v10 : Value} {xs0 xs0' : Int} {h : am_H} (ws0 : wr xs0 = xs0') : rn m_L_law 118 [.ref a0, .ref a1, .ref a2, v3, v4, v5, v6, v7, v8, v9, v10] [.int (mI xs0)] h = if xs0' = (-1005) then cl m_L_law 131 [.ref a0, .ref a1, .ref a2, v3, v4, v5, v6, v7, v8, v9, v10] [] (rn m_L_at 0 [.ref a0, .int (mI 0)] [] h) else some (.inl (some (.int (mI 0))), h) := by
  refine (tq_sipush i_L_law_118 rfl).trans ?_
  refine (tq_icmp_eq (pt := 126) i_L_law_121 ws0 w_m1005 (by decide) rfl).trans ?_
  refine ite_congr rfl (fun c1 => ?_) (fun c1 => ?_)
  · refine (tq_aload_n i_L_law_126 rfl (isA_ref _) rfl).trans ?_
    refine (tq_iconst i_L_law_127 rfl).trans ?_
    exact c_L_at i_L_law_128 (ltd d_L_law (by decide)) (isA_ref _) stOk_0 rfl
  · refine (tq_iconst i_L_law_124 rfl).trans ?_
    exact tq_ireturn i_L_law_125 r_L_law (okB w_0 (by decide))
theorem i_L_law_131 : am_i m_L_law 131 = some (131, .bipush 40, 2, [], 40) := (lk_law_1 (Nat.le_of_ble_eq_true rfl)).trans rfl
theorem i_L_law_133 : am_i m_L_law 133 = some (133, .invokestatic 181, 3, [1], 0) := (lk_law_1 (Nat.le_of_ble_eq_true rfl)).trans rfl
theorem b_L_law_131 {a0 a1 a2 : Nat} {v3 v4 v5 v6 v7 v8 v9 v10 : Value} {xs0 : Int} {h : am_H} : rn m_L_law 131 [.ref a0, .ref a1, .ref a2, v3, v4, v5, v6, v7, v8, v9, v10] [.int (mI xs0)] h = cl m_L_law 136 [.ref a0, .ref a1, .ref a2, v3, v4, v5, v6, v7, v8, v9, v10] [] (rn m_L_some 0 [.int (mI xs0), .int (mI 40), am_J] [] h) := by
  refine (tq_bipush i_L_law_131 rfl).trans ?_
  exact c_L_some i_L_law_133 (ltd d_L_law (by decide)) stOk_0 rfl
theorem i_L_law_136 : am_i m_L_law 136 = some (136, .istore_n 3, 1, [], 0) := (lk_law_1 (Nat.le_of_ble_eq_true rfl)).trans rfl
theorem i_L_law_137 : am_i m_L_law 137 = some (137, .iconst 0, 1, [], 0) := (lk_law_1 (Nat.le_of_ble_eq_true rfl)).trans rfl
theorem i_L_law_138 : am_i m_L_law 138 = some (138, .istore 4, 2, [], 0) := (lk_law_1 (Nat.le_of_ble_eq_true rfl)).trans rfl
theorem i_L_law_140 : am_i m_L_law 140 = some (140, .iconst 0, 1, [], 0) := (lk_law_1 (Nat.le_of_ble_eq_true rfl)).trans rfl
theorem i_L_law_141 : am_i m_L_law 141 = some (141, .istore 5, 2, [], 0) := (lk_law_1 (Nat.le_of_ble_eq_true rfl)).trans rfl
theorem b_L_law_136 {a0 a1 a2 : Nat} {v3 v4 v5 v6 v7 v8 v9 v10 : Value} {xs0 : Int} {h : am_H} : rn m_L_law 136 [.ref a0, .ref a1, .ref a2, v3, v4, v5, v6, v7, v8, v9, v10] [.int (mI xs0)] h = rn m_L_law 143 [.ref a0, .ref a1, .ref a2, .int (mI xs0), .int (mI 0), .int (mI 0), v6, v7, v8, v9, v10] [] h := by
  refine (tq_istore_n (L' := [.ref a0, .ref a1, .ref a2, .int (mI xs0), v4, v5, v6, v7, v8, v9, v10]) i_L_law_136 rfl rfl).trans ?_
  refine (tq_iconst i_L_law_137 rfl).trans ?_
  refine (tq_istore (L' := [.ref a0, .ref a1, .ref a2, .int (mI xs0), .int (mI 0), v5, v6, v7, v8, v9, v10]) i_L_law_138 rfl rfl).trans ?_
  refine (tq_iconst i_L_law_140 rfl).trans ?_
  refine (tq_istore (L' := [.ref a0, .ref a1, .ref a2, .int (mI xs0), .int (mI 0), .int (mI 0), v6, v7, v8, v9, v10]) i_L_law_141 rfl rfl).trans ?_
  rfl
theorem i_L_law_143 : am_i m_L_law 143 = some (143, .iload 5, 2, [], 0) := (lk_law_1 (Nat.le_of_ble_eq_true rfl)).trans rfl
theorem i_L_law_145 : am_i m_L_law 145 = some (145, .iload_n 3, 1, [], 0) := (lk_law_1 (Nat.le_of_ble_eq_true rfl)).trans rfl
theorem i_L_law_146 : am_i m_L_law 146 = some (146, .if_icmp .ge 136, 3, [], 0) := (lk_law_1 (Nat.le_of_ble_eq_true rfl)).trans rfl
theorem i_L_law_149 : am_i m_L_law 149 = some (149, .aload_n 0, 1, [], 0) := (lk_law_1 (Nat.le_of_ble_eq_true rfl)).trans rfl
theorem i_L_law_150 : am_i m_L_law 150 = some (150, .iconst 1, 1, [], 1) := (lk_law_1 (Nat.le_of_ble_eq_true rfl)).trans rfl
theorem i_L_law_151 : am_i m_L_law 151 = some (151, .iload 5, 2, [], 0) := (lk_law_1 (Nat.le_of_ble_eq_true rfl)).trans rfl
theorem i_L_law_153 : am_i m_L_law 153 = some (153, .iadd, 1, [], 0) := (lk_law_1 (Nat.le_of_ble_eq_true rfl)).trans rfl
theorem i_L_law_154 : am_i m_L_law 154 = some (154, .invokestatic 177, 3, [0], 0) := (lk_law_1 (Nat.le_of_ble_eq_true rfl)).trans rfl
theorem i_L_law_282 : am_i m_L_law 282 = some (282, .bipush 7, 2, [], 7) := (lk_law_2 (Nat.le_of_ble_eq_true rfl)).trans rfl
theorem i_L_law_284 : am_i m_L_law 284 = some (284, .newarray .int, 2, [], 0) := (lk_law_2 (Nat.le_of_ble_eq_true rfl)).trans rfl
theorem b_L_law_143 {a0 a1 a2 : Nat} {x3 x4 x5 x3' x5' : Int} {v6 v7 v8 v9 v10 : Value} {h : am_H} (w3 : wr x3 = x3') (w5 : wr x5 = x5') : rn m_L_law 143 [.ref a0, .ref a1, .ref a2, .int (mI x3), .int (mI x4), .int (mI x5), v6, v7, v8, v9, v10] [] h = if x3' ≤ x5' then rn m_L_law 286 [.ref a0, .ref a1, .ref a2, .int (mI x3), .int (mI x4), .int (mI x5), v6, v7, v8, v9, v10] [.ref (hnx h)] (aI 0 7 h) else cl m_L_law 157 [.ref a0, .ref a1, .ref a2, .int (mI x3), .int (mI x4), .int (mI x5), v6, v7, v8, v9, v10] [] (rn m_L_at 0 [.ref a0, .int (mI (1 + x5))] [] h) := by
  refine (tq_iload i_L_law_143 rfl rfl).trans ?_
  refine (tq_iload_n i_L_law_145 rfl rfl).trans ?_
  refine (tq_icmp_ge (pt := 282) i_L_law_146 w5 w3 (by decide) rfl).trans ?_
  refine ite_congr rfl (fun c1 => ?_) (fun c1 => ?_)
  · refine (tq_bipush i_L_law_282 rfl).trans ?_
    exact tq_newI (n := 7) (t := 0) i_L_law_284 w_7 (by decide) rfl (by decide) rfl rfl
  · refine (tq_aload_n i_L_law_149 rfl (isA_ref _) rfl).trans ?_
    refine (tq_iconst i_L_law_150 rfl).trans ?_
    refine (tq_iload i_L_law_151 rfl rfl).trans ?_
    refine (tq_iadd i_L_law_153 rfl).trans ?_
    exact c_L_at i_L_law_154 (ltd d_L_law (by decide)) (isA_ref _) stOk_0 rfl
theorem i_L_law_157 : am_i m_L_law 157 = some (157, .ldc 184, 2, [], 100000000) := (lk_law_1 (Nat.le_of_ble_eq_true rfl)).trans rfl
theorem i_L_law_159 : am_i m_L_law 159 = some (159, .invokestatic 181, 3, [1], 0) := (lk_law_1 (Nat.le_of_ble_eq_true rfl)).trans rfl
theorem b_L_law_157 {a0 a1 a2 : Nat} {x3 x4 x5 xs0 : Int} {v6 v7 v8 v9 v10 : Value} {h : am_H} : rn m_L_law 157 [.ref a0, .ref a1, .ref a2, .int (mI x3), .int (mI x4), .int (mI x5), v6, v7, v8, v9, v10] [.int (mI xs0)] h = cl m_L_law 162 [.ref a0, .ref a1, .ref a2, .int (mI x3), .int (mI x4), .int (mI x5), v6, v7, v8, v9, v10] [] (rn m_L_some 0 [.int (mI xs0), .int (mI 100000000), am_J] [] h) := by
  refine (tq_ldc i_L_law_157 rfl).trans ?_
  exact c_L_some i_L_law_159 (ltd d_L_law (by decide)) stOk_0 rfl
theorem i_L_law_162 : am_i m_L_law 162 = some (162, .istore 6, 2, [], 0) := (lk_law_1 (Nat.le_of_ble_eq_true rfl)).trans rfl
theorem i_L_law_164 : am_i m_L_law 164 = some (164, .iload 6, 2, [], 0) := (lk_law_1 (Nat.le_of_ble_eq_true rfl)).trans rfl
theorem i_L_law_166 : am_i m_L_law 166 = some (166, .iconst 5, 1, [], 5) := (lk_law_1 (Nat.le_of_ble_eq_true rfl)).trans rfl
theorem i_L_law_167 : am_i m_L_law 167 = some (167, .irem, 1, [], 0) := (lk_law_1 (Nat.le_of_ble_eq_true rfl)).trans rfl
theorem i_L_law_168 : am_i m_L_law 168 = some (168, .ifCond .le 17, 3, [], 0) := (lk_law_1 (Nat.le_of_ble_eq_true rfl)).trans rfl
theorem i_L_law_171 : am_i m_L_law 171 = some (171, .aload_n 1, 1, [], 0) := (lk_law_1 (Nat.le_of_ble_eq_true rfl)).trans rfl
theorem i_L_law_172 : am_i m_L_law 172 = some (172, .iload 6, 2, [], 0) := (lk_law_1 (Nat.le_of_ble_eq_true rfl)).trans rfl
theorem i_L_law_174 : am_i m_L_law 174 = some (174, .iconst 5, 1, [], 5) := (lk_law_1 (Nat.le_of_ble_eq_true rfl)).trans rfl
theorem i_L_law_175 : am_i m_L_law 175 = some (175, .idiv, 1, [], 0) := (lk_law_1 (Nat.le_of_ble_eq_true rfl)).trans rfl
theorem i_L_law_176 : am_i m_L_law 176 = some (176, .aload_n 2, 1, [], 0) := (lk_law_1 (Nat.le_of_ble_eq_true rfl)).trans rfl
theorem i_L_law_177 : am_i m_L_law 177 = some (177, .invokestatic 185, 3, [148], 0) := (lk_law_1 (Nat.le_of_ble_eq_true rfl)).trans rfl
theorem i_L_law_185 : am_i m_L_law 185 = some (185, .aload_n 1, 1, [], 0) := (lk_law_1 (Nat.le_of_ble_eq_true rfl)).trans rfl
theorem i_L_law_186 : am_i m_L_law 186 = some (186, .bipush 105, 2, [], 105) := (lk_law_1 (Nat.le_of_ble_eq_true rfl)).trans rfl
theorem i_L_law_188 : am_i m_L_law 188 = some (188, .bipush 9, 2, [], 9) := (lk_law_1 (Nat.le_of_ble_eq_true rfl)).trans rfl
theorem i_L_law_190 : am_i m_L_law 190 = some (190, .bipush 9, 2, [], 9) := (lk_law_1 (Nat.le_of_ble_eq_true rfl)).trans rfl
theorem i_L_law_192 : am_i m_L_law 192 = some (192, .invokestatic 167, 3, [145], 0) := (lk_law_1 (Nat.le_of_ble_eq_true rfl)).trans rfl
theorem b_L_law_162 {a0 a1 a2 : Nat} {x3 x4 x5 xs0 xs0' : Int} {v6 v7 v8 v9 v10 : Value} {h : am_H} (ws0 : wr xs0 = xs0') : rn m_L_law 162 [.ref a0, .ref a1, .ref a2, .int (mI x3), .int (mI x4), .int (mI x5), v6, v7, v8, v9, v10] [.int (mI xs0)] h = if (wr (Int.tmod xs0' 5)) ≤ 0 then cl m_L_law 195 [.ref a0, .ref a1, .ref a2, .int (mI x3), .int (mI x4), .int (mI x5), .int (mI xs0), v7, v8, v9, v10] [] (rn m_L_code 0 [.ref a1, .int (mI 105), .int (mI 9), .int (mI 9), am_J] [] h) else cl m_L_law 180 [.ref a0, .ref a1, .ref a2, .int (mI x3), .int (mI x4), .int (mI x5), .int (mI xs0), v7, v8, v9, v10] [] (rn m_L_paints 0 [.ref a1, .int (mI (Int.tdiv xs0' 5)), .ref a2, am_J, am_J, am_J, am_J, am_J, am_J, am_J, am_J, am_J, am_J, am_J, am_J, am_J, am_J, am_J, am_J, am_J, am_J] [] h) := by
  refine (tq_istore (L' := [.ref a0, .ref a1, .ref a2, .int (mI x3), .int (mI x4), .int (mI x5), .int (mI xs0), v7, v8, v9, v10]) i_L_law_162 rfl rfl).trans ?_
  refine (tq_iload i_L_law_164 rfl rfl).trans ?_
  refine (tq_iconst i_L_law_166 rfl).trans ?_
  refine (tq_irem i_L_law_167 ws0 w_5 (by decide) rfl).trans ?_
  refine (tq_if_le (pt := 185) i_L_law_168 rfl (by decide) rfl).trans ?_
  refine ite_congr rfl (fun c1 => ?_) (fun c1 => ?_)
  · refine (tq_aload_n i_L_law_185 rfl (isA_ref _) rfl).trans ?_
    refine (tq_bipush i_L_law_186 rfl).trans ?_
    refine (tq_bipush i_L_law_188 rfl).trans ?_
    refine (tq_bipush i_L_law_190 rfl).trans ?_
    exact c_L_code i_L_law_192 (ltd d_L_law (by decide)) (isA_ref _) stOk_0 rfl
  · refine (tq_aload_n i_L_law_171 rfl (isA_ref _) rfl).trans ?_
    refine (tq_iload i_L_law_172 rfl rfl).trans ?_
    refine (tq_iconst i_L_law_174 rfl).trans ?_
    refine (tq_idiv i_L_law_175 ws0 w_5 (by decide) rfl).trans ?_
    refine (tq_aload_n i_L_law_176 rfl (isA_ref _) rfl).trans ?_
    exact c_L_paints i_L_law_177 (ltd d_L_law (by decide)) (isA_ref _) (isA_ref _) stOk_0 rfl
theorem i_L_law_180 : am_i m_L_law 180 = some (180, .ifCond .ne 72, 3, [], 0) := (lk_law_1 (Nat.le_of_ble_eq_true rfl)).trans rfl
theorem i_L_law_183 : am_i m_L_law 183 = some (183, .iconst 0, 1, [], 0) := (lk_law_1 (Nat.le_of_ble_eq_true rfl)).trans rfl
theorem i_L_law_184 : am_i m_L_law 184 = some (184, .ireturn, 1, [], 0) := (lk_law_1 (Nat.le_of_ble_eq_true rfl)).trans rfl
theorem i_L_law_252 : am_i m_L_law 252 = some (252, .aload_n 1, 1, [], 0) := (lk_law_2 (Nat.le_of_ble_eq_true rfl)).trans rfl
theorem i_L_law_253 : am_i m_L_law 253 = some (253, .invokevirtual 189, 3, [12, 9], 0) := (lk_law_2 (Nat.le_of_ble_eq_true rfl)).trans rfl
theorem i_L_law_256 : am_i m_L_law 256 = some (256, .iload 4, 2, [], 0) := (lk_law_2 (Nat.le_of_ble_eq_true rfl)).trans rfl
theorem i_L_law_258 : am_i m_L_law 258 = some (258, .if_icmp .ne 16, 3, [], 0) := (lk_law_2 (Nat.le_of_ble_eq_true rfl)).trans rfl
theorem i_L_law_261 : am_i m_L_law 261 = some (261, .aload_n 1, 1, [], 0) := (lk_law_2 (Nat.le_of_ble_eq_true rfl)).trans rfl
theorem i_L_law_262 : am_i m_L_law 262 = some (262, .invokevirtual 192, 3, [11, 9], 0) := (lk_law_2 (Nat.le_of_ble_eq_true rfl)).trans rfl
theorem i_L_law_265 : am_i m_L_law 265 = some (265, .iconst 3, 1, [], 3) := (lk_law_2 (Nat.le_of_ble_eq_true rfl)).trans rfl
theorem i_L_law_266 : am_i m_L_law 266 = some (266, .iload 4, 2, [], 0) := (lk_law_2 (Nat.le_of_ble_eq_true rfl)).trans rfl
theorem i_L_law_268 : am_i m_L_law 268 = some (268, .invokestatic 149, 3, [0, 2], 0) := (lk_law_2 (Nat.le_of_ble_eq_true rfl)).trans rfl
theorem i_L_law_271 : am_i m_L_law 271 = some (271, .if_icmp .eq 5, 3, [], 0) := (lk_law_2 (Nat.le_of_ble_eq_true rfl)).trans rfl
theorem i_L_law_274 : am_i m_L_law 274 = some (274, .iconst 0, 1, [], 0) := (lk_law_2 (Nat.le_of_ble_eq_true rfl)).trans rfl
theorem i_L_law_275 : am_i m_L_law 275 = some (275, .ireturn, 1, [], 0) := (lk_law_2 (Nat.le_of_ble_eq_true rfl)).trans rfl
theorem i_L_law_276 : am_i m_L_law 276 = some (276, .iinc 5 1, 3, [], 0) := (lk_law_2 (Nat.le_of_ble_eq_true rfl)).trans rfl
theorem i_L_law_279 : am_i m_L_law 279 = some (279, .goto (-136), 3, [], 0) := (lk_law_2 (Nat.le_of_ble_eq_true rfl)).trans rfl
theorem b_L_law_180 {a0 a1 a2 : Nat} {x3 x4 x5 xs0 x4' xs0' : Int} {v6 v7 v8 v9 v10 : Value} {h : am_H} (w4 : wr x4 = x4') (ws0 : wr xs0 = xs0') (k1 : K9 h a1) : rn m_L_law 180 [.ref a0, .ref a1, .ref a2, .int (mI x3), .int (mI x4), .int (mI x5), v6, v7, v8, v9, v10] [.int (mI xs0)] h = if ¬ xs0' = 0 then if ¬ (fZ h a1 8) = x4' then some (.inl (some (.int (mI 0))), h) else if (fZ h a1 11) = (min 3 x4') then rn m_L_law 143 [.ref a0, .ref a1, .ref a2, .int (mI x3), .int (mI x4), .int (mI (x5 + 1)), v6, v7, v8, v9, v10] [] h else some (.inl (some (.int (mI 0))), h) else some (.inl (some (.int (mI 0))), h) := by
  refine (tq_if_ne (pt := 252) i_L_law_180 ws0 (by decide) rfl).trans ?_
  refine ite_congr rfl (fun c1 => ?_) (fun c1 => ?_)
  · refine (tq_aload_n i_L_law_252 rfl (isA_ref _) rfl).trans ?_
    refine (c_X11_pictures i_L_law_253 (K9_s k1) (ltd d_L_law (by decide)) stOk_0 rfl).trans ?_
    refine (congrArg (cl _ _ _ _) (b_X11_pictures_0 k1)).trans ?_
    refine (cl_v _ _ _ _ _ _).trans ?_
    refine (tq_iload i_L_law_256 rfl rfl).trans ?_
    refine (tq_icmp_ne (pt := 274) i_L_law_258 (wr_fZ _ _ _) w4 (by decide) rfl).trans ?_
    refine ite_congr rfl (fun c2 => ?_) (fun c2 => ?_)
    · refine (tq_iconst i_L_law_274 rfl).trans ?_
      exact tq_ireturn i_L_law_275 r_L_law (okB w_0 (by decide))
    · refine (tq_aload_n i_L_law_261 rfl (isA_ref _) rfl).trans ?_
      refine (c_X11_kept i_L_law_262 (K9_s k1) (ltd d_L_law (by decide)) stOk_0 rfl).trans ?_
      refine (congrArg (cl _ _ _ _) (b_X11_kept_0 k1)).trans ?_
      refine (cl_v _ _ _ _ _ _).trans ?_
      refine (tq_iconst i_L_law_265 rfl).trans ?_
      refine (tq_iload i_L_law_266 rfl rfl).trans ?_
      refine (tq_min i_L_law_268 w_3 w4 (Nat.le_of_ble_eq_true rfl) rfl).trans ?_
      refine (tq_icmp_eq (pt := 276) i_L_law_271 (wr_fZ _ _ _) (wr_min w_3 w4) (by decide) rfl).trans ?_
      refine ite_congr rfl (fun c3 => ?_) (fun c3 => ?_)
      · refine (tq_iinc (L' := [.ref a0, .ref a1, .ref a2, .int (mI x3), .int (mI x4), .int (mI (x5 + 1)), v6, v7, v8, v9, v10]) i_L_law_276 rfl rfl rfl).trans ?_
        refine (tq_goto (pc' := 143) i_L_law_279 (by decide)).trans ?_
        rfl
      · refine (tq_iconst i_L_law_274 rfl).trans ?_
        exact tq_ireturn i_L_law_275 r_L_law (okB w_0 (by decide))
  · refine (tq_iconst i_L_law_183 rfl).trans ?_
    exact tq_ireturn i_L_law_184 r_L_law (okB w_0 (by decide))
theorem i_L_law_195 : am_i m_L_law 195 = some (195, .istore 7, 2, [], 0) := (lk_law_1 (Nat.le_of_ble_eq_true rfl)).trans rfl
theorem i_L_law_197 : am_i m_L_law 197 = some (197, .iload 7, 2, [], 0) := (lk_law_1 (Nat.le_of_ble_eq_true rfl)).trans rfl
theorem i_L_law_199 : am_i m_L_law 199 = some (199, .iload 4, 2, [], 0) := (lk_law_1 (Nat.le_of_ble_eq_true rfl)).trans rfl
theorem i_L_law_201 : am_i m_L_law 201 = some (201, .bipush 12, 2, [], 12) := (lk_law_1 (Nat.le_of_ble_eq_true rfl)).trans rfl
theorem i_L_law_203 : am_i m_L_law 203 = some (203, .if_icmp .ne 9, 3, [], 0) := (lk_law_1 (Nat.le_of_ble_eq_true rfl)).trans rfl
theorem i_L_law_206 : am_i m_L_law 206 = some (206, .sipush (-1003), 3, [], -1003) := (lk_law_1 (Nat.le_of_ble_eq_true rfl)).trans rfl
theorem i_L_law_209 : am_i m_L_law 209 = some (209, .goto 5, 3, [], 0) := (lk_law_1 (Nat.le_of_ble_eq_true rfl)).trans rfl
theorem i_L_law_212 : am_i m_L_law 212 = some (212, .iload 7, 2, [], 0) := (lk_law_1 (Nat.le_of_ble_eq_true rfl)).trans rfl
theorem i_L_law_214 : am_i m_L_law 214 = some (214, .if_icmp .ne 25, 3, [], 0) := (lk_law_1 (Nat.le_of_ble_eq_true rfl)).trans rfl
theorem i_L_law_217 : am_i m_L_law 217 = some (217, .iload 4, 2, [], 0) := (lk_law_1 (Nat.le_of_ble_eq_true rfl)).trans rfl
theorem i_L_law_219 : am_i m_L_law 219 = some (219, .bipush 12, 2, [], 12) := (lk_law_1 (Nat.le_of_ble_eq_true rfl)).trans rfl
theorem i_L_law_221 : am_i m_L_law 221 = some (221, .if_icmp .ge 10, 3, [], 0) := (lk_law_1 (Nat.le_of_ble_eq_true rfl)).trans rfl
theorem i_L_law_224 : am_i m_L_law 224 = some (224, .iload 7, 2, [], 0) := (lk_law_1 (Nat.le_of_ble_eq_true rfl)).trans rfl
theorem i_L_law_226 : am_i m_L_law 226 = some (226, .bipush 32, 2, [], 32) := (lk_law_1 (Nat.le_of_ble_eq_true rfl)).trans rfl
theorem i_L_law_228 : am_i m_L_law 228 = some (228, .if_icmp .lt 11, 3, [], 0) := (lk_law_1 (Nat.le_of_ble_eq_true rfl)).trans rfl
theorem i_L_law_231 : am_i m_L_law 231 = some (231, .aload_n 1, 1, [], 0) := (lk_law_1 (Nat.le_of_ble_eq_true rfl)).trans rfl
theorem i_L_law_232 : am_i m_L_law 232 = some (232, .aload_n 2, 1, [], 0) := (lk_law_1 (Nat.le_of_ble_eq_true rfl)).trans rfl
theorem i_L_law_233 : am_i m_L_law 233 = some (233, .invokestatic 158, 3, [146], 0) := (lk_law_1 (Nat.le_of_ble_eq_true rfl)).trans rfl
theorem i_L_law_239 : am_i m_L_law 239 = some (239, .iconst 0, 1, [], 0) := (lk_law_1 (Nat.le_of_ble_eq_true rfl)).trans rfl
theorem i_L_law_240 : am_i m_L_law 240 = some (240, .ireturn, 1, [], 0) := (lk_law_2 (Nat.le_of_ble_eq_true rfl)).trans rfl
theorem b_L_law_195 {a0 a1 a2 : Nat} {x3 x4 x5 xs0 x4' xs0' : Int} {v6 v7 v8 v9 v10 : Value} {h : am_H} (w4 : wr x4 = x4') (ws0 : wr xs0 = xs0') : rn m_L_law 195 [.ref a0, .ref a1, .ref a2, .int (mI x3), .int (mI x4), .int (mI x5), v6, v7, v8, v9, v10] [.int (mI xs0)] h = if ¬ xs0' = (if ¬ x4' = 12 then (xs0' : Int) else (-1003)) then some (.inl (some (.int (mI 0))), h) else if 12 ≤ x4' then cl m_L_law 236 [.ref a0, .ref a1, .ref a2, .int (mI x3), .int (mI x4), .int (mI x5), (am_k1 v6), .int (mI xs0), v8, v9, v10] [] (rn m_L_isLike 0 [.ref a1, .ref a2, am_J] [] h) else if xs0' < 32 then some (.inl (some (.int (mI 0))), h) else cl m_L_law 236 [.ref a0, .ref a1, .ref a2, .int (mI x3), .int (mI x4), .int (mI x5), (am_k1 v6), .int (mI xs0), v8, v9, v10] [] (rn m_L_isLike 0 [.ref a1, .ref a2, am_J] [] h) := by
  refine (tq_istore (L' := [.ref a0, .ref a1, .ref a2, .int (mI x3), .int (mI x4), .int (mI x5), (am_k1 v6), .int (mI xs0), v8, v9, v10]) i_L_law_195 rfl rfl).trans ?_
  refine (tq_iload i_L_law_197 rfl rfl).trans ?_
  refine (tq_iload i_L_law_199 rfl rfl).trans ?_
  refine (tq_bipush i_L_law_201 rfl).trans ?_
  refine (tq_icmp_ne (pt := 212) i_L_law_203 w4 w_12 (by decide) rfl).trans ?_
  refine Eq.trans (b := if ¬ x4' = 12 then rn m_L_law 214 [.ref a0, .ref a1, .ref a2, .int (mI x3), .int (mI x4), .int (mI x5), (am_k1 v6), .int (mI xs0), v8, v9, v10] [.int (mI xs0), .int (mI xs0)] h else rn m_L_law 214 [.ref a0, .ref a1, .ref a2, .int (mI x3), .int (mI x4), .int (mI x5), (am_k1 v6), .int (mI xs0), v8, v9, v10] [.int (mI (-1003)), .int (mI xs0)] h) (ite_congr rfl (fun c1 => ?_) (fun c1 => ?_)) ?_
  · refine (tq_iload i_L_law_212 rfl rfl).trans ?_
    rfl
  · refine (tq_sipush i_L_law_206 rfl).trans ?_
    refine (tq_goto (pc' := 214) i_L_law_209 (by decide)).trans ?_
    rfl
  refine Eq.trans ite_I ?_
  refine (tq_icmp_ne (pt := 239) i_L_law_214 ws0 (wr_ite ws0 w_m1003) (by decide) rfl).trans ?_
  refine ite_congr rfl (fun c2 => ?_) (fun c2 => ?_)
  · refine (tq_iconst i_L_law_239 rfl).trans ?_
    exact tq_ireturn i_L_law_240 r_L_law (okB w_0 (by decide))
  · refine (tq_iload i_L_law_217 rfl rfl).trans ?_
    refine (tq_bipush i_L_law_219 rfl).trans ?_
    refine (tq_icmp_ge (pt := 231) i_L_law_221 w4 w_12 (by decide) rfl).trans ?_
    refine ite_congr rfl (fun c3 => ?_) (fun c3 => ?_)
    · refine (tq_aload_n i_L_law_231 rfl (isA_ref _) rfl).trans ?_
      refine (tq_aload_n i_L_law_232 rfl (isA_ref _) rfl).trans ?_
      exact c_L_isLike i_L_law_233 (ltd d_L_law (by decide)) (isA_ref _) (isA_ref _) stOk_0 rfl
    · refine (tq_iload i_L_law_224 rfl rfl).trans ?_
      refine (tq_bipush i_L_law_226 rfl).trans ?_
      refine (tq_icmp_lt (pt := 239) i_L_law_228 ws0 w_32 (by decide) rfl).trans ?_
      refine ite_congr rfl (fun c4 => ?_) (fun c4 => ?_)
      · refine (tq_iconst i_L_law_239 rfl).trans ?_
        exact tq_ireturn i_L_law_240 r_L_law (okB w_0 (by decide))
      · refine (tq_aload_n i_L_law_231 rfl (isA_ref _) rfl).trans ?_
        refine (tq_aload_n i_L_law_232 rfl (isA_ref _) rfl).trans ?_
        exact c_L_isLike i_L_law_233 (ltd d_L_law (by decide)) (isA_ref _) (isA_ref _) stOk_0 rfl
theorem i_L_law_236 : am_i m_L_law 236 = some (236, .ifCond .ne 5, 3, [], 0) := (lk_law_1 (Nat.le_of_ble_eq_true rfl)).trans rfl
theorem i_L_law_241 : am_i m_L_law 241 = some (241, .bipush 12, 2, [], 12) := (lk_law_2 (Nat.le_of_ble_eq_true rfl)).trans rfl
theorem i_L_law_243 : am_i m_L_law 243 = some (243, .iload 4, 2, [], 0) := (lk_law_2 (Nat.le_of_ble_eq_true rfl)).trans rfl
theorem i_L_law_245 : am_i m_L_law 245 = some (245, .iconst 1, 1, [], 1) := (lk_law_2 (Nat.le_of_ble_eq_true rfl)).trans rfl
theorem i_L_law_246 : am_i m_L_law 246 = some (246, .iadd, 1, [], 0) := (lk_law_2 (Nat.le_of_ble_eq_true rfl)).trans rfl
theorem i_L_law_247 : am_i m_L_law 247 = some (247, .invokestatic 149, 3, [0, 2], 0) := (lk_law_2 (Nat.le_of_ble_eq_true rfl)).trans rfl
theorem i_L_law_250 : am_i m_L_law 250 = some (250, .istore 4, 2, [], 0) := (lk_law_2 (Nat.le_of_ble_eq_true rfl)).trans rfl
theorem b_L_law_236 {a0 a1 a2 : Nat} {x3 x4 x5 xs0 xs0' : Int} {v6 v7 v8 v9 v10 : Value} {h : am_H} (ws0 : wr xs0 = xs0') (k1 : K9 h a1) : rn m_L_law 236 [.ref a0, .ref a1, .ref a2, .int (mI x3), .int (mI x4), .int (mI x5), v6, v7, v8, v9, v10] [.int (mI xs0)] h = if ¬ xs0' = 0 then if ¬ (fZ h a1 8) = (min 12 (wr (x4 + 1))) then some (.inl (some (.int (mI 0))), h) else if (fZ h a1 11) = (min 3 (min 12 (wr (x4 + 1)))) then rn m_L_law 143 [.ref a0, .ref a1, .ref a2, .int (mI x3), .int (mI (min 12 (wr (x4 + 1)))), .int (mI (x5 + 1)), v6, v7, v8, v9, v10] [] h else some (.inl (some (.int (mI 0))), h) else some (.inl (some (.int (mI 0))), h) := by
  refine (tq_if_ne (pt := 241) i_L_law_236 ws0 (by decide) rfl).trans ?_
  refine ite_congr rfl (fun c1 => ?_) (fun c1 => ?_)
  · refine (tq_bipush i_L_law_241 rfl).trans ?_
    refine (tq_iload i_L_law_243 rfl rfl).trans ?_
    refine (tq_iconst i_L_law_245 rfl).trans ?_
    refine (tq_iadd i_L_law_246 rfl).trans ?_
    refine (tq_min i_L_law_247 w_12 rfl (Nat.le_of_ble_eq_true rfl) rfl).trans ?_
    refine (tq_istore (L' := [.ref a0, .ref a1, .ref a2, .int (mI x3), .int (mI (min 12 (wr (x4 + 1)))), .int (mI x5), v6, v7, v8, v9, v10]) i_L_law_250 rfl rfl).trans ?_
    refine (tq_aload_n i_L_law_252 rfl (isA_ref _) rfl).trans ?_
    refine (c_X11_pictures i_L_law_253 (K9_s k1) (ltd d_L_law (by decide)) stOk_0 rfl).trans ?_
    refine (congrArg (cl _ _ _ _) (b_X11_pictures_0 k1)).trans ?_
    refine (cl_v _ _ _ _ _ _).trans ?_
    refine (tq_iload i_L_law_256 rfl rfl).trans ?_
    refine (tq_icmp_ne (pt := 274) i_L_law_258 (wr_fZ _ _ _) (wr_min w_12 rfl) (by decide) rfl).trans ?_
    refine ite_congr rfl (fun c2 => ?_) (fun c2 => ?_)
    · refine (tq_iconst i_L_law_274 rfl).trans ?_
      exact tq_ireturn i_L_law_275 r_L_law (okB w_0 (by decide))
    · refine (tq_aload_n i_L_law_261 rfl (isA_ref _) rfl).trans ?_
      refine (c_X11_kept i_L_law_262 (K9_s k1) (ltd d_L_law (by decide)) stOk_0 rfl).trans ?_
      refine (congrArg (cl _ _ _ _) (b_X11_kept_0 k1)).trans ?_
      refine (cl_v _ _ _ _ _ _).trans ?_
      refine (tq_iconst i_L_law_265 rfl).trans ?_
      refine (tq_iload i_L_law_266 rfl rfl).trans ?_
      refine (tq_min i_L_law_268 w_3 (wr_min w_12 rfl) (Nat.le_of_ble_eq_true rfl) rfl).trans ?_
      refine (tq_icmp_eq (pt := 276) i_L_law_271 (wr_fZ _ _ _) (wr_min w_3 (wr_min w_12 rfl)) (by decide) rfl).trans ?_
      refine ite_congr rfl (fun c3 => ?_) (fun c3 => ?_)
      · refine (tq_iinc (L' := [.ref a0, .ref a1, .ref a2, .int (mI x3), .int (mI (min 12 (wr (x4 + 1)))), .int (mI (x5 + 1)), v6, v7, v8, v9, v10]) i_L_law_276 rfl rfl rfl).trans ?_
        refine (tq_goto (pc' := 143) i_L_law_279 (by decide)).trans ?_
        rfl
      · refine (tq_iconst i_L_law_274 rfl).trans ?_
        exact tq_ireturn i_L_law_275 r_L_law (okB w_0 (by decide))
  · refine (tq_iconst i_L_law_239 rfl).trans ?_
    exact tq_ireturn i_L_law_240 r_L_law (okB w_0 (by decide))
theorem i_L_law_286 : am_i m_L_law 286 = some (286, .astore 5, 2, [], 0) := (lk_law_2 (Nat.le_of_ble_eq_true rfl)).trans rfl
theorem i_L_law_288 : am_i m_L_law 288 = some (288, .iconst 0, 1, [], 0) := (lk_law_2 (Nat.le_of_ble_eq_true rfl)).trans rfl
theorem i_L_law_289 : am_i m_L_law 289 = some (289, .istore 6, 2, [], 0) := (lk_law_2 (Nat.le_of_ble_eq_true rfl)).trans rfl
theorem b_L_law_286 {a0 a1 a2 as0 : Nat} {v3 v5 v6 v7 v8 v9 v10 : Value} {x4 : Int} {h : am_H} : rn m_L_law 286 [.ref a0, .ref a1, .ref a2, v3, .int (mI x4), v5, v6, v7, v8, v9, v10] [.ref as0] h = rn m_L_law 291 [.ref a0, .ref a1, .ref a2, v3, .int (mI x4), .ref as0, .int (mI 0), v7, v8, v9, v10] [] h := by
  refine (tq_astore (L' := [.ref a0, .ref a1, .ref a2, v3, .int (mI x4), .ref as0, v6, v7, v8, v9, v10]) i_L_law_286 (isA_ref _) rfl rfl).trans ?_
  refine (tq_iconst i_L_law_288 rfl).trans ?_
  refine (tq_istore (L' := [.ref a0, .ref a1, .ref a2, v3, .int (mI x4), .ref as0, .int (mI 0), v7, v8, v9, v10]) i_L_law_289 rfl rfl).trans ?_
  rfl
theorem i_L_law_291 : am_i m_L_law 291 = some (291, .iload 6, 2, [], 0) := (lk_law_2 (Nat.le_of_ble_eq_true rfl)).trans rfl
theorem i_L_law_293 : am_i m_L_law 293 = some (293, .iload 4, 2, [], 0) := (lk_law_2 (Nat.le_of_ble_eq_true rfl)).trans rfl
theorem i_L_law_295 : am_i m_L_law 295 = some (295, .if_icmp .ge 112, 3, [], 0) := (lk_law_2 (Nat.le_of_ble_eq_true rfl)).trans rfl
theorem i_L_law_298 : am_i m_L_law 298 = some (298, .iconst 0, 1, [], 0) := (lk_law_2 (Nat.le_of_ble_eq_true rfl)).trans rfl
theorem i_L_law_299 : am_i m_L_law 299 = some (299, .istore 7, 2, [], 0) := (lk_law_2 (Nat.le_of_ble_eq_true rfl)).trans rfl
theorem i_L_law_407 : am_i m_L_law 407 = some (407, .iconst 0, 1, [], 0) := (lk_law_3 (Nat.le_of_ble_eq_true rfl)).trans rfl
theorem i_L_law_408 : am_i m_L_law 408 = some (408, .istore 6, 2, [], 0) := (lk_law_3 (Nat.le_of_ble_eq_true rfl)).trans rfl
theorem i_L_law_410 : am_i m_L_law 410 = some (410, .iconst 1, 1, [], 1) := (lk_law_3 (Nat.le_of_ble_eq_true rfl)).trans rfl
theorem i_L_law_411 : am_i m_L_law 411 = some (411, .istore 7, 2, [], 0) := (lk_law_3 (Nat.le_of_ble_eq_true rfl)).trans rfl
theorem b_L_law_291 {a0 a1 a2 a5 : Nat} {v3 v7 v8 v9 v10 : Value} {x4 x6 x4' x6' : Int} {h : am_H} (w4 : wr x4 = x4') (w6 : wr x6 = x6') : rn m_L_law 291 [.ref a0, .ref a1, .ref a2, v3, .int (mI x4), .ref a5, .int (mI x6), v7, v8, v9, v10] [] h = if x4' ≤ x6' then rn m_L_law 413 [.ref a0, .ref a1, .ref a2, v3, .int (mI x4), .ref a5, .int (mI 0), .int (mI 1), v8, v9, v10] [] h else rn m_L_law 301 [.ref a0, .ref a1, .ref a2, v3, .int (mI x4), .ref a5, .int (mI x6), .int (mI 0), v8, v9, v10] [] h := by
  refine (tq_iload i_L_law_291 rfl rfl).trans ?_
  refine (tq_iload i_L_law_293 rfl rfl).trans ?_
  refine (tq_icmp_ge (pt := 407) i_L_law_295 w6 w4 (by decide) rfl).trans ?_
  refine ite_congr rfl (fun c1 => ?_) (fun c1 => ?_)
  · refine (tq_iconst i_L_law_407 rfl).trans ?_
    refine (tq_istore (L' := [.ref a0, .ref a1, .ref a2, v3, .int (mI x4), .ref a5, .int (mI 0), v7, v8, v9, v10]) i_L_law_408 rfl rfl).trans ?_
    refine (tq_iconst i_L_law_410 rfl).trans ?_
    refine (tq_istore (L' := [.ref a0, .ref a1, .ref a2, v3, .int (mI x4), .ref a5, .int (mI 0), .int (mI 1), v8, v9, v10]) i_L_law_411 rfl rfl).trans ?_
    rfl
  · refine (tq_iconst i_L_law_298 rfl).trans ?_
    refine (tq_istore (L' := [.ref a0, .ref a1, .ref a2, v3, .int (mI x4), .ref a5, .int (mI x6), .int (mI 0), v8, v9, v10]) i_L_law_299 rfl rfl).trans ?_
    rfl
theorem i_L_law_301 : am_i m_L_law 301 = some (301, .iload 7, 2, [], 0) := (lk_law_2 (Nat.le_of_ble_eq_true rfl)).trans rfl
theorem i_L_law_303 : am_i m_L_law 303 = some (303, .bipush 16, 2, [], 16) := (lk_law_2 (Nat.le_of_ble_eq_true rfl)).trans rfl
theorem i_L_law_305 : am_i m_L_law 305 = some (305, .if_icmp .ge 96, 3, [], 0) := (lk_law_2 (Nat.le_of_ble_eq_true rfl)).trans rfl
theorem i_L_law_308 : am_i m_L_law 308 = some (308, .iload 7, 2, [], 0) := (lk_law_2 (Nat.le_of_ble_eq_true rfl)).trans rfl
theorem i_L_law_310 : am_i m_L_law 310 = some (310, .iconst 4, 1, [], 4) := (lk_law_2 (Nat.le_of_ble_eq_true rfl)).trans rfl
theorem i_L_law_311 : am_i m_L_law 311 = some (311, .irem, 1, [], 0) := (lk_law_2 (Nat.le_of_ble_eq_true rfl)).trans rfl
theorem i_L_law_312 : am_i m_L_law 312 = some (312, .iconst 4, 1, [], 4) := (lk_law_2 (Nat.le_of_ble_eq_true rfl)).trans rfl
theorem i_L_law_313 : am_i m_L_law 313 = some (313, .imul, 1, [], 0) := (lk_law_2 (Nat.le_of_ble_eq_true rfl)).trans rfl
theorem i_L_law_314 : am_i m_L_law 314 = some (314, .istore 8, 2, [], 0) := (lk_law_2 (Nat.le_of_ble_eq_true rfl)).trans rfl
theorem i_L_law_316 : am_i m_L_law 316 = some (316, .iload 7, 2, [], 0) := (lk_law_2 (Nat.le_of_ble_eq_true rfl)).trans rfl
theorem i_L_law_318 : am_i m_L_law 318 = some (318, .iconst 4, 1, [], 4) := (lk_law_2 (Nat.le_of_ble_eq_true rfl)).trans rfl
theorem i_L_law_319 : am_i m_L_law 319 = some (319, .idiv, 1, [], 0) := (lk_law_2 (Nat.le_of_ble_eq_true rfl)).trans rfl
theorem i_L_law_320 : am_i m_L_law 320 = some (320, .iconst 4, 1, [], 4) := (lk_law_2 (Nat.le_of_ble_eq_true rfl)).trans rfl
theorem i_L_law_321 : am_i m_L_law 321 = some (321, .imul, 1, [], 0) := (lk_law_2 (Nat.le_of_ble_eq_true rfl)).trans rfl
theorem i_L_law_322 : am_i m_L_law 322 = some (322, .istore 9, 2, [], 0) := (lk_law_2 (Nat.le_of_ble_eq_true rfl)).trans rfl
theorem i_L_law_324 : am_i m_L_law 324 = some (324, .aload_n 1, 1, [], 0) := (lk_law_2 (Nat.le_of_ble_eq_true rfl)).trans rfl
theorem i_L_law_325 : am_i m_L_law 325 = some (325, .bipush 112, 2, [], 112) := (lk_law_2 (Nat.le_of_ble_eq_true rfl)).trans rfl
theorem i_L_law_327 : am_i m_L_law 327 = some (327, .iload 6, 2, [], 0) := (lk_law_2 (Nat.le_of_ble_eq_true rfl)).trans rfl
theorem i_L_law_329 : am_i m_L_law 329 = some (329, .iload 8, 2, [], 0) := (lk_law_2 (Nat.le_of_ble_eq_true rfl)).trans rfl
theorem i_L_law_331 : am_i m_L_law 331 = some (331, .iload 9, 2, [], 0) := (lk_law_2 (Nat.le_of_ble_eq_true rfl)).trans rfl
theorem i_L_law_333 : am_i m_L_law 333 = some (333, .invokestatic 137, 3, [141], 0) := (lk_law_2 (Nat.le_of_ble_eq_true rfl)).trans rfl
theorem i_L_law_401 : am_i m_L_law 401 = some (401, .iinc 6 1, 3, [], 0) := (lk_law_3 (Nat.le_of_ble_eq_true rfl)).trans rfl
theorem i_L_law_404 : am_i m_L_law 404 = some (404, .goto (-113), 3, [], 0) := (lk_law_3 (Nat.le_of_ble_eq_true rfl)).trans rfl
theorem b_L_law_301 {a0 a1 a2 a5 : Nat} {v3 v8 v9 v10 : Value} {x4 x6 x7 x7' : Int} {h : am_H} (w7 : wr x7 = x7') : rn m_L_law 301 [.ref a0, .ref a1, .ref a2, v3, .int (mI x4), .ref a5, .int (mI x6), .int (mI x7), v8, v9, v10] [] h = if 16 ≤ x7' then rn m_L_law 291 [.ref a0, .ref a1, .ref a2, v3, .int (mI x4), .ref a5, .int (mI (x6 + 1)), .int (mI x7), v8, v9, v10] [] h else cl m_L_law 336 [.ref a0, .ref a1, .ref a2, v3, .int (mI x4), .ref a5, .int (mI x6), .int (mI x7), .int (mI ((Int.tmod x7' 4) * 4)), .int (mI ((Int.tdiv x7' 4) * 4)), v10] [] (rn m_L_pixel 0 [.ref a1, .int (mI 112), .int (mI x6), .int (mI ((Int.tmod x7' 4) * 4)), .int (mI ((Int.tdiv x7' 4) * 4)), am_J] [] h) := by
  refine (tq_iload i_L_law_301 rfl rfl).trans ?_
  refine (tq_bipush i_L_law_303 rfl).trans ?_
  refine (tq_icmp_ge (pt := 401) i_L_law_305 w7 w_16 (by decide) rfl).trans ?_
  refine ite_congr rfl (fun c1 => ?_) (fun c1 => ?_)
  · refine (tq_iinc (L' := [.ref a0, .ref a1, .ref a2, v3, .int (mI x4), .ref a5, .int (mI (x6 + 1)), .int (mI x7), v8, v9, v10]) i_L_law_401 rfl rfl rfl).trans ?_
    refine (tq_goto (pc' := 291) i_L_law_404 (by decide)).trans ?_
    rfl
  · refine (tq_iload i_L_law_308 rfl rfl).trans ?_
    refine (tq_iconst i_L_law_310 rfl).trans ?_
    refine (tq_irem i_L_law_311 w7 w_4 (by decide) rfl).trans ?_
    refine (tq_iconst i_L_law_312 rfl).trans ?_
    refine (tq_imul i_L_law_313 rfl).trans ?_
    refine (tq_istore (L' := [.ref a0, .ref a1, .ref a2, v3, .int (mI x4), .ref a5, .int (mI x6), .int (mI x7), .int (mI ((Int.tmod x7' 4) * 4)), v9, v10]) i_L_law_314 rfl rfl).trans ?_
    refine (tq_iload i_L_law_316 rfl rfl).trans ?_
    refine (tq_iconst i_L_law_318 rfl).trans ?_
    refine (tq_idiv i_L_law_319 w7 w_4 (by decide) rfl).trans ?_
    refine (tq_iconst i_L_law_320 rfl).trans ?_
    refine (tq_imul i_L_law_321 rfl).trans ?_
    refine (tq_istore (L' := [.ref a0, .ref a1, .ref a2, v3, .int (mI x4), .ref a5, .int (mI x6), .int (mI x7), .int (mI ((Int.tmod x7' 4) * 4)), .int (mI ((Int.tdiv x7' 4) * 4)), v10]) i_L_law_322 rfl rfl).trans ?_
    refine (tq_aload_n i_L_law_324 rfl (isA_ref _) rfl).trans ?_
    refine (tq_bipush i_L_law_325 rfl).trans ?_
    refine (tq_iload i_L_law_327 rfl rfl).trans ?_
    refine (tq_iload i_L_law_329 rfl rfl).trans ?_
    refine (tq_iload i_L_law_331 rfl rfl).trans ?_
    exact c_L_pixel i_L_law_333 (ltd d_L_law (by decide)) (isA_ref _) stOk_0 rfl
theorem i_L_law_336 : am_i m_L_law 336 = some (336, .iconst 4, 1, [], 4) := (lk_law_2 (Nat.le_of_ble_eq_true rfl)).trans rfl
theorem i_L_law_337 : am_i m_L_law 337 = some (337, .if_icmp .eq 19, 3, [], 0) := (lk_law_2 (Nat.le_of_ble_eq_true rfl)).trans rfl
theorem i_L_law_340 : am_i m_L_law 340 = some (340, .iload 8, 2, [], 0) := (lk_law_2 (Nat.le_of_ble_eq_true rfl)).trans rfl
theorem i_L_law_342 : am_i m_L_law 342 = some (342, .bipush 8, 2, [], 8) := (lk_law_2 (Nat.le_of_ble_eq_true rfl)).trans rfl
theorem i_L_law_344 : am_i m_L_law 344 = some (344, .irem, 1, [], 0) := (lk_law_2 (Nat.le_of_ble_eq_true rfl)).trans rfl
theorem i_L_law_345 : am_i m_L_law 345 = some (345, .ifCond .ne 15, 3, [], 0) := (lk_law_2 (Nat.le_of_ble_eq_true rfl)).trans rfl
theorem i_L_law_348 : am_i m_L_law 348 = some (348, .iload 9, 2, [], 0) := (lk_law_2 (Nat.le_of_ble_eq_true rfl)).trans rfl
theorem i_L_law_350 : am_i m_L_law 350 = some (350, .bipush 8, 2, [], 8) := (lk_law_2 (Nat.le_of_ble_eq_true rfl)).trans rfl
theorem i_L_law_352 : am_i m_L_law 352 = some (352, .irem, 1, [], 0) := (lk_law_3 (Nat.le_of_ble_eq_true rfl)).trans rfl
theorem i_L_law_353 : am_i m_L_law 353 = some (353, .ifCond .ne 7, 3, [], 0) := (lk_law_3 (Nat.le_of_ble_eq_true rfl)).trans rfl
theorem i_L_law_356 : am_i m_L_law 356 = some (356, .iconst 1, 1, [], 1) := (lk_law_3 (Nat.le_of_ble_eq_true rfl)).trans rfl
theorem i_L_law_357 : am_i m_L_law 357 = some (357, .goto 4, 3, [], 0) := (lk_law_3 (Nat.le_of_ble_eq_true rfl)).trans rfl
theorem i_L_law_360 : am_i m_L_law 360 = some (360, .iconst 0, 1, [], 0) := (lk_law_3 (Nat.le_of_ble_eq_true rfl)).trans rfl
theorem i_L_law_361 : am_i m_L_law 361 = some (361, .istore 10, 2, [], 0) := (lk_law_3 (Nat.le_of_ble_eq_true rfl)).trans rfl
theorem i_L_law_363 : am_i m_L_law 363 = some (363, .aload 5, 2, [], 0) := (lk_law_3 (Nat.le_of_ble_eq_true rfl)).trans rfl
theorem i_L_law_365 : am_i m_L_law 365 = some (365, .iconst 0, 1, [], 0) := (lk_law_3 (Nat.le_of_ble_eq_true rfl)).trans rfl
theorem i_L_law_366 : am_i m_L_law 366 = some (366, .aload_n 1, 1, [], 0) := (lk_law_3 (Nat.le_of_ble_eq_true rfl)).trans rfl
theorem i_L_law_367 : am_i m_L_law 367 = some (367, .bipush 109, 2, [], 109) := (lk_law_3 (Nat.le_of_ble_eq_true rfl)).trans rfl
theorem i_L_law_369 : am_i m_L_law 369 = some (369, .iload 6, 2, [], 0) := (lk_law_3 (Nat.le_of_ble_eq_true rfl)).trans rfl
theorem i_L_law_371 : am_i m_L_law 371 = some (371, .iload 8, 2, [], 0) := (lk_law_3 (Nat.le_of_ble_eq_true rfl)).trans rfl
theorem i_L_law_373 : am_i m_L_law 373 = some (373, .iload 9, 2, [], 0) := (lk_law_3 (Nat.le_of_ble_eq_true rfl)).trans rfl
theorem i_L_law_375 : am_i m_L_law 375 = some (375, .invokestatic 137, 3, [141], 0) := (lk_law_3 (Nat.le_of_ble_eq_true rfl)).trans rfl
theorem b_L_law_336 {a0 a1 a2 a5 : Nat} {v3 v10 : Value} {x4 x6 x7 x8 x9 xs0 x8' x9' xs0' : Int} {h : am_H} (w8 : wr x8 = x8') (w9 : wr x9 = x9') (ws0 : wr xs0 = xs0') : rn m_L_law 336 [.ref a0, .ref a1, .ref a2, v3, .int (mI x4), .ref a5, .int (mI x6), .int (mI x7), .int (mI x8), .int (mI x9), v10] [.int (mI xs0)] h = cl m_L_law 378 [.ref a0, .ref a1, .ref a2, v3, .int (mI x4), .ref a5, .int (mI x6), .int (mI x7), .int (mI x8), .int (mI x9), .int (mI (bZ ((xs0' = 4) ∨ (¬ (¬ (wr (Int.tmod x8' 8)) = 0) ∧ (¬ (¬ (wr (Int.tmod x9' 8)) = 0))))))] [.int (mI 0), .ref a5] (rn m_L_pixel 0 [.ref a1, .int (mI 109), .int (mI x6), .int (mI x8), .int (mI x9), am_J] [] h) := by
  refine (tq_iconst i_L_law_336 rfl).trans ?_
  refine (tq_icmp_eq (pt := 356) i_L_law_337 ws0 w_4 (by decide) rfl).trans ?_
  refine Eq.trans (b := if xs0' = 4 then rn m_L_law 361 [.ref a0, .ref a1, .ref a2, v3, .int (mI x4), .ref a5, .int (mI x6), .int (mI x7), .int (mI x8), .int (mI x9), v10] [.int (mI 1)] h else rn m_L_law 361 [.ref a0, .ref a1, .ref a2, v3, .int (mI x4), .ref a5, .int (mI x6), .int (mI x7), .int (mI x8), .int (mI x9), v10] [.int (mI (bZ (¬ (¬ (wr (Int.tmod x8' 8)) = 0) ∧ (¬ (¬ (wr (Int.tmod x9' 8)) = 0)))))] h) (ite_congr rfl (fun c1 => ?_) (fun c1 => ?_)) ?_
  · refine (tq_iconst i_L_law_356 rfl).trans ?_
    refine (tq_goto (pc' := 361) i_L_law_357 (by decide)).trans ?_
    rfl
  · refine (tq_iload i_L_law_340 rfl rfl).trans ?_
    refine (tq_bipush i_L_law_342 rfl).trans ?_
    refine (tq_irem i_L_law_344 w8 w_8 (by decide) rfl).trans ?_
    refine (tq_if_ne (pt := 360) i_L_law_345 rfl (by decide) rfl).trans ?_
    refine Eq.trans (b := if ¬ (wr (Int.tmod x8' 8)) = 0 then rn m_L_law 361 [.ref a0, .ref a1, .ref a2, v3, .int (mI x4), .ref a5, .int (mI x6), .int (mI x7), .int (mI x8), .int (mI x9), v10] [.int (mI 0)] h else rn m_L_law 361 [.ref a0, .ref a1, .ref a2, v3, .int (mI x4), .ref a5, .int (mI x6), .int (mI x7), .int (mI x8), .int (mI x9), v10] [.int (mI (bZ (¬ (¬ (wr (Int.tmod x9' 8)) = 0))))] h) (ite_congr rfl (fun c2 => ?_) (fun c2 => ?_)) ?_
    · refine (tq_iconst i_L_law_360 rfl).trans ?_
      rfl
    · refine (tq_iload i_L_law_348 rfl rfl).trans ?_
      refine (tq_bipush i_L_law_350 rfl).trans ?_
      refine (tq_irem i_L_law_352 w9 w_8 (by decide) rfl).trans ?_
      refine (tq_if_ne (pt := 360) i_L_law_353 rfl (by decide) rfl).trans ?_
      refine Eq.trans (b := if ¬ (wr (Int.tmod x9' 8)) = 0 then rn m_L_law 361 [.ref a0, .ref a1, .ref a2, v3, .int (mI x4), .ref a5, .int (mI x6), .int (mI x7), .int (mI x8), .int (mI x9), v10] [.int (mI 0)] h else rn m_L_law 361 [.ref a0, .ref a1, .ref a2, v3, .int (mI x4), .ref a5, .int (mI x6), .int (mI x7), .int (mI x8), .int (mI x9), v10] [.int (mI 1)] h) (ite_congr rfl (fun c3 => ?_) (fun c3 => ?_)) ?_
      · refine (tq_iconst i_L_law_360 rfl).trans ?_
        rfl
      · refine (tq_iconst i_L_law_356 rfl).trans ?_
        refine (tq_goto (pc' := 361) i_L_law_357 (by decide)).trans ?_
        rfl
      exact ite_b01
    exact ite_b0p
  refine Eq.trans ite_b1p ?_
  refine (tq_istore (L' := [.ref a0, .ref a1, .ref a2, v3, .int (mI x4), .ref a5, .int (mI x6), .int (mI x7), .int (mI x8), .int (mI x9), .int (mI (bZ ((xs0' = 4) ∨ (¬ (¬ (wr (Int.tmod x8' 8)) = 0) ∧ (¬ (¬ (wr (Int.tmod x9' 8)) = 0))))))]) i_L_law_361 rfl rfl).trans ?_
  refine (tq_aload i_L_law_363 rfl (isA_ref _) rfl).trans ?_
  refine (tq_iconst i_L_law_365 rfl).trans ?_
  refine (tq_aload_n i_L_law_366 rfl (isA_ref _) rfl).trans ?_
  refine (tq_bipush i_L_law_367 rfl).trans ?_
  refine (tq_iload i_L_law_369 rfl rfl).trans ?_
  refine (tq_iload i_L_law_371 rfl rfl).trans ?_
  refine (tq_iload i_L_law_373 rfl rfl).trans ?_
  exact c_L_pixel i_L_law_375 (ltd d_L_law (by decide)) (isA_ref _) (stOk_2 _ _) rfl
theorem i_L_law_378 : am_i m_L_law 378 = some (378, .invokestatic 154, 3, [0, 1], 0) := (lk_law_3 (Nat.le_of_ble_eq_true rfl)).trans rfl
theorem i_L_law_381 : am_i m_L_law 381 = some (381, .dup2, 1, [], 0) := (lk_law_3 (Nat.le_of_ble_eq_true rfl)).trans rfl
theorem i_L_law_382 : am_i m_L_law 382 = some (382, .iaload, 1, [], 0) := (lk_law_3 (Nat.le_of_ble_eq_true rfl)).trans rfl
theorem i_L_law_383 : am_i m_L_law 383 = some (383, .iload 10, 2, [], 0) := (lk_law_3 (Nat.le_of_ble_eq_true rfl)).trans rfl
theorem i_L_law_385 : am_i m_L_law 385 = some (385, .ifCond .eq 7, 3, [], 0) := (lk_law_3 (Nat.le_of_ble_eq_true rfl)).trans rfl
theorem i_L_law_388 : am_i m_L_law 388 = some (388, .iconst 1, 1, [], 1) := (lk_law_3 (Nat.le_of_ble_eq_true rfl)).trans rfl
theorem i_L_law_389 : am_i m_L_law 389 = some (389, .goto 4, 3, [], 0) := (lk_law_3 (Nat.le_of_ble_eq_true rfl)).trans rfl
theorem i_L_law_392 : am_i m_L_law 392 = some (392, .iconst 0, 1, [], 0) := (lk_law_3 (Nat.le_of_ble_eq_true rfl)).trans rfl
theorem i_L_law_393 : am_i m_L_law 393 = some (393, .iadd, 1, [], 0) := (lk_law_3 (Nat.le_of_ble_eq_true rfl)).trans rfl
theorem i_L_law_394 : am_i m_L_law 394 = some (394, .iastore, 1, [], 0) := (lk_law_3 (Nat.le_of_ble_eq_true rfl)).trans rfl
theorem i_L_law_395 : am_i m_L_law 395 = some (395, .iinc 7 1, 3, [], 0) := (lk_law_3 (Nat.le_of_ble_eq_true rfl)).trans rfl
theorem i_L_law_398 : am_i m_L_law 398 = some (398, .goto (-97), 3, [], 0) := (lk_law_3 (Nat.le_of_ble_eq_true rfl)).trans rfl
theorem b_L_law_378 {a0 a1 a2 a5 as2 n_as2 : Nat} {v3 v8 v9 : Value} {x4 x6 x7 x10 xs0 xs1 x10' xs0' xs1' : Int} {h : am_H} (w10 : wr x10 = x10') (ws0 : wr xs0 = xs0') (ws1 : wr xs1 = xs1') (n1 : gn h as2 = n_as2) (s2 : sh h as2 = (1, 0)) (g3 : 0 ≤ max xs1' xs0' ∧ max xs1' xs0' < (n_as2 : Int)) : rn m_L_law 378 [.ref a0, .ref a1, .ref a2, v3, .int (mI x4), .ref a5, .int (mI x6), .int (mI x7), v8, v9, .int (mI x10)] [.int (mI xs0), .int (mI xs1), .ref as2] h = rn m_L_law 301 [.ref a0, .ref a1, .ref a2, v3, .int (mI x4), .ref a5, .int (mI x6), .int (mI (x7 + 1)), v8, v9, .int (mI x10)] [] (uZ h as2 (max xs1' xs0') ((gZ h as2 (max xs1' xs0')) + (bZ (¬ (x10' = 0))))) := by
  refine (tq_max i_L_law_378 ws1 ws0 (Nat.le_of_ble_eq_true rfl) rfl).trans ?_
  refine (tq_dup2 i_L_law_381 rfl rfl rfl).trans ?_
  refine (tq_iaload i_L_law_382 s2 (by decide) (wr_max ws1 ws0) g3.1 (lt_gn n1 g3.2) rfl).trans ?_
  refine (tq_iload i_L_law_383 rfl rfl).trans ?_
  refine (tq_if_eq (pt := 392) i_L_law_385 w10 (by decide) rfl).trans ?_
  refine Eq.trans (b := if x10' = 0 then rn m_L_law 393 [.ref a0, .ref a1, .ref a2, v3, .int (mI x4), .ref a5, .int (mI x6), .int (mI x7), v8, v9, .int (mI x10)] [.int (mI 0), .int (mI (gZ h as2 (max xs1' xs0'))), .int (mI (max xs1' xs0')), .ref as2] h else rn m_L_law 393 [.ref a0, .ref a1, .ref a2, v3, .int (mI x4), .ref a5, .int (mI x6), .int (mI x7), v8, v9, .int (mI x10)] [.int (mI 1), .int (mI (gZ h as2 (max xs1' xs0'))), .int (mI (max xs1' xs0')), .ref as2] h) (ite_congr rfl (fun c1 => ?_) (fun c1 => ?_)) ?_
  · refine (tq_iconst i_L_law_392 rfl).trans ?_
    rfl
  · refine (tq_iconst i_L_law_388 rfl).trans ?_
    refine (tq_goto (pc' := 393) i_L_law_389 (by decide)).trans ?_
    rfl
  refine Eq.trans ite_b01 ?_
  refine (tq_iadd i_L_law_393 rfl).trans ?_
  refine (tq_iastore i_L_law_394 s2 (wr_max ws1 ws0) g3.1 (lt_gn n1 g3.2) rfl).trans ?_
  refine (tq_iinc (L' := [.ref a0, .ref a1, .ref a2, v3, .int (mI x4), .ref a5, .int (mI x6), .int (mI (x7 + 1)), v8, v9, .int (mI x10)]) i_L_law_395 rfl rfl rfl).trans ?_
  refine (tq_goto (pc' := 301) i_L_law_398 (by decide)).trans ?_
  rfl
theorem i_L_law_413 : am_i m_L_law 413 = some (413, .iload 7, 2, [], 0) := (lk_law_3 (Nat.le_of_ble_eq_true rfl)).trans rfl
theorem i_L_law_415 : am_i m_L_law 415 = some (415, .bipush 7, 2, [], 7) := (lk_law_3 (Nat.le_of_ble_eq_true rfl)).trans rfl
theorem i_L_law_417 : am_i m_L_law 417 = some (417, .if_icmp .ge 31, 3, [], 0) := (lk_law_3 (Nat.le_of_ble_eq_true rfl)).trans rfl
theorem i_L_law_420 : am_i m_L_law 420 = some (420, .aload 5, 2, [], 0) := (lk_law_3 (Nat.le_of_ble_eq_true rfl)).trans rfl
theorem i_L_law_422 : am_i m_L_law 422 = some (422, .iload 7, 2, [], 0) := (lk_law_3 (Nat.le_of_ble_eq_true rfl)).trans rfl
theorem i_L_law_424 : am_i m_L_law 424 = some (424, .iaload, 1, [], 0) := (lk_law_3 (Nat.le_of_ble_eq_true rfl)).trans rfl
theorem i_L_law_425 : am_i m_L_law 425 = some (425, .aload 5, 2, [], 0) := (lk_law_3 (Nat.le_of_ble_eq_true rfl)).trans rfl
theorem i_L_law_427 : am_i m_L_law 427 = some (427, .iload 6, 2, [], 0) := (lk_law_3 (Nat.le_of_ble_eq_true rfl)).trans rfl
theorem i_L_law_429 : am_i m_L_law 429 = some (429, .iaload, 1, [], 0) := (lk_law_3 (Nat.le_of_ble_eq_true rfl)).trans rfl
theorem i_L_law_430 : am_i m_L_law 430 = some (430, .if_icmp .le 8, 3, [], 0) := (lk_law_3 (Nat.le_of_ble_eq_true rfl)).trans rfl
theorem i_L_law_433 : am_i m_L_law 433 = some (433, .iload 7, 2, [], 0) := (lk_law_3 (Nat.le_of_ble_eq_true rfl)).trans rfl
theorem i_L_law_435 : am_i m_L_law 435 = some (435, .goto 5, 3, [], 0) := (lk_law_3 (Nat.le_of_ble_eq_true rfl)).trans rfl
theorem i_L_law_438 : am_i m_L_law 438 = some (438, .iload 6, 2, [], 0) := (lk_law_3 (Nat.le_of_ble_eq_true rfl)).trans rfl
theorem i_L_law_440 : am_i m_L_law 440 = some (440, .istore 6, 2, [], 0) := (lk_law_3 (Nat.le_of_ble_eq_true rfl)).trans rfl
theorem i_L_law_442 : am_i m_L_law 442 = some (442, .iinc 7 1, 3, [], 0) := (lk_law_3 (Nat.le_of_ble_eq_true rfl)).trans rfl
theorem i_L_law_445 : am_i m_L_law 445 = some (445, .goto (-32), 3, [], 0) := (lk_law_3 (Nat.le_of_ble_eq_true rfl)).trans rfl
theorem i_L_law_448 : am_i m_L_law 448 = some (448, .aload_n 1, 1, [], 0) := (lk_law_3 (Nat.le_of_ble_eq_true rfl)).trans rfl
theorem i_L_law_449 : am_i m_L_law 449 = some (449, .bipush 109, 2, [], 109) := (lk_law_3 (Nat.le_of_ble_eq_true rfl)).trans rfl
theorem i_L_law_451 : am_i m_L_law 451 = some (451, .iconst 0, 1, [], 0) := (lk_law_3 (Nat.le_of_ble_eq_true rfl)).trans rfl
theorem i_L_law_452 : am_i m_L_law 452 = some (452, .invokestatic 163, 3, [144], 0) := (lk_law_3 (Nat.le_of_ble_eq_true rfl)).trans rfl
theorem b_L_law_413 {a0 a1 a2 a5 n_a5 : Nat} {v3 v8 v9 v10 : Value} {x4 x6 x7 x6' x7' : Int} {h : am_H} (w6 : wr x6 = x6') (w7 : wr x7 = x7') (n1 : gn h a5 = n_a5) (s2 : sh h a5 = (1, 0)) (g3 : (¬ (7 ≤ x7')) → (0 ≤ x7' ∧ x7' < (n_a5 : Int))) (g4 : (¬ (7 ≤ x7')) → (0 ≤ x6' ∧ x6' < (n_a5 : Int))) : rn m_L_law 413 [.ref a0, .ref a1, .ref a2, v3, .int (mI x4), .ref a5, .int (mI x6), .int (mI x7), v8, v9, v10] [] h = if 7 ≤ x7' then cl m_L_law 455 [.ref a0, .ref a1, .ref a2, v3, .int (mI x4), .ref a5, .int (mI x6), .int (mI x7), v8, v9, v10] [] (rn m_L_ask 0 [.ref a1, .int (mI 109), .int (mI 0), am_J] [] h) else rn m_L_law 413 [.ref a0, .ref a1, .ref a2, v3, .int (mI x4), .ref a5, .int (mI (if (gZ h a5 x7') ≤ (gZ h a5 x6') then (x6 : Int) else x7)), .int (mI (x7 + 1)), v8, v9, v10] [] h := by
  refine (tq_iload i_L_law_413 rfl rfl).trans ?_
  refine (tq_bipush i_L_law_415 rfl).trans ?_
  refine (tq_icmp_ge (pt := 448) i_L_law_417 w7 w_7 (by decide) rfl).trans ?_
  refine ite_congr rfl (fun c1 => ?_) (fun c1 => ?_)
  · refine (tq_aload_n i_L_law_448 rfl (isA_ref _) rfl).trans ?_
    refine (tq_bipush i_L_law_449 rfl).trans ?_
    refine (tq_iconst i_L_law_451 rfl).trans ?_
    exact c_L_ask i_L_law_452 (ltd d_L_law (by decide)) (isA_ref _) stOk_0 rfl
  · refine (tq_aload i_L_law_420 rfl (isA_ref _) rfl).trans ?_
    refine (tq_iload i_L_law_422 rfl rfl).trans ?_
    refine (tq_iaload i_L_law_424 s2 (by decide) w7 (g3 c1).1 (lt_gn n1 (g3 c1).2) rfl).trans ?_
    refine (tq_aload i_L_law_425 rfl (isA_ref _) rfl).trans ?_
    refine (tq_iload i_L_law_427 rfl rfl).trans ?_
    refine (tq_iaload i_L_law_429 s2 (by decide) w6 (g4 c1).1 (lt_gn n1 (g4 c1).2) rfl).trans ?_
    refine (tq_icmp_le (pt := 438) i_L_law_430 (wr_gZ _ _ _) (wr_gZ _ _ _) (by decide) rfl).trans ?_
    refine Eq.trans (b := if (gZ h a5 x7') ≤ (gZ h a5 x6') then rn m_L_law 440 [.ref a0, .ref a1, .ref a2, v3, .int (mI x4), .ref a5, .int (mI x6), .int (mI x7), v8, v9, v10] [.int (mI x6)] h else rn m_L_law 440 [.ref a0, .ref a1, .ref a2, v3, .int (mI x4), .ref a5, .int (mI x6), .int (mI x7), v8, v9, v10] [.int (mI x7)] h) (ite_congr rfl (fun c2 => ?_) (fun c2 => ?_)) ?_
    · refine (tq_iload i_L_law_438 rfl rfl).trans ?_
      rfl
    · refine (tq_iload i_L_law_433 rfl rfl).trans ?_
      refine (tq_goto (pc' := 440) i_L_law_435 (by decide)).trans ?_
      rfl
    refine Eq.trans ite_I ?_
    refine (tq_istore (L' := [.ref a0, .ref a1, .ref a2, v3, .int (mI x4), .ref a5, .int (mI (if (gZ h a5 x7') ≤ (gZ h a5 x6') then (x6 : Int) else x7)), .int (mI x7), v8, v9, v10]) i_L_law_440 rfl rfl).trans ?_
    refine (tq_iinc (L' := [.ref a0, .ref a1, .ref a2, v3, .int (mI x4), .ref a5, .int (mI (if (gZ h a5 x7') ≤ (gZ h a5 x6') then (x6 : Int) else x7)), .int (mI (x7 + 1)), v8, v9, v10]) i_L_law_442 rfl rfl rfl).trans ?_
    refine (tq_goto (pc' := 413) i_L_law_445 (by decide)).trans ?_
    rfl
theorem i_L_law_455 : am_i m_L_law 455 = some (455, .iload 4, 2, [], 0) := (lk_law_3 (Nat.le_of_ble_eq_true rfl)).trans rfl
theorem i_L_law_457 : am_i m_L_law 457 = some (457, .ifCond .ne 9, 3, [], 0) := (lk_law_3 (Nat.le_of_ble_eq_true rfl)).trans rfl
theorem i_L_law_460 : am_i m_L_law 460 = some (460, .sipush (-1005), 3, [], -1005) := (lk_law_3 (Nat.le_of_ble_eq_true rfl)).trans rfl
theorem i_L_law_463 : am_i m_L_law 463 = some (463, .goto 5, 3, [], 0) := (lk_law_3 (Nat.le_of_ble_eq_true rfl)).trans rfl
theorem i_L_law_466 : am_i m_L_law 466 = some (466, .iload 6, 2, [], 0) := (lk_law_3 (Nat.le_of_ble_eq_true rfl)).trans rfl
theorem i_L_law_468 : am_i m_L_law 468 = some (468, .if_icmp .eq 5, 3, [], 0) := (lk_law_3 (Nat.le_of_ble_eq_true rfl)).trans rfl
theorem i_L_law_471 : am_i m_L_law 471 = some (471, .iconst 0, 1, [], 0) := (lk_law_3 (Nat.le_of_ble_eq_true rfl)).trans rfl
theorem i_L_law_472 : am_i m_L_law 472 = some (472, .ireturn, 1, [], 0) := (lk_law_3 (Nat.le_of_ble_eq_true rfl)).trans rfl
theorem i_L_law_473 : am_i m_L_law 473 = some (473, .ldc 117, 2, [], -2147000002) := (lk_law_4 (Nat.le_of_ble_eq_true rfl)).trans rfl
theorem i_L_law_475 : am_i m_L_law 475 = some (475, .istore 7, 2, [], 0) := (lk_law_4 (Nat.le_of_ble_eq_true rfl)).trans rfl
theorem i_L_law_477 : am_i m_L_law 477 = some (477, .aload_n 1, 1, [], 0) := (lk_law_4 (Nat.le_of_ble_eq_true rfl)).trans rfl
theorem i_L_law_478 : am_i m_L_law 478 = some (478, .bipush 102, 2, [], 102) := (lk_law_4 (Nat.le_of_ble_eq_true rfl)).trans rfl
theorem i_L_law_480 : am_i m_L_law 480 = some (480, .iconst 5, 1, [], 5) := (lk_law_4 (Nat.le_of_ble_eq_true rfl)).trans rfl
theorem i_L_law_481 : am_i m_L_law 481 = some (481, .newarray .int, 2, [], 0) := (lk_law_4 (Nat.le_of_ble_eq_true rfl)).trans rfl
theorem b_L_law_455 {a0 a1 a2 : Nat} {v3 v5 v7 v8 v9 v10 : Value} {x4 x6 xs0 x4' x6' xs0' : Int} {h : am_H} (w4 : wr x4 = x4') (w6 : wr x6 = x6') (ws0 : wr xs0 = xs0') : rn m_L_law 455 [.ref a0, .ref a1, .ref a2, v3, .int (mI x4), v5, .int (mI x6), v7, v8, v9, v10] [.int (mI xs0)] h = if xs0' = (if ¬ x4' = 0 then (x6' : Int) else (-1005)) then rn m_L_law 483 [.ref a0, .ref a1, .ref a2, v3, .int (mI x4), v5, .int (mI x6), .int (mI (-2147000002)), v8, v9, v10] [.ref (hnx h), .int (mI 102), .ref a1] (aI 0 5 h) else some (.inl (some (.int (mI 0))), h) := by
  refine (tq_iload i_L_law_455 rfl rfl).trans ?_
  refine (tq_if_ne (pt := 466) i_L_law_457 w4 (by decide) rfl).trans ?_
  refine Eq.trans (b := if ¬ x4' = 0 then rn m_L_law 468 [.ref a0, .ref a1, .ref a2, v3, .int (mI x4), v5, .int (mI x6), v7, v8, v9, v10] [.int (mI x6), .int (mI xs0)] h else rn m_L_law 468 [.ref a0, .ref a1, .ref a2, v3, .int (mI x4), v5, .int (mI x6), v7, v8, v9, v10] [.int (mI (-1005)), .int (mI xs0)] h) (ite_congr rfl (fun c1 => ?_) (fun c1 => ?_)) ?_
  · refine (tq_iload i_L_law_466 rfl rfl).trans ?_
    rfl
  · refine (tq_sipush i_L_law_460 rfl).trans ?_
    refine (tq_goto (pc' := 468) i_L_law_463 (by decide)).trans ?_
    rfl
  refine Eq.trans ite_I ?_
  refine (tq_icmp_eq (pt := 473) i_L_law_468 ws0 (wr_ite w6 w_m1005) (by decide) rfl).trans ?_
  refine ite_congr rfl (fun c2 => ?_) (fun c2 => ?_)
  · refine (tq_ldc i_L_law_473 rfl).trans ?_
    refine (tq_istore (L' := [.ref a0, .ref a1, .ref a2, v3, .int (mI x4), v5, .int (mI x6), .int (mI (-2147000002)), v8, v9, v10]) i_L_law_475 rfl rfl).trans ?_
    refine (tq_aload_n i_L_law_477 rfl (isA_ref _) rfl).trans ?_
    refine (tq_bipush i_L_law_478 rfl).trans ?_
    refine (tq_iconst i_L_law_480 rfl).trans ?_
    exact tq_newI (n := 5) (t := 0) i_L_law_481 w_5 (by decide) rfl (by decide) rfl rfl
  · refine (tq_iconst i_L_law_471 rfl).trans ?_
    exact tq_ireturn i_L_law_472 r_L_law (okB w_0 (by decide))
theorem i_L_law_483 : am_i m_L_law 483 = some (483, .dup, 1, [], 0) := (lk_law_4 (Nat.le_of_ble_eq_true rfl)).trans rfl
theorem i_L_law_484 : am_i m_L_law 484 = some (484, .iconst 0, 1, [], 0) := (lk_law_4 (Nat.le_of_ble_eq_true rfl)).trans rfl
theorem i_L_law_485 : am_i m_L_law 485 = some (485, .iconst 0, 1, [], 0) := (lk_law_4 (Nat.le_of_ble_eq_true rfl)).trans rfl
theorem i_L_law_486 : am_i m_L_law 486 = some (486, .iastore, 1, [], 0) := (lk_law_4 (Nat.le_of_ble_eq_true rfl)).trans rfl
theorem i_L_law_487 : am_i m_L_law 487 = some (487, .dup, 1, [], 0) := (lk_law_4 (Nat.le_of_ble_eq_true rfl)).trans rfl
theorem i_L_law_488 : am_i m_L_law 488 = some (488, .iconst 1, 1, [], 1) := (lk_law_4 (Nat.le_of_ble_eq_true rfl)).trans rfl
theorem i_L_law_489 : am_i m_L_law 489 = some (489, .iconst 0, 1, [], 0) := (lk_law_4 (Nat.le_of_ble_eq_true rfl)).trans rfl
theorem i_L_law_490 : am_i m_L_law 490 = some (490, .iastore, 1, [], 0) := (lk_law_4 (Nat.le_of_ble_eq_true rfl)).trans rfl
theorem i_L_law_491 : am_i m_L_law 491 = some (491, .dup, 1, [], 0) := (lk_law_4 (Nat.le_of_ble_eq_true rfl)).trans rfl
theorem i_L_law_492 : am_i m_L_law 492 = some (492, .iconst 2, 1, [], 2) := (lk_law_4 (Nat.le_of_ble_eq_true rfl)).trans rfl
theorem i_L_law_493 : am_i m_L_law 493 = some (493, .bipush 17, 2, [], 17) := (lk_law_4 (Nat.le_of_ble_eq_true rfl)).trans rfl
theorem i_L_law_495 : am_i m_L_law 495 = some (495, .iastore, 1, [], 0) := (lk_law_4 (Nat.le_of_ble_eq_true rfl)).trans rfl
theorem i_L_law_496 : am_i m_L_law 496 = some (496, .dup, 1, [], 0) := (lk_law_4 (Nat.le_of_ble_eq_true rfl)).trans rfl
theorem i_L_law_497 : am_i m_L_law 497 = some (497, .iconst 3, 1, [], 3) := (lk_law_4 (Nat.le_of_ble_eq_true rfl)).trans rfl
theorem i_L_law_498 : am_i m_L_law 498 = some (498, .iconst 1, 1, [], 1) := (lk_law_4 (Nat.le_of_ble_eq_true rfl)).trans rfl
theorem i_L_law_499 : am_i m_L_law 499 = some (499, .iastore, 1, [], 0) := (lk_law_4 (Nat.le_of_ble_eq_true rfl)).trans rfl
theorem i_L_law_500 : am_i m_L_law 500 = some (500, .dup, 1, [], 0) := (lk_law_4 (Nat.le_of_ble_eq_true rfl)).trans rfl
theorem i_L_law_501 : am_i m_L_law 501 = some (501, .iconst 4, 1, [], 4) := (lk_law_4 (Nat.le_of_ble_eq_true rfl)).trans rfl
theorem i_L_law_502 : am_i m_L_law 502 = some (502, .iconst 0, 1, [], 0) := (lk_law_4 (Nat.le_of_ble_eq_true rfl)).trans rfl
theorem i_L_law_503 : am_i m_L_law 503 = some (503, .iastore, 1, [], 0) := (lk_law_4 (Nat.le_of_ble_eq_true rfl)).trans rfl
theorem i_L_law_504 : am_i m_L_law 504 = some (504, .invokestatic 130, 3, [122], 0) := (lk_law_4 (Nat.le_of_ble_eq_true rfl)).trans rfl
theorem b_L_law_483 {a0 a1 a2 as0 as2 n_as0 : Nat} {v3 v5 v6 v8 v9 v10 : Value} {x4 x7 xs1 : Int} {h : am_H} (n1 : gn h as0 = n_as0) (s2 : sh h as0 = (1, 0)) (g3 : (0 : Int) ≤ 0 ∧ 0 < (n_as0 : Int)) (g4 : (0 : Int) ≤ 1 ∧ 1 < (n_as0 : Int)) (g5 : (0 : Int) ≤ 2 ∧ 2 < (n_as0 : Int)) (g6 : (0 : Int) ≤ 3 ∧ 3 < (n_as0 : Int)) (g7 : (0 : Int) ≤ 4 ∧ 4 < (n_as0 : Int)) : rn m_L_law 483 [.ref a0, .ref a1, .ref a2, v3, .int (mI x4), v5, v6, .int (mI x7), v8, v9, v10] [.ref as0, .int (mI xs1), .ref as2] h = cl m_L_law 507 [.ref a0, .ref a1, .ref a2, v3, .int (mI x4), v5, v6, .int (mI x7), v8, v9, v10] [] (rn m_L_paint 0 [.ref as2, .int (mI xs1), .ref as0, am_J] [] (uZ (uZ (uZ (uZ (uZ h as0 0 0) as0 1 0) as0 2 17) as0 3 1) as0 4 0)) := by
  refine (tq_dup i_L_law_483 rfl rfl).trans ?_
  refine (tq_iconst i_L_law_484 rfl).trans ?_
  refine (tq_iconst i_L_law_485 rfl).trans ?_
  refine (tq_iastore i_L_law_486 s2 w_0 g3.1 (lt_gn n1 g3.2) rfl).trans ?_
  refine (tq_dup i_L_law_487 rfl rfl).trans ?_
  refine (tq_iconst i_L_law_488 rfl).trans ?_
  refine (tq_iconst i_L_law_489 rfl).trans ?_
  refine (tq_iastore i_L_law_490 ((sh_uZ _ _ _ _ _).trans s2) w_1 g4.1 (lt_gn ((gn_uZ _ _ _ _ _).trans n1) g4.2) rfl).trans ?_
  refine (tq_dup i_L_law_491 rfl rfl).trans ?_
  refine (tq_iconst i_L_law_492 rfl).trans ?_
  refine (tq_bipush i_L_law_493 rfl).trans ?_
  refine (tq_iastore i_L_law_495 ((sh_uZ _ _ _ _ _).trans ((sh_uZ _ _ _ _ _).trans s2)) w_2 g5.1 (lt_gn ((gn_uZ _ _ _ _ _).trans ((gn_uZ _ _ _ _ _).trans n1)) g5.2) rfl).trans ?_
  refine (tq_dup i_L_law_496 rfl rfl).trans ?_
  refine (tq_iconst i_L_law_497 rfl).trans ?_
  refine (tq_iconst i_L_law_498 rfl).trans ?_
  refine (tq_iastore i_L_law_499 ((sh_uZ _ _ _ _ _).trans ((sh_uZ _ _ _ _ _).trans ((sh_uZ _ _ _ _ _).trans s2))) w_3 g6.1 (lt_gn ((gn_uZ _ _ _ _ _).trans ((gn_uZ _ _ _ _ _).trans ((gn_uZ _ _ _ _ _).trans n1))) g6.2) rfl).trans ?_
  refine (tq_dup i_L_law_500 rfl rfl).trans ?_
  refine (tq_iconst i_L_law_501 rfl).trans ?_
  refine (tq_iconst i_L_law_502 rfl).trans ?_
  refine (tq_iastore i_L_law_503 ((sh_uZ _ _ _ _ _).trans ((sh_uZ _ _ _ _ _).trans ((sh_uZ _ _ _ _ _).trans ((sh_uZ _ _ _ _ _).trans s2)))) w_4 g7.1 (lt_gn ((gn_uZ _ _ _ _ _).trans ((gn_uZ _ _ _ _ _).trans ((gn_uZ _ _ _ _ _).trans ((gn_uZ _ _ _ _ _).trans n1)))) g7.2) rfl).trans ?_
  exact c_L_paint i_L_law_504 (ltd d_L_law (by decide)) (isA_ref _) (isA_ref _) stOk_0 rfl
theorem i_L_law_507 : am_i m_L_law 507 = some (507, .iload 7, 2, [], 0) := (lk_law_4 (Nat.le_of_ble_eq_true rfl)).trans rfl
theorem i_L_law_509 : am_i m_L_law 509 = some (509, .if_icmp .ne 297, 3, [], 0) := (lk_law_4 (Nat.le_of_ble_eq_true rfl)).trans rfl
theorem i_L_law_512 : am_i m_L_law 512 = some (512, .aload_n 1, 1, [], 0) := (lk_law_4 (Nat.le_of_ble_eq_true rfl)).trans rfl
theorem i_L_law_513 : am_i m_L_law 513 = some (513, .bipush 102, 2, [], 102) := (lk_law_4 (Nat.le_of_ble_eq_true rfl)).trans rfl
theorem i_L_law_515 : am_i m_L_law 515 = some (515, .iconst 5, 1, [], 5) := (lk_law_4 (Nat.le_of_ble_eq_true rfl)).trans rfl
theorem i_L_law_516 : am_i m_L_law 516 = some (516, .newarray .int, 2, [], 0) := (lk_law_4 (Nat.le_of_ble_eq_true rfl)).trans rfl
theorem i_L_law_806 : am_i m_L_law 806 = some (806, .iconst 0, 1, [], 0) := (lk_law_7 (Nat.le_of_ble_eq_true rfl)).trans rfl
theorem i_L_law_807 : am_i m_L_law 807 = some (807, .ireturn, 1, [], 0) := (lk_law_8 (Nat.le_of_ble_eq_true rfl)).trans rfl
theorem b_L_law_507 {a0 a1 a2 : Nat} {v3 v5 v6 v8 v9 v10 : Value} {x4 x7 xs0 x7' xs0' : Int} {h : am_H} (w7 : wr x7 = x7') (ws0 : wr xs0 = xs0') : rn m_L_law 507 [.ref a0, .ref a1, .ref a2, v3, .int (mI x4), v5, v6, .int (mI x7), v8, v9, v10] [.int (mI xs0)] h = if ¬ xs0' = x7' then some (.inl (some (.int (mI 0))), h) else rn m_L_law 518 [.ref a0, .ref a1, .ref a2, v3, .int (mI x4), v5, v6, .int (mI x7), v8, v9, v10] [.ref (hnx h), .int (mI 102), .ref a1] (aI 0 5 h) := by
  refine (tq_iload i_L_law_507 rfl rfl).trans ?_
  refine (tq_icmp_ne (pt := 806) i_L_law_509 ws0 w7 (by decide) rfl).trans ?_
  refine ite_congr rfl (fun c1 => ?_) (fun c1 => ?_)
  · refine (tq_iconst i_L_law_806 rfl).trans ?_
    exact tq_ireturn i_L_law_807 r_L_law (okB w_0 (by decide))
  · refine (tq_aload_n i_L_law_512 rfl (isA_ref _) rfl).trans ?_
    refine (tq_bipush i_L_law_513 rfl).trans ?_
    refine (tq_iconst i_L_law_515 rfl).trans ?_
    exact tq_newI (n := 5) (t := 0) i_L_law_516 w_5 (by decide) rfl (by decide) rfl rfl
theorem i_L_law_518 : am_i m_L_law 518 = some (518, .dup, 1, [], 0) := (lk_law_4 (Nat.le_of_ble_eq_true rfl)).trans rfl
theorem i_L_law_519 : am_i m_L_law 519 = some (519, .iconst 0, 1, [], 0) := (lk_law_4 (Nat.le_of_ble_eq_true rfl)).trans rfl
theorem i_L_law_520 : am_i m_L_law 520 = some (520, .bipush 15, 2, [], 15) := (lk_law_4 (Nat.le_of_ble_eq_true rfl)).trans rfl
theorem i_L_law_522 : am_i m_L_law 522 = some (522, .iastore, 1, [], 0) := (lk_law_4 (Nat.le_of_ble_eq_true rfl)).trans rfl
theorem i_L_law_523 : am_i m_L_law 523 = some (523, .dup, 1, [], 0) := (lk_law_4 (Nat.le_of_ble_eq_true rfl)).trans rfl
theorem i_L_law_524 : am_i m_L_law 524 = some (524, .iconst 1, 1, [], 1) := (lk_law_4 (Nat.le_of_ble_eq_true rfl)).trans rfl
theorem i_L_law_525 : am_i m_L_law 525 = some (525, .bipush 15, 2, [], 15) := (lk_law_4 (Nat.le_of_ble_eq_true rfl)).trans rfl
theorem i_L_law_527 : am_i m_L_law 527 = some (527, .iastore, 1, [], 0) := (lk_law_4 (Nat.le_of_ble_eq_true rfl)).trans rfl
theorem i_L_law_528 : am_i m_L_law 528 = some (528, .dup, 1, [], 0) := (lk_law_4 (Nat.le_of_ble_eq_true rfl)).trans rfl
theorem i_L_law_529 : am_i m_L_law 529 = some (529, .iconst 2, 1, [], 2) := (lk_law_4 (Nat.le_of_ble_eq_true rfl)).trans rfl
theorem i_L_law_530 : am_i m_L_law 530 = some (530, .iconst 1, 1, [], 1) := (lk_law_4 (Nat.le_of_ble_eq_true rfl)).trans rfl
theorem i_L_law_531 : am_i m_L_law 531 = some (531, .iastore, 1, [], 0) := (lk_law_4 (Nat.le_of_ble_eq_true rfl)).trans rfl
theorem i_L_law_532 : am_i m_L_law 532 = some (532, .dup, 1, [], 0) := (lk_law_4 (Nat.le_of_ble_eq_true rfl)).trans rfl
theorem i_L_law_533 : am_i m_L_law 533 = some (533, .iconst 3, 1, [], 3) := (lk_law_4 (Nat.le_of_ble_eq_true rfl)).trans rfl
theorem i_L_law_534 : am_i m_L_law 534 = some (534, .iconst 2, 1, [], 2) := (lk_law_4 (Nat.le_of_ble_eq_true rfl)).trans rfl
theorem i_L_law_535 : am_i m_L_law 535 = some (535, .iastore, 1, [], 0) := (lk_law_4 (Nat.le_of_ble_eq_true rfl)).trans rfl
theorem i_L_law_536 : am_i m_L_law 536 = some (536, .dup, 1, [], 0) := (lk_law_4 (Nat.le_of_ble_eq_true rfl)).trans rfl
theorem i_L_law_537 : am_i m_L_law 537 = some (537, .iconst 4, 1, [], 4) := (lk_law_4 (Nat.le_of_ble_eq_true rfl)).trans rfl
theorem i_L_law_538 : am_i m_L_law 538 = some (538, .iconst 0, 1, [], 0) := (lk_law_4 (Nat.le_of_ble_eq_true rfl)).trans rfl
theorem i_L_law_539 : am_i m_L_law 539 = some (539, .iastore, 1, [], 0) := (lk_law_4 (Nat.le_of_ble_eq_true rfl)).trans rfl
theorem i_L_law_540 : am_i m_L_law 540 = some (540, .invokestatic 130, 3, [122], 0) := (lk_law_4 (Nat.le_of_ble_eq_true rfl)).trans rfl
theorem b_L_law_518 {a0 a1 a2 as0 as2 n_as0 : Nat} {v3 v5 v6 v8 v9 v10 : Value} {x4 x7 xs1 : Int} {h : am_H} (n1 : gn h as0 = n_as0) (s2 : sh h as0 = (1, 0)) (g3 : (0 : Int) ≤ 0 ∧ 0 < (n_as0 : Int)) (g4 : (0 : Int) ≤ 1 ∧ 1 < (n_as0 : Int)) (g5 : (0 : Int) ≤ 2 ∧ 2 < (n_as0 : Int)) (g6 : (0 : Int) ≤ 3 ∧ 3 < (n_as0 : Int)) (g7 : (0 : Int) ≤ 4 ∧ 4 < (n_as0 : Int)) : rn m_L_law 518 [.ref a0, .ref a1, .ref a2, v3, .int (mI x4), v5, v6, .int (mI x7), v8, v9, v10] [.ref as0, .int (mI xs1), .ref as2] h = cl m_L_law 543 [.ref a0, .ref a1, .ref a2, v3, .int (mI x4), v5, v6, .int (mI x7), v8, v9, v10] [] (rn m_L_paint 0 [.ref as2, .int (mI xs1), .ref as0, am_J] [] (uZ (uZ (uZ (uZ (uZ h as0 0 15) as0 1 15) as0 2 1) as0 3 2) as0 4 0)) := by
  refine (tq_dup i_L_law_518 rfl rfl).trans ?_
  refine (tq_iconst i_L_law_519 rfl).trans ?_
  refine (tq_bipush i_L_law_520 rfl).trans ?_
  refine (tq_iastore i_L_law_522 s2 w_0 g3.1 (lt_gn n1 g3.2) rfl).trans ?_
  refine (tq_dup i_L_law_523 rfl rfl).trans ?_
  refine (tq_iconst i_L_law_524 rfl).trans ?_
  refine (tq_bipush i_L_law_525 rfl).trans ?_
  refine (tq_iastore i_L_law_527 ((sh_uZ _ _ _ _ _).trans s2) w_1 g4.1 (lt_gn ((gn_uZ _ _ _ _ _).trans n1) g4.2) rfl).trans ?_
  refine (tq_dup i_L_law_528 rfl rfl).trans ?_
  refine (tq_iconst i_L_law_529 rfl).trans ?_
  refine (tq_iconst i_L_law_530 rfl).trans ?_
  refine (tq_iastore i_L_law_531 ((sh_uZ _ _ _ _ _).trans ((sh_uZ _ _ _ _ _).trans s2)) w_2 g5.1 (lt_gn ((gn_uZ _ _ _ _ _).trans ((gn_uZ _ _ _ _ _).trans n1)) g5.2) rfl).trans ?_
  refine (tq_dup i_L_law_532 rfl rfl).trans ?_
  refine (tq_iconst i_L_law_533 rfl).trans ?_
  refine (tq_iconst i_L_law_534 rfl).trans ?_
  refine (tq_iastore i_L_law_535 ((sh_uZ _ _ _ _ _).trans ((sh_uZ _ _ _ _ _).trans ((sh_uZ _ _ _ _ _).trans s2))) w_3 g6.1 (lt_gn ((gn_uZ _ _ _ _ _).trans ((gn_uZ _ _ _ _ _).trans ((gn_uZ _ _ _ _ _).trans n1))) g6.2) rfl).trans ?_
  refine (tq_dup i_L_law_536 rfl rfl).trans ?_
  refine (tq_iconst i_L_law_537 rfl).trans ?_
  refine (tq_iconst i_L_law_538 rfl).trans ?_
  refine (tq_iastore i_L_law_539 ((sh_uZ _ _ _ _ _).trans ((sh_uZ _ _ _ _ _).trans ((sh_uZ _ _ _ _ _).trans ((sh_uZ _ _ _ _ _).trans s2)))) w_4 g7.1 (lt_gn ((gn_uZ _ _ _ _ _).trans ((gn_uZ _ _ _ _ _).trans ((gn_uZ _ _ _ _ _).trans ((gn_uZ _ _ _ _ _).trans n1)))) g7.2) rfl).trans ?_
  exact c_L_paint i_L_law_540 (ltd d_L_law (by decide)) (isA_ref _) (isA_ref _) stOk_0 rfl
theorem i_L_law_543 : am_i m_L_law 543 = some (543, .iload 7, 2, [], 0) := (lk_law_4 (Nat.le_of_ble_eq_true rfl)).trans rfl
theorem i_L_law_545 : am_i m_L_law 545 = some (545, .if_icmp .ne 261, 3, [], 0) := (lk_law_4 (Nat.le_of_ble_eq_true rfl)).trans rfl
theorem i_L_law_548 : am_i m_L_law 548 = some (548, .aload_n 1, 1, [], 0) := (lk_law_4 (Nat.le_of_ble_eq_true rfl)).trans rfl
theorem i_L_law_549 : am_i m_L_law 549 = some (549, .bipush 102, 2, [], 102) := (lk_law_4 (Nat.le_of_ble_eq_true rfl)).trans rfl
theorem i_L_law_551 : am_i m_L_law 551 = some (551, .iconst 5, 1, [], 5) := (lk_law_4 (Nat.le_of_ble_eq_true rfl)).trans rfl
theorem i_L_law_552 : am_i m_L_law 552 = some (552, .newarray .int, 2, [], 0) := (lk_law_4 (Nat.le_of_ble_eq_true rfl)).trans rfl
theorem b_L_law_543 {a0 a1 a2 : Nat} {v3 v5 v6 v8 v9 v10 : Value} {x4 x7 xs0 x7' xs0' : Int} {h : am_H} (w7 : wr x7 = x7') (ws0 : wr xs0 = xs0') : rn m_L_law 543 [.ref a0, .ref a1, .ref a2, v3, .int (mI x4), v5, v6, .int (mI x7), v8, v9, v10] [.int (mI xs0)] h = if ¬ xs0' = x7' then some (.inl (some (.int (mI 0))), h) else rn m_L_law 554 [.ref a0, .ref a1, .ref a2, v3, .int (mI x4), v5, v6, .int (mI x7), v8, v9, v10] [.ref (hnx h), .int (mI 102), .ref a1] (aI 0 5 h) := by
  refine (tq_iload i_L_law_543 rfl rfl).trans ?_
  refine (tq_icmp_ne (pt := 806) i_L_law_545 ws0 w7 (by decide) rfl).trans ?_
  refine ite_congr rfl (fun c1 => ?_) (fun c1 => ?_)
  · refine (tq_iconst i_L_law_806 rfl).trans ?_
    exact tq_ireturn i_L_law_807 r_L_law (okB w_0 (by decide))
  · refine (tq_aload_n i_L_law_548 rfl (isA_ref _) rfl).trans ?_
    refine (tq_bipush i_L_law_549 rfl).trans ?_
    refine (tq_iconst i_L_law_551 rfl).trans ?_
    exact tq_newI (n := 5) (t := 0) i_L_law_552 w_5 (by decide) rfl (by decide) rfl rfl
theorem i_L_law_554 : am_i m_L_law 554 = some (554, .dup, 1, [], 0) := (lk_law_5 (Nat.le_of_ble_eq_true rfl)).trans rfl
theorem i_L_law_555 : am_i m_L_law 555 = some (555, .iconst 0, 1, [], 0) := (lk_law_5 (Nat.le_of_ble_eq_true rfl)).trans rfl
theorem i_L_law_556 : am_i m_L_law 556 = some (556, .iconst (-1), 1, [], -1) := (lk_law_5 (Nat.le_of_ble_eq_true rfl)).trans rfl
theorem i_L_law_557 : am_i m_L_law 557 = some (557, .iastore, 1, [], 0) := (lk_law_5 (Nat.le_of_ble_eq_true rfl)).trans rfl
theorem i_L_law_558 : am_i m_L_law 558 = some (558, .dup, 1, [], 0) := (lk_law_5 (Nat.le_of_ble_eq_true rfl)).trans rfl
theorem i_L_law_559 : am_i m_L_law 559 = some (559, .iconst 1, 1, [], 1) := (lk_law_5 (Nat.le_of_ble_eq_true rfl)).trans rfl
theorem i_L_law_560 : am_i m_L_law 560 = some (560, .iconst 0, 1, [], 0) := (lk_law_5 (Nat.le_of_ble_eq_true rfl)).trans rfl
theorem i_L_law_561 : am_i m_L_law 561 = some (561, .iastore, 1, [], 0) := (lk_law_5 (Nat.le_of_ble_eq_true rfl)).trans rfl
theorem i_L_law_562 : am_i m_L_law 562 = some (562, .dup, 1, [], 0) := (lk_law_5 (Nat.le_of_ble_eq_true rfl)).trans rfl
theorem i_L_law_563 : am_i m_L_law 563 = some (563, .iconst 2, 1, [], 2) := (lk_law_5 (Nat.le_of_ble_eq_true rfl)).trans rfl
theorem i_L_law_564 : am_i m_L_law 564 = some (564, .iconst 1, 1, [], 1) := (lk_law_5 (Nat.le_of_ble_eq_true rfl)).trans rfl
theorem i_L_law_565 : am_i m_L_law 565 = some (565, .iastore, 1, [], 0) := (lk_law_5 (Nat.le_of_ble_eq_true rfl)).trans rfl
theorem i_L_law_566 : am_i m_L_law 566 = some (566, .dup, 1, [], 0) := (lk_law_5 (Nat.le_of_ble_eq_true rfl)).trans rfl
theorem i_L_law_567 : am_i m_L_law 567 = some (567, .iconst 3, 1, [], 3) := (lk_law_5 (Nat.le_of_ble_eq_true rfl)).trans rfl
theorem i_L_law_568 : am_i m_L_law 568 = some (568, .iconst 1, 1, [], 1) := (lk_law_5 (Nat.le_of_ble_eq_true rfl)).trans rfl
theorem i_L_law_569 : am_i m_L_law 569 = some (569, .iastore, 1, [], 0) := (lk_law_5 (Nat.le_of_ble_eq_true rfl)).trans rfl
theorem i_L_law_570 : am_i m_L_law 570 = some (570, .dup, 1, [], 0) := (lk_law_5 (Nat.le_of_ble_eq_true rfl)).trans rfl
theorem i_L_law_571 : am_i m_L_law 571 = some (571, .iconst 4, 1, [], 4) := (lk_law_5 (Nat.le_of_ble_eq_true rfl)).trans rfl
theorem i_L_law_572 : am_i m_L_law 572 = some (572, .iconst 0, 1, [], 0) := (lk_law_5 (Nat.le_of_ble_eq_true rfl)).trans rfl
theorem i_L_law_573 : am_i m_L_law 573 = some (573, .iastore, 1, [], 0) := (lk_law_5 (Nat.le_of_ble_eq_true rfl)).trans rfl
theorem i_L_law_574 : am_i m_L_law 574 = some (574, .invokestatic 130, 3, [122], 0) := (lk_law_5 (Nat.le_of_ble_eq_true rfl)).trans rfl
theorem b_L_law_554 {a0 a1 a2 as0 as2 n_as0 : Nat} {v3 v5 v6 v8 v9 v10 : Value} {x4 x7 xs1 : Int} {h : am_H} (n1 : gn h as0 = n_as0) (s2 : sh h as0 = (1, 0)) (g3 : (0 : Int) ≤ 0 ∧ 0 < (n_as0 : Int)) (g4 : (0 : Int) ≤ 1 ∧ 1 < (n_as0 : Int)) (g5 : (0 : Int) ≤ 2 ∧ 2 < (n_as0 : Int)) (g6 : (0 : Int) ≤ 3 ∧ 3 < (n_as0 : Int)) (g7 : (0 : Int) ≤ 4 ∧ 4 < (n_as0 : Int)) : rn m_L_law 554 [.ref a0, .ref a1, .ref a2, v3, .int (mI x4), v5, v6, .int (mI x7), v8, v9, v10] [.ref as0, .int (mI xs1), .ref as2] h = cl m_L_law 577 [.ref a0, .ref a1, .ref a2, v3, .int (mI x4), v5, v6, .int (mI x7), v8, v9, v10] [] (rn m_L_paint 0 [.ref as2, .int (mI xs1), .ref as0, am_J] [] (uZ (uZ (uZ (uZ (uZ h as0 0 (-1)) as0 1 0) as0 2 1) as0 3 1) as0 4 0)) := by
  refine (tq_dup i_L_law_554 rfl rfl).trans ?_
  refine (tq_iconst i_L_law_555 rfl).trans ?_
  refine (tq_iconst i_L_law_556 rfl).trans ?_
  refine (tq_iastore i_L_law_557 s2 w_0 g3.1 (lt_gn n1 g3.2) rfl).trans ?_
  refine (tq_dup i_L_law_558 rfl rfl).trans ?_
  refine (tq_iconst i_L_law_559 rfl).trans ?_
  refine (tq_iconst i_L_law_560 rfl).trans ?_
  refine (tq_iastore i_L_law_561 ((sh_uZ _ _ _ _ _).trans s2) w_1 g4.1 (lt_gn ((gn_uZ _ _ _ _ _).trans n1) g4.2) rfl).trans ?_
  refine (tq_dup i_L_law_562 rfl rfl).trans ?_
  refine (tq_iconst i_L_law_563 rfl).trans ?_
  refine (tq_iconst i_L_law_564 rfl).trans ?_
  refine (tq_iastore i_L_law_565 ((sh_uZ _ _ _ _ _).trans ((sh_uZ _ _ _ _ _).trans s2)) w_2 g5.1 (lt_gn ((gn_uZ _ _ _ _ _).trans ((gn_uZ _ _ _ _ _).trans n1)) g5.2) rfl).trans ?_
  refine (tq_dup i_L_law_566 rfl rfl).trans ?_
  refine (tq_iconst i_L_law_567 rfl).trans ?_
  refine (tq_iconst i_L_law_568 rfl).trans ?_
  refine (tq_iastore i_L_law_569 ((sh_uZ _ _ _ _ _).trans ((sh_uZ _ _ _ _ _).trans ((sh_uZ _ _ _ _ _).trans s2))) w_3 g6.1 (lt_gn ((gn_uZ _ _ _ _ _).trans ((gn_uZ _ _ _ _ _).trans ((gn_uZ _ _ _ _ _).trans n1))) g6.2) rfl).trans ?_
  refine (tq_dup i_L_law_570 rfl rfl).trans ?_
  refine (tq_iconst i_L_law_571 rfl).trans ?_
  refine (tq_iconst i_L_law_572 rfl).trans ?_
  refine (tq_iastore i_L_law_573 ((sh_uZ _ _ _ _ _).trans ((sh_uZ _ _ _ _ _).trans ((sh_uZ _ _ _ _ _).trans ((sh_uZ _ _ _ _ _).trans s2)))) w_4 g7.1 (lt_gn ((gn_uZ _ _ _ _ _).trans ((gn_uZ _ _ _ _ _).trans ((gn_uZ _ _ _ _ _).trans ((gn_uZ _ _ _ _ _).trans n1)))) g7.2) rfl).trans ?_
  exact c_L_paint i_L_law_574 (ltd d_L_law (by decide)) (isA_ref _) (isA_ref _) stOk_0 rfl
theorem i_L_law_577 : am_i m_L_law 577 = some (577, .iload 7, 2, [], 0) := (lk_law_5 (Nat.le_of_ble_eq_true rfl)).trans rfl
theorem i_L_law_579 : am_i m_L_law 579 = some (579, .if_icmp .ne 227, 3, [], 0) := (lk_law_5 (Nat.le_of_ble_eq_true rfl)).trans rfl
theorem i_L_law_582 : am_i m_L_law 582 = some (582, .aload_n 1, 1, [], 0) := (lk_law_5 (Nat.le_of_ble_eq_true rfl)).trans rfl
theorem i_L_law_583 : am_i m_L_law 583 = some (583, .bipush 102, 2, [], 102) := (lk_law_5 (Nat.le_of_ble_eq_true rfl)).trans rfl
theorem i_L_law_585 : am_i m_L_law 585 = some (585, .iconst 5, 1, [], 5) := (lk_law_5 (Nat.le_of_ble_eq_true rfl)).trans rfl
theorem i_L_law_586 : am_i m_L_law 586 = some (586, .newarray .int, 2, [], 0) := (lk_law_5 (Nat.le_of_ble_eq_true rfl)).trans rfl
theorem b_L_law_577 {a0 a1 a2 : Nat} {v3 v5 v6 v8 v9 v10 : Value} {x4 x7 xs0 x7' xs0' : Int} {h : am_H} (w7 : wr x7 = x7') (ws0 : wr xs0 = xs0') : rn m_L_law 577 [.ref a0, .ref a1, .ref a2, v3, .int (mI x4), v5, v6, .int (mI x7), v8, v9, v10] [.int (mI xs0)] h = if ¬ xs0' = x7' then some (.inl (some (.int (mI 0))), h) else rn m_L_law 588 [.ref a0, .ref a1, .ref a2, v3, .int (mI x4), v5, v6, .int (mI x7), v8, v9, v10] [.ref (hnx h), .int (mI 102), .ref a1] (aI 0 5 h) := by
  refine (tq_iload i_L_law_577 rfl rfl).trans ?_
  refine (tq_icmp_ne (pt := 806) i_L_law_579 ws0 w7 (by decide) rfl).trans ?_
  refine ite_congr rfl (fun c1 => ?_) (fun c1 => ?_)
  · refine (tq_iconst i_L_law_806 rfl).trans ?_
    exact tq_ireturn i_L_law_807 r_L_law (okB w_0 (by decide))
  · refine (tq_aload_n i_L_law_582 rfl (isA_ref _) rfl).trans ?_
    refine (tq_bipush i_L_law_583 rfl).trans ?_
    refine (tq_iconst i_L_law_585 rfl).trans ?_
    exact tq_newI (n := 5) (t := 0) i_L_law_586 w_5 (by decide) rfl (by decide) rfl rfl
theorem i_L_law_588 : am_i m_L_law 588 = some (588, .dup, 1, [], 0) := (lk_law_5 (Nat.le_of_ble_eq_true rfl)).trans rfl
theorem i_L_law_589 : am_i m_L_law 589 = some (589, .iconst 0, 1, [], 0) := (lk_law_5 (Nat.le_of_ble_eq_true rfl)).trans rfl
theorem i_L_law_590 : am_i m_L_law 590 = some (590, .iconst 0, 1, [], 0) := (lk_law_5 (Nat.le_of_ble_eq_true rfl)).trans rfl
theorem i_L_law_591 : am_i m_L_law 591 = some (591, .iastore, 1, [], 0) := (lk_law_5 (Nat.le_of_ble_eq_true rfl)).trans rfl
theorem i_L_law_592 : am_i m_L_law 592 = some (592, .dup, 1, [], 0) := (lk_law_5 (Nat.le_of_ble_eq_true rfl)).trans rfl
theorem i_L_law_593 : am_i m_L_law 593 = some (593, .iconst 1, 1, [], 1) := (lk_law_5 (Nat.le_of_ble_eq_true rfl)).trans rfl
theorem i_L_law_594 : am_i m_L_law 594 = some (594, .iconst 0, 1, [], 0) := (lk_law_5 (Nat.le_of_ble_eq_true rfl)).trans rfl
theorem i_L_law_595 : am_i m_L_law 595 = some (595, .iastore, 1, [], 0) := (lk_law_5 (Nat.le_of_ble_eq_true rfl)).trans rfl
theorem i_L_law_596 : am_i m_L_law 596 = some (596, .dup, 1, [], 0) := (lk_law_5 (Nat.le_of_ble_eq_true rfl)).trans rfl
theorem i_L_law_597 : am_i m_L_law 597 = some (597, .iconst 2, 1, [], 2) := (lk_law_5 (Nat.le_of_ble_eq_true rfl)).trans rfl
theorem i_L_law_598 : am_i m_L_law 598 = some (598, .iconst 0, 1, [], 0) := (lk_law_5 (Nat.le_of_ble_eq_true rfl)).trans rfl
theorem i_L_law_599 : am_i m_L_law 599 = some (599, .iastore, 1, [], 0) := (lk_law_5 (Nat.le_of_ble_eq_true rfl)).trans rfl
theorem i_L_law_600 : am_i m_L_law 600 = some (600, .dup, 1, [], 0) := (lk_law_5 (Nat.le_of_ble_eq_true rfl)).trans rfl
theorem i_L_law_601 : am_i m_L_law 601 = some (601, .iconst 3, 1, [], 3) := (lk_law_5 (Nat.le_of_ble_eq_true rfl)).trans rfl
theorem i_L_law_602 : am_i m_L_law 602 = some (602, .iconst 1, 1, [], 1) := (lk_law_5 (Nat.le_of_ble_eq_true rfl)).trans rfl
theorem i_L_law_603 : am_i m_L_law 603 = some (603, .iastore, 1, [], 0) := (lk_law_5 (Nat.le_of_ble_eq_true rfl)).trans rfl
theorem i_L_law_604 : am_i m_L_law 604 = some (604, .dup, 1, [], 0) := (lk_law_5 (Nat.le_of_ble_eq_true rfl)).trans rfl
theorem i_L_law_605 : am_i m_L_law 605 = some (605, .iconst 4, 1, [], 4) := (lk_law_5 (Nat.le_of_ble_eq_true rfl)).trans rfl
theorem i_L_law_606 : am_i m_L_law 606 = some (606, .iconst 0, 1, [], 0) := (lk_law_5 (Nat.le_of_ble_eq_true rfl)).trans rfl
theorem i_L_law_607 : am_i m_L_law 607 = some (607, .iastore, 1, [], 0) := (lk_law_5 (Nat.le_of_ble_eq_true rfl)).trans rfl
theorem i_L_law_608 : am_i m_L_law 608 = some (608, .invokestatic 130, 3, [122], 0) := (lk_law_5 (Nat.le_of_ble_eq_true rfl)).trans rfl
theorem b_L_law_588 {a0 a1 a2 as0 as2 n_as0 : Nat} {v3 v5 v6 v8 v9 v10 : Value} {x4 x7 xs1 : Int} {h : am_H} (n1 : gn h as0 = n_as0) (s2 : sh h as0 = (1, 0)) (g3 : (0 : Int) ≤ 0 ∧ 0 < (n_as0 : Int)) (g4 : (0 : Int) ≤ 1 ∧ 1 < (n_as0 : Int)) (g5 : (0 : Int) ≤ 2 ∧ 2 < (n_as0 : Int)) (g6 : (0 : Int) ≤ 3 ∧ 3 < (n_as0 : Int)) (g7 : (0 : Int) ≤ 4 ∧ 4 < (n_as0 : Int)) : rn m_L_law 588 [.ref a0, .ref a1, .ref a2, v3, .int (mI x4), v5, v6, .int (mI x7), v8, v9, v10] [.ref as0, .int (mI xs1), .ref as2] h = cl m_L_law 611 [.ref a0, .ref a1, .ref a2, v3, .int (mI x4), v5, v6, .int (mI x7), v8, v9, v10] [] (rn m_L_paint 0 [.ref as2, .int (mI xs1), .ref as0, am_J] [] (uZ (uZ (uZ (uZ (uZ h as0 0 0) as0 1 0) as0 2 0) as0 3 1) as0 4 0)) := by
  refine (tq_dup i_L_law_588 rfl rfl).trans ?_
  refine (tq_iconst i_L_law_589 rfl).trans ?_
  refine (tq_iconst i_L_law_590 rfl).trans ?_
  refine (tq_iastore i_L_law_591 s2 w_0 g3.1 (lt_gn n1 g3.2) rfl).trans ?_
  refine (tq_dup i_L_law_592 rfl rfl).trans ?_
  refine (tq_iconst i_L_law_593 rfl).trans ?_
  refine (tq_iconst i_L_law_594 rfl).trans ?_
  refine (tq_iastore i_L_law_595 ((sh_uZ _ _ _ _ _).trans s2) w_1 g4.1 (lt_gn ((gn_uZ _ _ _ _ _).trans n1) g4.2) rfl).trans ?_
  refine (tq_dup i_L_law_596 rfl rfl).trans ?_
  refine (tq_iconst i_L_law_597 rfl).trans ?_
  refine (tq_iconst i_L_law_598 rfl).trans ?_
  refine (tq_iastore i_L_law_599 ((sh_uZ _ _ _ _ _).trans ((sh_uZ _ _ _ _ _).trans s2)) w_2 g5.1 (lt_gn ((gn_uZ _ _ _ _ _).trans ((gn_uZ _ _ _ _ _).trans n1)) g5.2) rfl).trans ?_
  refine (tq_dup i_L_law_600 rfl rfl).trans ?_
  refine (tq_iconst i_L_law_601 rfl).trans ?_
  refine (tq_iconst i_L_law_602 rfl).trans ?_
  refine (tq_iastore i_L_law_603 ((sh_uZ _ _ _ _ _).trans ((sh_uZ _ _ _ _ _).trans ((sh_uZ _ _ _ _ _).trans s2))) w_3 g6.1 (lt_gn ((gn_uZ _ _ _ _ _).trans ((gn_uZ _ _ _ _ _).trans ((gn_uZ _ _ _ _ _).trans n1))) g6.2) rfl).trans ?_
  refine (tq_dup i_L_law_604 rfl rfl).trans ?_
  refine (tq_iconst i_L_law_605 rfl).trans ?_
  refine (tq_iconst i_L_law_606 rfl).trans ?_
  refine (tq_iastore i_L_law_607 ((sh_uZ _ _ _ _ _).trans ((sh_uZ _ _ _ _ _).trans ((sh_uZ _ _ _ _ _).trans ((sh_uZ _ _ _ _ _).trans s2)))) w_4 g7.1 (lt_gn ((gn_uZ _ _ _ _ _).trans ((gn_uZ _ _ _ _ _).trans ((gn_uZ _ _ _ _ _).trans ((gn_uZ _ _ _ _ _).trans n1)))) g7.2) rfl).trans ?_
  exact c_L_paint i_L_law_608 (ltd d_L_law (by decide)) (isA_ref _) (isA_ref _) stOk_0 rfl
theorem i_L_law_611 : am_i m_L_law 611 = some (611, .iload 7, 2, [], 0) := (lk_law_5 (Nat.le_of_ble_eq_true rfl)).trans rfl
theorem i_L_law_613 : am_i m_L_law 613 = some (613, .if_icmp .ne 193, 3, [], 0) := (lk_law_5 (Nat.le_of_ble_eq_true rfl)).trans rfl
theorem i_L_law_616 : am_i m_L_law 616 = some (616, .aload_n 1, 1, [], 0) := (lk_law_5 (Nat.le_of_ble_eq_true rfl)).trans rfl
theorem i_L_law_617 : am_i m_L_law 617 = some (617, .bipush 102, 2, [], 102) := (lk_law_5 (Nat.le_of_ble_eq_true rfl)).trans rfl
theorem i_L_law_619 : am_i m_L_law 619 = some (619, .iconst 5, 1, [], 5) := (lk_law_5 (Nat.le_of_ble_eq_true rfl)).trans rfl
theorem i_L_law_620 : am_i m_L_law 620 = some (620, .newarray .int, 2, [], 0) := (lk_law_5 (Nat.le_of_ble_eq_true rfl)).trans rfl
theorem b_L_law_611 {a0 a1 a2 : Nat} {v3 v5 v6 v8 v9 v10 : Value} {x4 x7 xs0 x7' xs0' : Int} {h : am_H} (w7 : wr x7 = x7') (ws0 : wr xs0 = xs0') : rn m_L_law 611 [.ref a0, .ref a1, .ref a2, v3, .int (mI x4), v5, v6, .int (mI x7), v8, v9, v10] [.int (mI xs0)] h = if ¬ xs0' = x7' then some (.inl (some (.int (mI 0))), h) else rn m_L_law 622 [.ref a0, .ref a1, .ref a2, v3, .int (mI x4), v5, v6, .int (mI x7), v8, v9, v10] [.ref (hnx h), .int (mI 102), .ref a1] (aI 0 5 h) := by
  refine (tq_iload i_L_law_611 rfl rfl).trans ?_
  refine (tq_icmp_ne (pt := 806) i_L_law_613 ws0 w7 (by decide) rfl).trans ?_
  refine ite_congr rfl (fun c1 => ?_) (fun c1 => ?_)
  · refine (tq_iconst i_L_law_806 rfl).trans ?_
    exact tq_ireturn i_L_law_807 r_L_law (okB w_0 (by decide))
  · refine (tq_aload_n i_L_law_616 rfl (isA_ref _) rfl).trans ?_
    refine (tq_bipush i_L_law_617 rfl).trans ?_
    refine (tq_iconst i_L_law_619 rfl).trans ?_
    exact tq_newI (n := 5) (t := 0) i_L_law_620 w_5 (by decide) rfl (by decide) rfl rfl
theorem i_L_law_622 : am_i m_L_law 622 = some (622, .dup, 1, [], 0) := (lk_law_5 (Nat.le_of_ble_eq_true rfl)).trans rfl
theorem i_L_law_623 : am_i m_L_law 623 = some (623, .iconst 0, 1, [], 0) := (lk_law_5 (Nat.le_of_ble_eq_true rfl)).trans rfl
theorem i_L_law_624 : am_i m_L_law 624 = some (624, .iconst 0, 1, [], 0) := (lk_law_5 (Nat.le_of_ble_eq_true rfl)).trans rfl
theorem i_L_law_625 : am_i m_L_law 625 = some (625, .iastore, 1, [], 0) := (lk_law_5 (Nat.le_of_ble_eq_true rfl)).trans rfl
theorem i_L_law_626 : am_i m_L_law 626 = some (626, .dup, 1, [], 0) := (lk_law_5 (Nat.le_of_ble_eq_true rfl)).trans rfl
theorem i_L_law_627 : am_i m_L_law 627 = some (627, .iconst 1, 1, [], 1) := (lk_law_5 (Nat.le_of_ble_eq_true rfl)).trans rfl
theorem i_L_law_628 : am_i m_L_law 628 = some (628, .iconst 0, 1, [], 0) := (lk_law_6 (Nat.le_of_ble_eq_true rfl)).trans rfl
theorem i_L_law_629 : am_i m_L_law 629 = some (629, .iastore, 1, [], 0) := (lk_law_6 (Nat.le_of_ble_eq_true rfl)).trans rfl
theorem i_L_law_630 : am_i m_L_law 630 = some (630, .dup, 1, [], 0) := (lk_law_6 (Nat.le_of_ble_eq_true rfl)).trans rfl
theorem i_L_law_631 : am_i m_L_law 631 = some (631, .iconst 2, 1, [], 2) := (lk_law_6 (Nat.le_of_ble_eq_true rfl)).trans rfl
theorem i_L_law_632 : am_i m_L_law 632 = some (632, .iconst 1, 1, [], 1) := (lk_law_6 (Nat.le_of_ble_eq_true rfl)).trans rfl
theorem i_L_law_633 : am_i m_L_law 633 = some (633, .iastore, 1, [], 0) := (lk_law_6 (Nat.le_of_ble_eq_true rfl)).trans rfl
theorem i_L_law_634 : am_i m_L_law 634 = some (634, .dup, 1, [], 0) := (lk_law_6 (Nat.le_of_ble_eq_true rfl)).trans rfl
theorem i_L_law_635 : am_i m_L_law 635 = some (635, .iconst 3, 1, [], 3) := (lk_law_6 (Nat.le_of_ble_eq_true rfl)).trans rfl
theorem i_L_law_636 : am_i m_L_law 636 = some (636, .iconst 1, 1, [], 1) := (lk_law_6 (Nat.le_of_ble_eq_true rfl)).trans rfl
theorem i_L_law_637 : am_i m_L_law 637 = some (637, .iastore, 1, [], 0) := (lk_law_6 (Nat.le_of_ble_eq_true rfl)).trans rfl
theorem i_L_law_638 : am_i m_L_law 638 = some (638, .dup, 1, [], 0) := (lk_law_6 (Nat.le_of_ble_eq_true rfl)).trans rfl
theorem i_L_law_639 : am_i m_L_law 639 = some (639, .iconst 4, 1, [], 4) := (lk_law_6 (Nat.le_of_ble_eq_true rfl)).trans rfl
theorem i_L_law_640 : am_i m_L_law 640 = some (640, .sipush 256, 3, [], 256) := (lk_law_6 (Nat.le_of_ble_eq_true rfl)).trans rfl
theorem i_L_law_643 : am_i m_L_law 643 = some (643, .iastore, 1, [], 0) := (lk_law_6 (Nat.le_of_ble_eq_true rfl)).trans rfl
theorem i_L_law_644 : am_i m_L_law 644 = some (644, .invokestatic 130, 3, [122], 0) := (lk_law_6 (Nat.le_of_ble_eq_true rfl)).trans rfl
theorem b_L_law_622 {a0 a1 a2 as0 as2 n_as0 : Nat} {v3 v5 v6 v8 v9 v10 : Value} {x4 x7 xs1 : Int} {h : am_H} (n1 : gn h as0 = n_as0) (s2 : sh h as0 = (1, 0)) (g3 : (0 : Int) ≤ 0 ∧ 0 < (n_as0 : Int)) (g4 : (0 : Int) ≤ 1 ∧ 1 < (n_as0 : Int)) (g5 : (0 : Int) ≤ 2 ∧ 2 < (n_as0 : Int)) (g6 : (0 : Int) ≤ 3 ∧ 3 < (n_as0 : Int)) (g7 : (0 : Int) ≤ 4 ∧ 4 < (n_as0 : Int)) : rn m_L_law 622 [.ref a0, .ref a1, .ref a2, v3, .int (mI x4), v5, v6, .int (mI x7), v8, v9, v10] [.ref as0, .int (mI xs1), .ref as2] h = cl m_L_law 647 [.ref a0, .ref a1, .ref a2, v3, .int (mI x4), v5, v6, .int (mI x7), v8, v9, v10] [] (rn m_L_paint 0 [.ref as2, .int (mI xs1), .ref as0, am_J] [] (uZ (uZ (uZ (uZ (uZ h as0 0 0) as0 1 0) as0 2 1) as0 3 1) as0 4 256)) := by
  refine (tq_dup i_L_law_622 rfl rfl).trans ?_
  refine (tq_iconst i_L_law_623 rfl).trans ?_
  refine (tq_iconst i_L_law_624 rfl).trans ?_
  refine (tq_iastore i_L_law_625 s2 w_0 g3.1 (lt_gn n1 g3.2) rfl).trans ?_
  refine (tq_dup i_L_law_626 rfl rfl).trans ?_
  refine (tq_iconst i_L_law_627 rfl).trans ?_
  refine (tq_iconst i_L_law_628 rfl).trans ?_
  refine (tq_iastore i_L_law_629 ((sh_uZ _ _ _ _ _).trans s2) w_1 g4.1 (lt_gn ((gn_uZ _ _ _ _ _).trans n1) g4.2) rfl).trans ?_
  refine (tq_dup i_L_law_630 rfl rfl).trans ?_
  refine (tq_iconst i_L_law_631 rfl).trans ?_
  refine (tq_iconst i_L_law_632 rfl).trans ?_
  refine (tq_iastore i_L_law_633 ((sh_uZ _ _ _ _ _).trans ((sh_uZ _ _ _ _ _).trans s2)) w_2 g5.1 (lt_gn ((gn_uZ _ _ _ _ _).trans ((gn_uZ _ _ _ _ _).trans n1)) g5.2) rfl).trans ?_
  refine (tq_dup i_L_law_634 rfl rfl).trans ?_
  refine (tq_iconst i_L_law_635 rfl).trans ?_
  refine (tq_iconst i_L_law_636 rfl).trans ?_
  refine (tq_iastore i_L_law_637 ((sh_uZ _ _ _ _ _).trans ((sh_uZ _ _ _ _ _).trans ((sh_uZ _ _ _ _ _).trans s2))) w_3 g6.1 (lt_gn ((gn_uZ _ _ _ _ _).trans ((gn_uZ _ _ _ _ _).trans ((gn_uZ _ _ _ _ _).trans n1))) g6.2) rfl).trans ?_
  refine (tq_dup i_L_law_638 rfl rfl).trans ?_
  refine (tq_iconst i_L_law_639 rfl).trans ?_
  refine (tq_sipush i_L_law_640 rfl).trans ?_
  refine (tq_iastore i_L_law_643 ((sh_uZ _ _ _ _ _).trans ((sh_uZ _ _ _ _ _).trans ((sh_uZ _ _ _ _ _).trans ((sh_uZ _ _ _ _ _).trans s2)))) w_4 g7.1 (lt_gn ((gn_uZ _ _ _ _ _).trans ((gn_uZ _ _ _ _ _).trans ((gn_uZ _ _ _ _ _).trans ((gn_uZ _ _ _ _ _).trans n1)))) g7.2) rfl).trans ?_
  exact c_L_paint i_L_law_644 (ltd d_L_law (by decide)) (isA_ref _) (isA_ref _) stOk_0 rfl
theorem i_L_law_647 : am_i m_L_law 647 = some (647, .iload 7, 2, [], 0) := (lk_law_6 (Nat.le_of_ble_eq_true rfl)).trans rfl
theorem i_L_law_649 : am_i m_L_law 649 = some (649, .if_icmp .ne 157, 3, [], 0) := (lk_law_6 (Nat.le_of_ble_eq_true rfl)).trans rfl
theorem i_L_law_652 : am_i m_L_law 652 = some (652, .aload_n 1, 1, [], 0) := (lk_law_6 (Nat.le_of_ble_eq_true rfl)).trans rfl
theorem i_L_law_653 : am_i m_L_law 653 = some (653, .bipush 115, 2, [], 115) := (lk_law_6 (Nat.le_of_ble_eq_true rfl)).trans rfl
theorem i_L_law_655 : am_i m_L_law 655 = some (655, .iconst 3, 1, [], 3) := (lk_law_6 (Nat.le_of_ble_eq_true rfl)).trans rfl
theorem i_L_law_656 : am_i m_L_law 656 = some (656, .newarray .int, 2, [], 0) := (lk_law_6 (Nat.le_of_ble_eq_true rfl)).trans rfl
theorem b_L_law_647 {a0 a1 a2 : Nat} {v3 v5 v6 v8 v9 v10 : Value} {x4 x7 xs0 x7' xs0' : Int} {h : am_H} (w7 : wr x7 = x7') (ws0 : wr xs0 = xs0') : rn m_L_law 647 [.ref a0, .ref a1, .ref a2, v3, .int (mI x4), v5, v6, .int (mI x7), v8, v9, v10] [.int (mI xs0)] h = if ¬ xs0' = x7' then some (.inl (some (.int (mI 0))), h) else rn m_L_law 658 [.ref a0, .ref a1, .ref a2, v3, .int (mI x4), v5, v6, .int (mI x7), v8, v9, v10] [.ref (hnx h), .int (mI 115), .ref a1] (aI 0 3 h) := by
  refine (tq_iload i_L_law_647 rfl rfl).trans ?_
  refine (tq_icmp_ne (pt := 806) i_L_law_649 ws0 w7 (by decide) rfl).trans ?_
  refine ite_congr rfl (fun c1 => ?_) (fun c1 => ?_)
  · refine (tq_iconst i_L_law_806 rfl).trans ?_
    exact tq_ireturn i_L_law_807 r_L_law (okB w_0 (by decide))
  · refine (tq_aload_n i_L_law_652 rfl (isA_ref _) rfl).trans ?_
    refine (tq_bipush i_L_law_653 rfl).trans ?_
    refine (tq_iconst i_L_law_655 rfl).trans ?_
    exact tq_newI (n := 3) (t := 0) i_L_law_656 w_3 (by decide) rfl (by decide) rfl rfl
theorem i_L_law_658 : am_i m_L_law 658 = some (658, .dup, 1, [], 0) := (lk_law_6 (Nat.le_of_ble_eq_true rfl)).trans rfl
theorem i_L_law_659 : am_i m_L_law 659 = some (659, .iconst 0, 1, [], 0) := (lk_law_6 (Nat.le_of_ble_eq_true rfl)).trans rfl
theorem i_L_law_660 : am_i m_L_law 660 = some (660, .sipush 256, 3, [], 256) := (lk_law_6 (Nat.le_of_ble_eq_true rfl)).trans rfl
theorem i_L_law_663 : am_i m_L_law 663 = some (663, .iastore, 1, [], 0) := (lk_law_6 (Nat.le_of_ble_eq_true rfl)).trans rfl
theorem i_L_law_664 : am_i m_L_law 664 = some (664, .dup, 1, [], 0) := (lk_law_6 (Nat.le_of_ble_eq_true rfl)).trans rfl
theorem i_L_law_665 : am_i m_L_law 665 = some (665, .iconst 1, 1, [], 1) := (lk_law_6 (Nat.le_of_ble_eq_true rfl)).trans rfl
theorem i_L_law_666 : am_i m_L_law 666 = some (666, .iconst 0, 1, [], 0) := (lk_law_6 (Nat.le_of_ble_eq_true rfl)).trans rfl
theorem i_L_law_667 : am_i m_L_law 667 = some (667, .iastore, 1, [], 0) := (lk_law_6 (Nat.le_of_ble_eq_true rfl)).trans rfl
theorem i_L_law_668 : am_i m_L_law 668 = some (668, .dup, 1, [], 0) := (lk_law_6 (Nat.le_of_ble_eq_true rfl)).trans rfl
theorem i_L_law_669 : am_i m_L_law 669 = some (669, .iconst 2, 1, [], 2) := (lk_law_6 (Nat.le_of_ble_eq_true rfl)).trans rfl
theorem i_L_law_670 : am_i m_L_law 670 = some (670, .iconst 0, 1, [], 0) := (lk_law_6 (Nat.le_of_ble_eq_true rfl)).trans rfl
theorem i_L_law_671 : am_i m_L_law 671 = some (671, .iastore, 1, [], 0) := (lk_law_6 (Nat.le_of_ble_eq_true rfl)).trans rfl
theorem i_L_law_672 : am_i m_L_law 672 = some (672, .invokestatic 130, 3, [122], 0) := (lk_law_6 (Nat.le_of_ble_eq_true rfl)).trans rfl
theorem b_L_law_658 {a0 a1 a2 as0 as2 n_as0 : Nat} {v3 v5 v6 v8 v9 v10 : Value} {x4 x7 xs1 : Int} {h : am_H} (n1 : gn h as0 = n_as0) (s2 : sh h as0 = (1, 0)) (g3 : (0 : Int) ≤ 0 ∧ 0 < (n_as0 : Int)) (g4 : (0 : Int) ≤ 1 ∧ 1 < (n_as0 : Int)) (g5 : (0 : Int) ≤ 2 ∧ 2 < (n_as0 : Int)) : rn m_L_law 658 [.ref a0, .ref a1, .ref a2, v3, .int (mI x4), v5, v6, .int (mI x7), v8, v9, v10] [.ref as0, .int (mI xs1), .ref as2] h = cl m_L_law 675 [.ref a0, .ref a1, .ref a2, v3, .int (mI x4), v5, v6, .int (mI x7), v8, v9, v10] [] (rn m_L_paint 0 [.ref as2, .int (mI xs1), .ref as0, am_J] [] (uZ (uZ (uZ h as0 0 256) as0 1 0) as0 2 0)) := by
  refine (tq_dup i_L_law_658 rfl rfl).trans ?_
  refine (tq_iconst i_L_law_659 rfl).trans ?_
  refine (tq_sipush i_L_law_660 rfl).trans ?_
  refine (tq_iastore i_L_law_663 s2 w_0 g3.1 (lt_gn n1 g3.2) rfl).trans ?_
  refine (tq_dup i_L_law_664 rfl rfl).trans ?_
  refine (tq_iconst i_L_law_665 rfl).trans ?_
  refine (tq_iconst i_L_law_666 rfl).trans ?_
  refine (tq_iastore i_L_law_667 ((sh_uZ _ _ _ _ _).trans s2) w_1 g4.1 (lt_gn ((gn_uZ _ _ _ _ _).trans n1) g4.2) rfl).trans ?_
  refine (tq_dup i_L_law_668 rfl rfl).trans ?_
  refine (tq_iconst i_L_law_669 rfl).trans ?_
  refine (tq_iconst i_L_law_670 rfl).trans ?_
  refine (tq_iastore i_L_law_671 ((sh_uZ _ _ _ _ _).trans ((sh_uZ _ _ _ _ _).trans s2)) w_2 g5.1 (lt_gn ((gn_uZ _ _ _ _ _).trans ((gn_uZ _ _ _ _ _).trans n1)) g5.2) rfl).trans ?_
  exact c_L_paint i_L_law_672 (ltd d_L_law (by decide)) (isA_ref _) (isA_ref _) stOk_0 rfl
theorem i_L_law_675 : am_i m_L_law 675 = some (675, .iload 7, 2, [], 0) := (lk_law_6 (Nat.le_of_ble_eq_true rfl)).trans rfl
theorem i_L_law_677 : am_i m_L_law 677 = some (677, .if_icmp .ne 129, 3, [], 0) := (lk_law_6 (Nat.le_of_ble_eq_true rfl)).trans rfl
theorem i_L_law_680 : am_i m_L_law 680 = some (680, .aload_n 1, 1, [], 0) := (lk_law_6 (Nat.le_of_ble_eq_true rfl)).trans rfl
theorem i_L_law_681 : am_i m_L_law 681 = some (681, .bipush 115, 2, [], 115) := (lk_law_6 (Nat.le_of_ble_eq_true rfl)).trans rfl
theorem i_L_law_683 : am_i m_L_law 683 = some (683, .iconst 3, 1, [], 3) := (lk_law_6 (Nat.le_of_ble_eq_true rfl)).trans rfl
theorem i_L_law_684 : am_i m_L_law 684 = some (684, .newarray .int, 2, [], 0) := (lk_law_6 (Nat.le_of_ble_eq_true rfl)).trans rfl
theorem b_L_law_675 {a0 a1 a2 : Nat} {v3 v5 v6 v8 v9 v10 : Value} {x4 x7 xs0 x7' xs0' : Int} {h : am_H} (w7 : wr x7 = x7') (ws0 : wr xs0 = xs0') : rn m_L_law 675 [.ref a0, .ref a1, .ref a2, v3, .int (mI x4), v5, v6, .int (mI x7), v8, v9, v10] [.int (mI xs0)] h = if ¬ xs0' = x7' then some (.inl (some (.int (mI 0))), h) else rn m_L_law 686 [.ref a0, .ref a1, .ref a2, v3, .int (mI x4), v5, v6, .int (mI x7), v8, v9, v10] [.ref (hnx h), .int (mI 115), .ref a1] (aI 0 3 h) := by
  refine (tq_iload i_L_law_675 rfl rfl).trans ?_
  refine (tq_icmp_ne (pt := 806) i_L_law_677 ws0 w7 (by decide) rfl).trans ?_
  refine ite_congr rfl (fun c1 => ?_) (fun c1 => ?_)
  · refine (tq_iconst i_L_law_806 rfl).trans ?_
    exact tq_ireturn i_L_law_807 r_L_law (okB w_0 (by decide))
  · refine (tq_aload_n i_L_law_680 rfl (isA_ref _) rfl).trans ?_
    refine (tq_bipush i_L_law_681 rfl).trans ?_
    refine (tq_iconst i_L_law_683 rfl).trans ?_
    exact tq_newI (n := 3) (t := 0) i_L_law_684 w_3 (by decide) rfl (by decide) rfl rfl
theorem i_L_law_686 : am_i m_L_law 686 = some (686, .dup, 1, [], 0) := (lk_law_6 (Nat.le_of_ble_eq_true rfl)).trans rfl
theorem i_L_law_687 : am_i m_L_law 687 = some (687, .iconst 0, 1, [], 0) := (lk_law_6 (Nat.le_of_ble_eq_true rfl)).trans rfl
theorem i_L_law_688 : am_i m_L_law 688 = some (688, .iconst 0, 1, [], 0) := (lk_law_6 (Nat.le_of_ble_eq_true rfl)).trans rfl
theorem i_L_law_689 : am_i m_L_law 689 = some (689, .iastore, 1, [], 0) := (lk_law_6 (Nat.le_of_ble_eq_true rfl)).trans rfl
theorem i_L_law_690 : am_i m_L_law 690 = some (690, .dup, 1, [], 0) := (lk_law_6 (Nat.le_of_ble_eq_true rfl)).trans rfl
theorem i_L_law_691 : am_i m_L_law 691 = some (691, .iconst 1, 1, [], 1) := (lk_law_6 (Nat.le_of_ble_eq_true rfl)).trans rfl
theorem i_L_law_692 : am_i m_L_law 692 = some (692, .bipush 100, 2, [], 100) := (lk_law_6 (Nat.le_of_ble_eq_true rfl)).trans rfl
theorem i_L_law_694 : am_i m_L_law 694 = some (694, .iastore, 1, [], 0) := (lk_law_6 (Nat.le_of_ble_eq_true rfl)).trans rfl
theorem i_L_law_695 : am_i m_L_law 695 = some (695, .dup, 1, [], 0) := (lk_law_6 (Nat.le_of_ble_eq_true rfl)).trans rfl
theorem i_L_law_696 : am_i m_L_law 696 = some (696, .iconst 2, 1, [], 2) := (lk_law_6 (Nat.le_of_ble_eq_true rfl)).trans rfl
theorem i_L_law_697 : am_i m_L_law 697 = some (697, .iconst 0, 1, [], 0) := (lk_law_6 (Nat.le_of_ble_eq_true rfl)).trans rfl
theorem i_L_law_698 : am_i m_L_law 698 = some (698, .iastore, 1, [], 0) := (lk_law_6 (Nat.le_of_ble_eq_true rfl)).trans rfl
theorem i_L_law_699 : am_i m_L_law 699 = some (699, .invokestatic 130, 3, [122], 0) := (lk_law_6 (Nat.le_of_ble_eq_true rfl)).trans rfl
theorem b_L_law_686 {a0 a1 a2 as0 as2 n_as0 : Nat} {v3 v5 v6 v8 v9 v10 : Value} {x4 x7 xs1 : Int} {h : am_H} (n1 : gn h as0 = n_as0) (s2 : sh h as0 = (1, 0)) (g3 : (0 : Int) ≤ 0 ∧ 0 < (n_as0 : Int)) (g4 : (0 : Int) ≤ 1 ∧ 1 < (n_as0 : Int)) (g5 : (0 : Int) ≤ 2 ∧ 2 < (n_as0 : Int)) : rn m_L_law 686 [.ref a0, .ref a1, .ref a2, v3, .int (mI x4), v5, v6, .int (mI x7), v8, v9, v10] [.ref as0, .int (mI xs1), .ref as2] h = cl m_L_law 702 [.ref a0, .ref a1, .ref a2, v3, .int (mI x4), v5, v6, .int (mI x7), v8, v9, v10] [] (rn m_L_paint 0 [.ref as2, .int (mI xs1), .ref as0, am_J] [] (uZ (uZ (uZ h as0 0 0) as0 1 100) as0 2 0)) := by
  refine (tq_dup i_L_law_686 rfl rfl).trans ?_
  refine (tq_iconst i_L_law_687 rfl).trans ?_
  refine (tq_iconst i_L_law_688 rfl).trans ?_
  refine (tq_iastore i_L_law_689 s2 w_0 g3.1 (lt_gn n1 g3.2) rfl).trans ?_
  refine (tq_dup i_L_law_690 rfl rfl).trans ?_
  refine (tq_iconst i_L_law_691 rfl).trans ?_
  refine (tq_bipush i_L_law_692 rfl).trans ?_
  refine (tq_iastore i_L_law_694 ((sh_uZ _ _ _ _ _).trans s2) w_1 g4.1 (lt_gn ((gn_uZ _ _ _ _ _).trans n1) g4.2) rfl).trans ?_
  refine (tq_dup i_L_law_695 rfl rfl).trans ?_
  refine (tq_iconst i_L_law_696 rfl).trans ?_
  refine (tq_iconst i_L_law_697 rfl).trans ?_
  refine (tq_iastore i_L_law_698 ((sh_uZ _ _ _ _ _).trans ((sh_uZ _ _ _ _ _).trans s2)) w_2 g5.1 (lt_gn ((gn_uZ _ _ _ _ _).trans ((gn_uZ _ _ _ _ _).trans n1)) g5.2) rfl).trans ?_
  exact c_L_paint i_L_law_699 (ltd d_L_law (by decide)) (isA_ref _) (isA_ref _) stOk_0 rfl
theorem i_L_law_702 : am_i m_L_law 702 = some (702, .iload 7, 2, [], 0) := (lk_law_6 (Nat.le_of_ble_eq_true rfl)).trans rfl
theorem i_L_law_704 : am_i m_L_law 704 = some (704, .if_icmp .ne 102, 3, [], 0) := (lk_law_6 (Nat.le_of_ble_eq_true rfl)).trans rfl
theorem i_L_law_707 : am_i m_L_law 707 = some (707, .aload_n 1, 1, [], 0) := (lk_law_6 (Nat.le_of_ble_eq_true rfl)).trans rfl
theorem i_L_law_708 : am_i m_L_law 708 = some (708, .bipush 103, 2, [], 103) := (lk_law_6 (Nat.le_of_ble_eq_true rfl)).trans rfl
theorem i_L_law_710 : am_i m_L_law 710 = some (710, .iconst 2, 1, [], 2) := (lk_law_6 (Nat.le_of_ble_eq_true rfl)).trans rfl
theorem i_L_law_711 : am_i m_L_law 711 = some (711, .newarray .int, 2, [], 0) := (lk_law_6 (Nat.le_of_ble_eq_true rfl)).trans rfl
theorem b_L_law_702 {a0 a1 a2 : Nat} {v3 v5 v6 v8 v9 v10 : Value} {x4 x7 xs0 x7' xs0' : Int} {h : am_H} (w7 : wr x7 = x7') (ws0 : wr xs0 = xs0') : rn m_L_law 702 [.ref a0, .ref a1, .ref a2, v3, .int (mI x4), v5, v6, .int (mI x7), v8, v9, v10] [.int (mI xs0)] h = if ¬ xs0' = x7' then some (.inl (some (.int (mI 0))), h) else rn m_L_law 713 [.ref a0, .ref a1, .ref a2, v3, .int (mI x4), v5, v6, .int (mI x7), v8, v9, v10] [.ref (hnx h), .int (mI 103), .ref a1] (aI 0 2 h) := by
  refine (tq_iload i_L_law_702 rfl rfl).trans ?_
  refine (tq_icmp_ne (pt := 806) i_L_law_704 ws0 w7 (by decide) rfl).trans ?_
  refine ite_congr rfl (fun c1 => ?_) (fun c1 => ?_)
  · refine (tq_iconst i_L_law_806 rfl).trans ?_
    exact tq_ireturn i_L_law_807 r_L_law (okB w_0 (by decide))
  · refine (tq_aload_n i_L_law_707 rfl (isA_ref _) rfl).trans ?_
    refine (tq_bipush i_L_law_708 rfl).trans ?_
    refine (tq_iconst i_L_law_710 rfl).trans ?_
    exact tq_newI (n := 2) (t := 0) i_L_law_711 w_2 (by decide) rfl (by decide) rfl rfl
theorem i_L_law_713 : am_i m_L_law 713 = some (713, .dup, 1, [], 0) := (lk_law_6 (Nat.le_of_ble_eq_true rfl)).trans rfl
theorem i_L_law_714 : am_i m_L_law 714 = some (714, .iconst 0, 1, [], 0) := (lk_law_7 (Nat.le_of_ble_eq_true rfl)).trans rfl
theorem i_L_law_715 : am_i m_L_law 715 = some (715, .iconst 0, 1, [], 0) := (lk_law_7 (Nat.le_of_ble_eq_true rfl)).trans rfl
theorem i_L_law_716 : am_i m_L_law 716 = some (716, .iastore, 1, [], 0) := (lk_law_7 (Nat.le_of_ble_eq_true rfl)).trans rfl
theorem i_L_law_717 : am_i m_L_law 717 = some (717, .dup, 1, [], 0) := (lk_law_7 (Nat.le_of_ble_eq_true rfl)).trans rfl
theorem i_L_law_718 : am_i m_L_law 718 = some (718, .iconst 1, 1, [], 1) := (lk_law_7 (Nat.le_of_ble_eq_true rfl)).trans rfl
theorem i_L_law_719 : am_i m_L_law 719 = some (719, .iconst 0, 1, [], 0) := (lk_law_7 (Nat.le_of_ble_eq_true rfl)).trans rfl
theorem i_L_law_720 : am_i m_L_law 720 = some (720, .iastore, 1, [], 0) := (lk_law_7 (Nat.le_of_ble_eq_true rfl)).trans rfl
theorem i_L_law_721 : am_i m_L_law 721 = some (721, .invokestatic 130, 3, [122], 0) := (lk_law_7 (Nat.le_of_ble_eq_true rfl)).trans rfl
theorem b_L_law_713 {a0 a1 a2 as0 as2 n_as0 : Nat} {v3 v5 v6 v8 v9 v10 : Value} {x4 x7 xs1 : Int} {h : am_H} (n1 : gn h as0 = n_as0) (s2 : sh h as0 = (1, 0)) (g3 : (0 : Int) ≤ 0 ∧ 0 < (n_as0 : Int)) (g4 : (0 : Int) ≤ 1 ∧ 1 < (n_as0 : Int)) : rn m_L_law 713 [.ref a0, .ref a1, .ref a2, v3, .int (mI x4), v5, v6, .int (mI x7), v8, v9, v10] [.ref as0, .int (mI xs1), .ref as2] h = cl m_L_law 724 [.ref a0, .ref a1, .ref a2, v3, .int (mI x4), v5, v6, .int (mI x7), v8, v9, v10] [] (rn m_L_paint 0 [.ref as2, .int (mI xs1), .ref as0, am_J] [] (uZ (uZ h as0 0 0) as0 1 0)) := by
  refine (tq_dup i_L_law_713 rfl rfl).trans ?_
  refine (tq_iconst i_L_law_714 rfl).trans ?_
  refine (tq_iconst i_L_law_715 rfl).trans ?_
  refine (tq_iastore i_L_law_716 s2 w_0 g3.1 (lt_gn n1 g3.2) rfl).trans ?_
  refine (tq_dup i_L_law_717 rfl rfl).trans ?_
  refine (tq_iconst i_L_law_718 rfl).trans ?_
  refine (tq_iconst i_L_law_719 rfl).trans ?_
  refine (tq_iastore i_L_law_720 ((sh_uZ _ _ _ _ _).trans s2) w_1 g4.1 (lt_gn ((gn_uZ _ _ _ _ _).trans n1) g4.2) rfl).trans ?_
  exact c_L_paint i_L_law_721 (ltd d_L_law (by decide)) (isA_ref _) (isA_ref _) stOk_0 rfl
theorem i_L_law_724 : am_i m_L_law 724 = some (724, .iload 7, 2, [], 0) := (lk_law_7 (Nat.le_of_ble_eq_true rfl)).trans rfl
theorem i_L_law_726 : am_i m_L_law 726 = some (726, .if_icmp .ne 80, 3, [], 0) := (lk_law_7 (Nat.le_of_ble_eq_true rfl)).trans rfl
theorem i_L_law_729 : am_i m_L_law 729 = some (729, .aload_n 1, 1, [], 0) := (lk_law_7 (Nat.le_of_ble_eq_true rfl)).trans rfl
theorem i_L_law_730 : am_i m_L_law 730 = some (730, .bipush 103, 2, [], 103) := (lk_law_7 (Nat.le_of_ble_eq_true rfl)).trans rfl
theorem i_L_law_732 : am_i m_L_law 732 = some (732, .iconst 2, 1, [], 2) := (lk_law_7 (Nat.le_of_ble_eq_true rfl)).trans rfl
theorem i_L_law_733 : am_i m_L_law 733 = some (733, .newarray .int, 2, [], 0) := (lk_law_7 (Nat.le_of_ble_eq_true rfl)).trans rfl
theorem b_L_law_724 {a0 a1 a2 : Nat} {v3 v5 v6 v8 v9 v10 : Value} {x4 x7 xs0 x7' xs0' : Int} {h : am_H} (w7 : wr x7 = x7') (ws0 : wr xs0 = xs0') : rn m_L_law 724 [.ref a0, .ref a1, .ref a2, v3, .int (mI x4), v5, v6, .int (mI x7), v8, v9, v10] [.int (mI xs0)] h = if ¬ xs0' = x7' then some (.inl (some (.int (mI 0))), h) else rn m_L_law 735 [.ref a0, .ref a1, .ref a2, v3, .int (mI x4), v5, v6, .int (mI x7), v8, v9, v10] [.ref (hnx h), .int (mI 103), .ref a1] (aI 0 2 h) := by
  refine (tq_iload i_L_law_724 rfl rfl).trans ?_
  refine (tq_icmp_ne (pt := 806) i_L_law_726 ws0 w7 (by decide) rfl).trans ?_
  refine ite_congr rfl (fun c1 => ?_) (fun c1 => ?_)
  · refine (tq_iconst i_L_law_806 rfl).trans ?_
    exact tq_ireturn i_L_law_807 r_L_law (okB w_0 (by decide))
  · refine (tq_aload_n i_L_law_729 rfl (isA_ref _) rfl).trans ?_
    refine (tq_bipush i_L_law_730 rfl).trans ?_
    refine (tq_iconst i_L_law_732 rfl).trans ?_
    exact tq_newI (n := 2) (t := 0) i_L_law_733 w_2 (by decide) rfl (by decide) rfl rfl
theorem i_L_law_735 : am_i m_L_law 735 = some (735, .dup, 1, [], 0) := (lk_law_7 (Nat.le_of_ble_eq_true rfl)).trans rfl
theorem i_L_law_736 : am_i m_L_law 736 = some (736, .iconst 0, 1, [], 0) := (lk_law_7 (Nat.le_of_ble_eq_true rfl)).trans rfl
theorem i_L_law_737 : am_i m_L_law 737 = some (737, .iconst 0, 1, [], 0) := (lk_law_7 (Nat.le_of_ble_eq_true rfl)).trans rfl
theorem i_L_law_738 : am_i m_L_law 738 = some (738, .iastore, 1, [], 0) := (lk_law_7 (Nat.le_of_ble_eq_true rfl)).trans rfl
theorem i_L_law_739 : am_i m_L_law 739 = some (739, .dup, 1, [], 0) := (lk_law_7 (Nat.le_of_ble_eq_true rfl)).trans rfl
theorem i_L_law_740 : am_i m_L_law 740 = some (740, .iconst 1, 1, [], 1) := (lk_law_7 (Nat.le_of_ble_eq_true rfl)).trans rfl
theorem i_L_law_741 : am_i m_L_law 741 = some (741, .bipush 100, 2, [], 100) := (lk_law_7 (Nat.le_of_ble_eq_true rfl)).trans rfl
theorem i_L_law_743 : am_i m_L_law 743 = some (743, .iastore, 1, [], 0) := (lk_law_7 (Nat.le_of_ble_eq_true rfl)).trans rfl
theorem i_L_law_744 : am_i m_L_law 744 = some (744, .invokestatic 130, 3, [122], 0) := (lk_law_7 (Nat.le_of_ble_eq_true rfl)).trans rfl
theorem b_L_law_735 {a0 a1 a2 as0 as2 n_as0 : Nat} {v3 v5 v6 v8 v9 v10 : Value} {x4 x7 xs1 : Int} {h : am_H} (n1 : gn h as0 = n_as0) (s2 : sh h as0 = (1, 0)) (g3 : (0 : Int) ≤ 0 ∧ 0 < (n_as0 : Int)) (g4 : (0 : Int) ≤ 1 ∧ 1 < (n_as0 : Int)) : rn m_L_law 735 [.ref a0, .ref a1, .ref a2, v3, .int (mI x4), v5, v6, .int (mI x7), v8, v9, v10] [.ref as0, .int (mI xs1), .ref as2] h = cl m_L_law 747 [.ref a0, .ref a1, .ref a2, v3, .int (mI x4), v5, v6, .int (mI x7), v8, v9, v10] [] (rn m_L_paint 0 [.ref as2, .int (mI xs1), .ref as0, am_J] [] (uZ (uZ h as0 0 0) as0 1 100)) := by
  refine (tq_dup i_L_law_735 rfl rfl).trans ?_
  refine (tq_iconst i_L_law_736 rfl).trans ?_
  refine (tq_iconst i_L_law_737 rfl).trans ?_
  refine (tq_iastore i_L_law_738 s2 w_0 g3.1 (lt_gn n1 g3.2) rfl).trans ?_
  refine (tq_dup i_L_law_739 rfl rfl).trans ?_
  refine (tq_iconst i_L_law_740 rfl).trans ?_
  refine (tq_bipush i_L_law_741 rfl).trans ?_
  refine (tq_iastore i_L_law_743 ((sh_uZ _ _ _ _ _).trans s2) w_1 g4.1 (lt_gn ((gn_uZ _ _ _ _ _).trans n1) g4.2) rfl).trans ?_
  exact c_L_paint i_L_law_744 (ltd d_L_law (by decide)) (isA_ref _) (isA_ref _) stOk_0 rfl
theorem i_L_law_747 : am_i m_L_law 747 = some (747, .iload 7, 2, [], 0) := (lk_law_7 (Nat.le_of_ble_eq_true rfl)).trans rfl
theorem i_L_law_749 : am_i m_L_law 749 = some (749, .if_icmp .ne 57, 3, [], 0) := (lk_law_7 (Nat.le_of_ble_eq_true rfl)).trans rfl
theorem i_L_law_752 : am_i m_L_law 752 = some (752, .aload_n 1, 1, [], 0) := (lk_law_7 (Nat.le_of_ble_eq_true rfl)).trans rfl
theorem i_L_law_753 : am_i m_L_law 753 = some (753, .bipush 109, 2, [], 109) := (lk_law_7 (Nat.le_of_ble_eq_true rfl)).trans rfl
theorem i_L_law_755 : am_i m_L_law 755 = some (755, .iconst 2, 1, [], 2) := (lk_law_7 (Nat.le_of_ble_eq_true rfl)).trans rfl
theorem i_L_law_756 : am_i m_L_law 756 = some (756, .newarray .int, 2, [], 0) := (lk_law_7 (Nat.le_of_ble_eq_true rfl)).trans rfl
theorem b_L_law_747 {a0 a1 a2 : Nat} {v3 v5 v6 v8 v9 v10 : Value} {x4 x7 xs0 x7' xs0' : Int} {h : am_H} (w7 : wr x7 = x7') (ws0 : wr xs0 = xs0') : rn m_L_law 747 [.ref a0, .ref a1, .ref a2, v3, .int (mI x4), v5, v6, .int (mI x7), v8, v9, v10] [.int (mI xs0)] h = if ¬ xs0' = x7' then some (.inl (some (.int (mI 0))), h) else rn m_L_law 758 [.ref a0, .ref a1, .ref a2, v3, .int (mI x4), v5, v6, .int (mI x7), v8, v9, v10] [.ref (hnx h), .int (mI 109), .ref a1] (aI 0 2 h) := by
  refine (tq_iload i_L_law_747 rfl rfl).trans ?_
  refine (tq_icmp_ne (pt := 806) i_L_law_749 ws0 w7 (by decide) rfl).trans ?_
  refine ite_congr rfl (fun c1 => ?_) (fun c1 => ?_)
  · refine (tq_iconst i_L_law_806 rfl).trans ?_
    exact tq_ireturn i_L_law_807 r_L_law (okB w_0 (by decide))
  · refine (tq_aload_n i_L_law_752 rfl (isA_ref _) rfl).trans ?_
    refine (tq_bipush i_L_law_753 rfl).trans ?_
    refine (tq_iconst i_L_law_755 rfl).trans ?_
    exact tq_newI (n := 2) (t := 0) i_L_law_756 w_2 (by decide) rfl (by decide) rfl rfl
theorem i_L_law_758 : am_i m_L_law 758 = some (758, .dup, 1, [], 0) := (lk_law_7 (Nat.le_of_ble_eq_true rfl)).trans rfl
theorem i_L_law_759 : am_i m_L_law 759 = some (759, .iconst 0, 1, [], 0) := (lk_law_7 (Nat.le_of_ble_eq_true rfl)).trans rfl
theorem i_L_law_760 : am_i m_L_law 760 = some (760, .bipush 16, 2, [], 16) := (lk_law_7 (Nat.le_of_ble_eq_true rfl)).trans rfl
theorem i_L_law_762 : am_i m_L_law 762 = some (762, .iastore, 1, [], 0) := (lk_law_7 (Nat.le_of_ble_eq_true rfl)).trans rfl
theorem i_L_law_763 : am_i m_L_law 763 = some (763, .dup, 1, [], 0) := (lk_law_7 (Nat.le_of_ble_eq_true rfl)).trans rfl
theorem i_L_law_764 : am_i m_L_law 764 = some (764, .iconst 1, 1, [], 1) := (lk_law_7 (Nat.le_of_ble_eq_true rfl)).trans rfl
theorem i_L_law_765 : am_i m_L_law 765 = some (765, .iconst 0, 1, [], 0) := (lk_law_7 (Nat.le_of_ble_eq_true rfl)).trans rfl
theorem i_L_law_766 : am_i m_L_law 766 = some (766, .iastore, 1, [], 0) := (lk_law_7 (Nat.le_of_ble_eq_true rfl)).trans rfl
theorem i_L_law_767 : am_i m_L_law 767 = some (767, .invokestatic 130, 3, [122], 0) := (lk_law_7 (Nat.le_of_ble_eq_true rfl)).trans rfl
theorem b_L_law_758 {a0 a1 a2 as0 as2 n_as0 : Nat} {v3 v5 v6 v8 v9 v10 : Value} {x4 x7 xs1 : Int} {h : am_H} (n1 : gn h as0 = n_as0) (s2 : sh h as0 = (1, 0)) (g3 : (0 : Int) ≤ 0 ∧ 0 < (n_as0 : Int)) (g4 : (0 : Int) ≤ 1 ∧ 1 < (n_as0 : Int)) : rn m_L_law 758 [.ref a0, .ref a1, .ref a2, v3, .int (mI x4), v5, v6, .int (mI x7), v8, v9, v10] [.ref as0, .int (mI xs1), .ref as2] h = cl m_L_law 770 [.ref a0, .ref a1, .ref a2, v3, .int (mI x4), v5, v6, .int (mI x7), v8, v9, v10] [] (rn m_L_paint 0 [.ref as2, .int (mI xs1), .ref as0, am_J] [] (uZ (uZ h as0 0 16) as0 1 0)) := by
  refine (tq_dup i_L_law_758 rfl rfl).trans ?_
  refine (tq_iconst i_L_law_759 rfl).trans ?_
  refine (tq_bipush i_L_law_760 rfl).trans ?_
  refine (tq_iastore i_L_law_762 s2 w_0 g3.1 (lt_gn n1 g3.2) rfl).trans ?_
  refine (tq_dup i_L_law_763 rfl rfl).trans ?_
  refine (tq_iconst i_L_law_764 rfl).trans ?_
  refine (tq_iconst i_L_law_765 rfl).trans ?_
  refine (tq_iastore i_L_law_766 ((sh_uZ _ _ _ _ _).trans s2) w_1 g4.1 (lt_gn ((gn_uZ _ _ _ _ _).trans n1) g4.2) rfl).trans ?_
  exact c_L_paint i_L_law_767 (ltd d_L_law (by decide)) (isA_ref _) (isA_ref _) stOk_0 rfl
theorem i_L_law_770 : am_i m_L_law 770 = some (770, .iload 7, 2, [], 0) := (lk_law_7 (Nat.le_of_ble_eq_true rfl)).trans rfl
theorem i_L_law_772 : am_i m_L_law 772 = some (772, .if_icmp .ne 34, 3, [], 0) := (lk_law_7 (Nat.le_of_ble_eq_true rfl)).trans rfl
theorem i_L_law_775 : am_i m_L_law 775 = some (775, .aload_n 1, 1, [], 0) := (lk_law_7 (Nat.le_of_ble_eq_true rfl)).trans rfl
theorem i_L_law_776 : am_i m_L_law 776 = some (776, .bipush 109, 2, [], 109) := (lk_law_7 (Nat.le_of_ble_eq_true rfl)).trans rfl
theorem i_L_law_778 : am_i m_L_law 778 = some (778, .iconst 2, 1, [], 2) := (lk_law_7 (Nat.le_of_ble_eq_true rfl)).trans rfl
theorem i_L_law_779 : am_i m_L_law 779 = some (779, .newarray .int, 2, [], 0) := (lk_law_7 (Nat.le_of_ble_eq_true rfl)).trans rfl
theorem b_L_law_770 {a0 a1 a2 : Nat} {v3 v5 v6 v8 v9 v10 : Value} {x4 x7 xs0 x7' xs0' : Int} {h : am_H} (w7 : wr x7 = x7') (ws0 : wr xs0 = xs0') : rn m_L_law 770 [.ref a0, .ref a1, .ref a2, v3, .int (mI x4), v5, v6, .int (mI x7), v8, v9, v10] [.int (mI xs0)] h = if ¬ xs0' = x7' then some (.inl (some (.int (mI 0))), h) else rn m_L_law 781 [.ref a0, .ref a1, .ref a2, v3, .int (mI x4), v5, v6, .int (mI x7), v8, v9, v10] [.ref (hnx h), .int (mI 109), .ref a1] (aI 0 2 h) := by
  refine (tq_iload i_L_law_770 rfl rfl).trans ?_
  refine (tq_icmp_ne (pt := 806) i_L_law_772 ws0 w7 (by decide) rfl).trans ?_
  refine ite_congr rfl (fun c1 => ?_) (fun c1 => ?_)
  · refine (tq_iconst i_L_law_806 rfl).trans ?_
    exact tq_ireturn i_L_law_807 r_L_law (okB w_0 (by decide))
  · refine (tq_aload_n i_L_law_775 rfl (isA_ref _) rfl).trans ?_
    refine (tq_bipush i_L_law_776 rfl).trans ?_
    refine (tq_iconst i_L_law_778 rfl).trans ?_
    exact tq_newI (n := 2) (t := 0) i_L_law_779 w_2 (by decide) rfl (by decide) rfl rfl
theorem i_L_law_781 : am_i m_L_law 781 = some (781, .dup, 1, [], 0) := (lk_law_7 (Nat.le_of_ble_eq_true rfl)).trans rfl
theorem i_L_law_782 : am_i m_L_law 782 = some (782, .iconst 0, 1, [], 0) := (lk_law_7 (Nat.le_of_ble_eq_true rfl)).trans rfl
theorem i_L_law_783 : am_i m_L_law 783 = some (783, .iconst 0, 1, [], 0) := (lk_law_7 (Nat.le_of_ble_eq_true rfl)).trans rfl
theorem i_L_law_784 : am_i m_L_law 784 = some (784, .iastore, 1, [], 0) := (lk_law_7 (Nat.le_of_ble_eq_true rfl)).trans rfl
theorem i_L_law_785 : am_i m_L_law 785 = some (785, .dup, 1, [], 0) := (lk_law_7 (Nat.le_of_ble_eq_true rfl)).trans rfl
theorem i_L_law_786 : am_i m_L_law 786 = some (786, .iconst 1, 1, [], 1) := (lk_law_7 (Nat.le_of_ble_eq_true rfl)).trans rfl
theorem i_L_law_787 : am_i m_L_law 787 = some (787, .bipush (-16), 2, [], -16) := (lk_law_7 (Nat.le_of_ble_eq_true rfl)).trans rfl
theorem i_L_law_789 : am_i m_L_law 789 = some (789, .iastore, 1, [], 0) := (lk_law_7 (Nat.le_of_ble_eq_true rfl)).trans rfl
theorem i_L_law_790 : am_i m_L_law 790 = some (790, .invokestatic 130, 3, [122], 0) := (lk_law_7 (Nat.le_of_ble_eq_true rfl)).trans rfl
theorem b_L_law_781 {a0 a1 a2 as0 as2 n_as0 : Nat} {v3 v5 v6 v8 v9 v10 : Value} {x4 x7 xs1 : Int} {h : am_H} (n1 : gn h as0 = n_as0) (s2 : sh h as0 = (1, 0)) (g3 : (0 : Int) ≤ 0 ∧ 0 < (n_as0 : Int)) (g4 : (0 : Int) ≤ 1 ∧ 1 < (n_as0 : Int)) : rn m_L_law 781 [.ref a0, .ref a1, .ref a2, v3, .int (mI x4), v5, v6, .int (mI x7), v8, v9, v10] [.ref as0, .int (mI xs1), .ref as2] h = cl m_L_law 793 [.ref a0, .ref a1, .ref a2, v3, .int (mI x4), v5, v6, .int (mI x7), v8, v9, v10] [] (rn m_L_paint 0 [.ref as2, .int (mI xs1), .ref as0, am_J] [] (uZ (uZ h as0 0 0) as0 1 (-16))) := by
  refine (tq_dup i_L_law_781 rfl rfl).trans ?_
  refine (tq_iconst i_L_law_782 rfl).trans ?_
  refine (tq_iconst i_L_law_783 rfl).trans ?_
  refine (tq_iastore i_L_law_784 s2 w_0 g3.1 (lt_gn n1 g3.2) rfl).trans ?_
  refine (tq_dup i_L_law_785 rfl rfl).trans ?_
  refine (tq_iconst i_L_law_786 rfl).trans ?_
  refine (tq_bipush i_L_law_787 rfl).trans ?_
  refine (tq_iastore i_L_law_789 ((sh_uZ _ _ _ _ _).trans s2) w_1 g4.1 (lt_gn ((gn_uZ _ _ _ _ _).trans n1) g4.2) rfl).trans ?_
  exact c_L_paint i_L_law_790 (ltd d_L_law (by decide)) (isA_ref _) (isA_ref _) stOk_0 rfl
theorem i_L_law_793 : am_i m_L_law 793 = some (793, .iload 7, 2, [], 0) := (lk_law_7 (Nat.le_of_ble_eq_true rfl)).trans rfl
theorem i_L_law_795 : am_i m_L_law 795 = some (795, .if_icmp .ne 11, 3, [], 0) := (lk_law_7 (Nat.le_of_ble_eq_true rfl)).trans rfl
theorem i_L_law_798 : am_i m_L_law 798 = some (798, .aload_n 1, 1, [], 0) := (lk_law_7 (Nat.le_of_ble_eq_true rfl)).trans rfl
theorem i_L_law_799 : am_i m_L_law 799 = some (799, .aload_n 2, 1, [], 0) := (lk_law_7 (Nat.le_of_ble_eq_true rfl)).trans rfl
theorem i_L_law_800 : am_i m_L_law 800 = some (800, .invokestatic 158, 3, [146], 0) := (lk_law_7 (Nat.le_of_ble_eq_true rfl)).trans rfl
theorem b_L_law_793 {a0 a1 a2 : Nat} {v3 v5 v6 v8 v9 v10 : Value} {x4 x7 xs0 x7' xs0' : Int} {h : am_H} (w7 : wr x7 = x7') (ws0 : wr xs0 = xs0') : rn m_L_law 793 [.ref a0, .ref a1, .ref a2, v3, .int (mI x4), v5, v6, .int (mI x7), v8, v9, v10] [.int (mI xs0)] h = if ¬ xs0' = x7' then some (.inl (some (.int (mI 0))), h) else cl m_L_law 803 [.ref a0, .ref a1, .ref a2, v3, .int (mI x4), v5, v6, .int (mI x7), v8, v9, v10] [] (rn m_L_isLike 0 [.ref a1, .ref a2, am_J] [] h) := by
  refine (tq_iload i_L_law_793 rfl rfl).trans ?_
  refine (tq_icmp_ne (pt := 806) i_L_law_795 ws0 w7 (by decide) rfl).trans ?_
  refine ite_congr rfl (fun c1 => ?_) (fun c1 => ?_)
  · refine (tq_iconst i_L_law_806 rfl).trans ?_
    exact tq_ireturn i_L_law_807 r_L_law (okB w_0 (by decide))
  · refine (tq_aload_n i_L_law_798 rfl (isA_ref _) rfl).trans ?_
    refine (tq_aload_n i_L_law_799 rfl (isA_ref _) rfl).trans ?_
    exact c_L_isLike i_L_law_800 (ltd d_L_law (by decide)) (isA_ref _) (isA_ref _) stOk_0 rfl
theorem i_L_law_803 : am_i m_L_law 803 = some (803, .ifCond .ne 5, 3, [], 0) := (lk_law_7 (Nat.le_of_ble_eq_true rfl)).trans rfl
theorem i_L_law_808 : am_i m_L_law 808 = some (808, .aload_n 1, 1, [], 0) := (lk_law_8 (Nat.le_of_ble_eq_true rfl)).trans rfl
theorem i_L_law_809 : am_i m_L_law 809 = some (809, .bipush 113, 2, [], 113) := (lk_law_8 (Nat.le_of_ble_eq_true rfl)).trans rfl
theorem i_L_law_811 : am_i m_L_law 811 = some (811, .iconst 0, 1, [], 0) := (lk_law_8 (Nat.le_of_ble_eq_true rfl)).trans rfl
theorem i_L_law_812 : am_i m_L_law 812 = some (812, .invokestatic 163, 3, [144], 0) := (lk_law_8 (Nat.le_of_ble_eq_true rfl)).trans rfl
theorem b_L_law_803 {a0 a1 : Nat} {v2 v3 v5 v6 v7 v8 v9 v10 : Value} {x4 xs0 xs0' : Int} {h : am_H} (ws0 : wr xs0 = xs0') : rn m_L_law 803 [.ref a0, .ref a1, v2, v3, .int (mI x4), v5, v6, v7, v8, v9, v10] [.int (mI xs0)] h = if ¬ xs0' = 0 then cl m_L_law 815 [.ref a0, .ref a1, v2, v3, .int (mI x4), v5, v6, v7, v8, v9, v10] [] (rn m_L_ask 0 [.ref a1, .int (mI 113), .int (mI 0), am_J] [] h) else some (.inl (some (.int (mI 0))), h) := by
  refine (tq_if_ne (pt := 808) i_L_law_803 ws0 (by decide) rfl).trans ?_
  refine ite_congr rfl (fun c1 => ?_) (fun c1 => ?_)
  · refine (tq_aload_n i_L_law_808 rfl (isA_ref _) rfl).trans ?_
    refine (tq_bipush i_L_law_809 rfl).trans ?_
    refine (tq_iconst i_L_law_811 rfl).trans ?_
    exact c_L_ask i_L_law_812 (ltd d_L_law (by decide)) (isA_ref _) stOk_0 rfl
  · refine (tq_iconst i_L_law_806 rfl).trans ?_
    exact tq_ireturn i_L_law_807 r_L_law (okB w_0 (by decide))
theorem i_L_law_815 : am_i m_L_law 815 = some (815, .sipush (-1002), 3, [], -1002) := (lk_law_8 (Nat.le_of_ble_eq_true rfl)).trans rfl
theorem i_L_law_818 : am_i m_L_law 818 = some (818, .if_icmp .ne 277, 3, [], 0) := (lk_law_8 (Nat.le_of_ble_eq_true rfl)).trans rfl
theorem i_L_law_821 : am_i m_L_law 821 = some (821, .aload_n 1, 1, [], 0) := (lk_law_8 (Nat.le_of_ble_eq_true rfl)).trans rfl
theorem i_L_law_822 : am_i m_L_law 822 = some (822, .bipush 113, 2, [], 113) := (lk_law_8 (Nat.le_of_ble_eq_true rfl)).trans rfl
theorem i_L_law_824 : am_i m_L_law 824 = some (824, .bipush 41, 2, [], 41) := (lk_law_8 (Nat.le_of_ble_eq_true rfl)).trans rfl
theorem i_L_law_826 : am_i m_L_law 826 = some (826, .invokestatic 163, 3, [144], 0) := (lk_law_8 (Nat.le_of_ble_eq_true rfl)).trans rfl
theorem i_L_law_1095 : am_i m_L_law 1095 = some (1095, .iconst 0, 1, [], 0) := (lk_law_10 (Nat.le_of_ble_eq_true rfl)).trans rfl
theorem i_L_law_1096 : am_i m_L_law 1096 = some (1096, .ireturn, 1, [], 0) := (lk_law_10 (Nat.le_of_ble_eq_true rfl)).trans rfl
theorem b_L_law_815 {a0 a1 : Nat} {v2 v3 v5 v6 v7 v8 v9 v10 : Value} {x4 xs0 xs0' : Int} {h : am_H} (ws0 : wr xs0 = xs0') : rn m_L_law 815 [.ref a0, .ref a1, v2, v3, .int (mI x4), v5, v6, v7, v8, v9, v10] [.int (mI xs0)] h = if ¬ xs0' = (-1002) then some (.inl (some (.int (mI 0))), h) else cl m_L_law 829 [.ref a0, .ref a1, v2, v3, .int (mI x4), v5, v6, v7, v8, v9, v10] [] (rn m_L_ask 0 [.ref a1, .int (mI 113), .int (mI 41), am_J] [] h) := by
  refine (tq_sipush i_L_law_815 rfl).trans ?_
  refine (tq_icmp_ne (pt := 1095) i_L_law_818 ws0 w_m1002 (by decide) rfl).trans ?_
  refine ite_congr rfl (fun c1 => ?_) (fun c1 => ?_)
  · refine (tq_iconst i_L_law_1095 rfl).trans ?_
    exact tq_ireturn i_L_law_1096 r_L_law (okB w_0 (by decide))
  · refine (tq_aload_n i_L_law_821 rfl (isA_ref _) rfl).trans ?_
    refine (tq_bipush i_L_law_822 rfl).trans ?_
    refine (tq_bipush i_L_law_824 rfl).trans ?_
    exact c_L_ask i_L_law_826 (ltd d_L_law (by decide)) (isA_ref _) stOk_0 rfl
theorem i_L_law_829 : am_i m_L_law 829 = some (829, .sipush (-1002), 3, [], -1002) := (lk_law_8 (Nat.le_of_ble_eq_true rfl)).trans rfl
theorem i_L_law_832 : am_i m_L_law 832 = some (832, .if_icmp .ne 263, 3, [], 0) := (lk_law_8 (Nat.le_of_ble_eq_true rfl)).trans rfl
theorem i_L_law_835 : am_i m_L_law 835 = some (835, .aload_n 1, 1, [], 0) := (lk_law_8 (Nat.le_of_ble_eq_true rfl)).trans rfl
theorem i_L_law_836 : am_i m_L_law 836 = some (836, .bipush 116, 2, [], 116) := (lk_law_8 (Nat.le_of_ble_eq_true rfl)).trans rfl
theorem i_L_law_838 : am_i m_L_law 838 = some (838, .bipush 8, 2, [], 8) := (lk_law_8 (Nat.le_of_ble_eq_true rfl)).trans rfl
theorem i_L_law_840 : am_i m_L_law 840 = some (840, .invokestatic 163, 3, [144], 0) := (lk_law_8 (Nat.le_of_ble_eq_true rfl)).trans rfl
theorem b_L_law_829 {a0 a1 : Nat} {v2 v3 v5 v6 v7 v8 v9 v10 : Value} {x4 xs0 xs0' : Int} {h : am_H} (ws0 : wr xs0 = xs0') : rn m_L_law 829 [.ref a0, .ref a1, v2, v3, .int (mI x4), v5, v6, v7, v8, v9, v10] [.int (mI xs0)] h = if ¬ xs0' = (-1002) then some (.inl (some (.int (mI 0))), h) else cl m_L_law 843 [.ref a0, .ref a1, v2, v3, .int (mI x4), v5, v6, v7, v8, v9, v10] [] (rn m_L_ask 0 [.ref a1, .int (mI 116), .int (mI 8), am_J] [] h) := by
  refine (tq_sipush i_L_law_829 rfl).trans ?_
  refine (tq_icmp_ne (pt := 1095) i_L_law_832 ws0 w_m1002 (by decide) rfl).trans ?_
  refine ite_congr rfl (fun c1 => ?_) (fun c1 => ?_)
  · refine (tq_iconst i_L_law_1095 rfl).trans ?_
    exact tq_ireturn i_L_law_1096 r_L_law (okB w_0 (by decide))
  · refine (tq_aload_n i_L_law_835 rfl (isA_ref _) rfl).trans ?_
    refine (tq_bipush i_L_law_836 rfl).trans ?_
    refine (tq_bipush i_L_law_838 rfl).trans ?_
    exact c_L_ask i_L_law_840 (ltd d_L_law (by decide)) (isA_ref _) stOk_0 rfl
theorem i_L_law_843 : am_i m_L_law 843 = some (843, .sipush (-1002), 3, [], -1002) := (lk_law_8 (Nat.le_of_ble_eq_true rfl)).trans rfl
theorem i_L_law_846 : am_i m_L_law 846 = some (846, .if_icmp .ne 249, 3, [], 0) := (lk_law_8 (Nat.le_of_ble_eq_true rfl)).trans rfl
theorem i_L_law_849 : am_i m_L_law 849 = some (849, .aload_n 1, 1, [], 0) := (lk_law_8 (Nat.le_of_ble_eq_true rfl)).trans rfl
theorem i_L_law_850 : am_i m_L_law 850 = some (850, .bipush 116, 2, [], 116) := (lk_law_8 (Nat.le_of_ble_eq_true rfl)).trans rfl
theorem i_L_law_852 : am_i m_L_law 852 = some (852, .iconst (-1), 1, [], -1) := (lk_law_8 (Nat.le_of_ble_eq_true rfl)).trans rfl
theorem i_L_law_853 : am_i m_L_law 853 = some (853, .invokestatic 163, 3, [144], 0) := (lk_law_8 (Nat.le_of_ble_eq_true rfl)).trans rfl
theorem b_L_law_843 {a0 a1 : Nat} {v2 v3 v5 v6 v7 v8 v9 v10 : Value} {x4 xs0 xs0' : Int} {h : am_H} (ws0 : wr xs0 = xs0') : rn m_L_law 843 [.ref a0, .ref a1, v2, v3, .int (mI x4), v5, v6, v7, v8, v9, v10] [.int (mI xs0)] h = if ¬ xs0' = (-1002) then some (.inl (some (.int (mI 0))), h) else cl m_L_law 856 [.ref a0, .ref a1, v2, v3, .int (mI x4), v5, v6, v7, v8, v9, v10] [] (rn m_L_ask 0 [.ref a1, .int (mI 116), .int (mI (-1)), am_J] [] h) := by
  refine (tq_sipush i_L_law_843 rfl).trans ?_
  refine (tq_icmp_ne (pt := 1095) i_L_law_846 ws0 w_m1002 (by decide) rfl).trans ?_
  refine ite_congr rfl (fun c1 => ?_) (fun c1 => ?_)
  · refine (tq_iconst i_L_law_1095 rfl).trans ?_
    exact tq_ireturn i_L_law_1096 r_L_law (okB w_0 (by decide))
  · refine (tq_aload_n i_L_law_849 rfl (isA_ref _) rfl).trans ?_
    refine (tq_bipush i_L_law_850 rfl).trans ?_
    refine (tq_iconst i_L_law_852 rfl).trans ?_
    exact c_L_ask i_L_law_853 (ltd d_L_law (by decide)) (isA_ref _) stOk_0 rfl
theorem i_L_law_856 : am_i m_L_law 856 = some (856, .sipush (-1002), 3, [], -1002) := (lk_law_8 (Nat.le_of_ble_eq_true rfl)).trans rfl
theorem i_L_law_859 : am_i m_L_law 859 = some (859, .if_icmp .ne 236, 3, [], 0) := (lk_law_8 (Nat.le_of_ble_eq_true rfl)).trans rfl
theorem i_L_law_862 : am_i m_L_law 862 = some (862, .aload_n 1, 1, [], 0) := (lk_law_8 (Nat.le_of_ble_eq_true rfl)).trans rfl
theorem i_L_law_863 : am_i m_L_law 863 = some (863, .bipush 115, 2, [], 115) := (lk_law_8 (Nat.le_of_ble_eq_true rfl)).trans rfl
theorem i_L_law_865 : am_i m_L_law 865 = some (865, .iconst 0, 1, [], 0) := (lk_law_8 (Nat.le_of_ble_eq_true rfl)).trans rfl
theorem i_L_law_866 : am_i m_L_law 866 = some (866, .invokestatic 163, 3, [144], 0) := (lk_law_8 (Nat.le_of_ble_eq_true rfl)).trans rfl
theorem b_L_law_856 {a0 a1 : Nat} {v2 v3 v5 v6 v7 v8 v9 v10 : Value} {x4 xs0 xs0' : Int} {h : am_H} (ws0 : wr xs0 = xs0') : rn m_L_law 856 [.ref a0, .ref a1, v2, v3, .int (mI x4), v5, v6, v7, v8, v9, v10] [.int (mI xs0)] h = if ¬ xs0' = (-1002) then some (.inl (some (.int (mI 0))), h) else cl m_L_law 869 [.ref a0, .ref a1, v2, v3, .int (mI x4), v5, v6, v7, v8, v9, v10] [] (rn m_L_ask 0 [.ref a1, .int (mI 115), .int (mI 0), am_J] [] h) := by
  refine (tq_sipush i_L_law_856 rfl).trans ?_
  refine (tq_icmp_ne (pt := 1095) i_L_law_859 ws0 w_m1002 (by decide) rfl).trans ?_
  refine ite_congr rfl (fun c1 => ?_) (fun c1 => ?_)
  · refine (tq_iconst i_L_law_1095 rfl).trans ?_
    exact tq_ireturn i_L_law_1096 r_L_law (okB w_0 (by decide))
  · refine (tq_aload_n i_L_law_862 rfl (isA_ref _) rfl).trans ?_
    refine (tq_bipush i_L_law_863 rfl).trans ?_
    refine (tq_iconst i_L_law_865 rfl).trans ?_
    exact c_L_ask i_L_law_866 (ltd d_L_law (by decide)) (isA_ref _) stOk_0 rfl
theorem i_L_law_869 : am_i m_L_law 869 = some (869, .sipush (-1002), 3, [], -1002) := (lk_law_8 (Nat.le_of_ble_eq_true rfl)).trans rfl
theorem i_L_law_872 : am_i m_L_law 872 = some (872, .if_icmp .ne 223, 3, [], 0) := (lk_law_8 (Nat.le_of_ble_eq_true rfl)).trans rfl
theorem i_L_law_875 : am_i m_L_law 875 = some (875, .aload_n 1, 1, [], 0) := (lk_law_8 (Nat.le_of_ble_eq_true rfl)).trans rfl
theorem i_L_law_876 : am_i m_L_law 876 = some (876, .bipush 115, 2, [], 115) := (lk_law_8 (Nat.le_of_ble_eq_true rfl)).trans rfl
theorem i_L_law_878 : am_i m_L_law 878 = some (878, .iconst 3, 1, [], 3) := (lk_law_8 (Nat.le_of_ble_eq_true rfl)).trans rfl
theorem i_L_law_879 : am_i m_L_law 879 = some (879, .invokestatic 163, 3, [144], 0) := (lk_law_8 (Nat.le_of_ble_eq_true rfl)).trans rfl
theorem b_L_law_869 {a0 a1 : Nat} {v2 v3 v5 v6 v7 v8 v9 v10 : Value} {x4 xs0 xs0' : Int} {h : am_H} (ws0 : wr xs0 = xs0') : rn m_L_law 869 [.ref a0, .ref a1, v2, v3, .int (mI x4), v5, v6, v7, v8, v9, v10] [.int (mI xs0)] h = if ¬ xs0' = (-1002) then some (.inl (some (.int (mI 0))), h) else cl m_L_law 882 [.ref a0, .ref a1, v2, v3, .int (mI x4), v5, v6, v7, v8, v9, v10] [] (rn m_L_ask 0 [.ref a1, .int (mI 115), .int (mI 3), am_J] [] h) := by
  refine (tq_sipush i_L_law_869 rfl).trans ?_
  refine (tq_icmp_ne (pt := 1095) i_L_law_872 ws0 w_m1002 (by decide) rfl).trans ?_
  refine ite_congr rfl (fun c1 => ?_) (fun c1 => ?_)
  · refine (tq_iconst i_L_law_1095 rfl).trans ?_
    exact tq_ireturn i_L_law_1096 r_L_law (okB w_0 (by decide))
  · refine (tq_aload_n i_L_law_875 rfl (isA_ref _) rfl).trans ?_
    refine (tq_bipush i_L_law_876 rfl).trans ?_
    refine (tq_iconst i_L_law_878 rfl).trans ?_
    exact c_L_ask i_L_law_879 (ltd d_L_law (by decide)) (isA_ref _) stOk_0 rfl
theorem i_L_law_882 : am_i m_L_law 882 = some (882, .sipush (-1002), 3, [], -1002) := (lk_law_8 (Nat.le_of_ble_eq_true rfl)).trans rfl
theorem i_L_law_885 : am_i m_L_law 885 = some (885, .if_icmp .ne 210, 3, [], 0) := (lk_law_8 (Nat.le_of_ble_eq_true rfl)).trans rfl
theorem i_L_law_888 : am_i m_L_law 888 = some (888, .aload_n 1, 1, [], 0) := (lk_law_8 (Nat.le_of_ble_eq_true rfl)).trans rfl
theorem i_L_law_889 : am_i m_L_law 889 = some (889, .iconst (-1), 1, [], -1) := (lk_law_8 (Nat.le_of_ble_eq_true rfl)).trans rfl
theorem i_L_law_890 : am_i m_L_law 890 = some (890, .iconst 0, 1, [], 0) := (lk_law_8 (Nat.le_of_ble_eq_true rfl)).trans rfl
theorem i_L_law_891 : am_i m_L_law 891 = some (891, .invokestatic 195, 3, [121], 0) := (lk_law_8 (Nat.le_of_ble_eq_true rfl)).trans rfl
theorem b_L_law_882 {a0 a1 : Nat} {v2 v3 v5 v6 v7 v8 v9 v10 : Value} {x4 xs0 xs0' : Int} {h : am_H} (ws0 : wr xs0 = xs0') : rn m_L_law 882 [.ref a0, .ref a1, v2, v3, .int (mI x4), v5, v6, v7, v8, v9, v10] [.int (mI xs0)] h = if ¬ xs0' = (-1002) then some (.inl (some (.int (mI 0))), h) else cl m_L_law 894 [.ref a0, .ref a1, v2, v3, .int (mI x4), v5, v6, v7, v8, v9, v10] [] (rn m_L_bucket 0 [.ref a1, .int (mI (-1)), .int (mI 0), am_J] [] h) := by
  refine (tq_sipush i_L_law_882 rfl).trans ?_
  refine (tq_icmp_ne (pt := 1095) i_L_law_885 ws0 w_m1002 (by decide) rfl).trans ?_
  refine ite_congr rfl (fun c1 => ?_) (fun c1 => ?_)
  · refine (tq_iconst i_L_law_1095 rfl).trans ?_
    exact tq_ireturn i_L_law_1096 r_L_law (okB w_0 (by decide))
  · refine (tq_aload_n i_L_law_888 rfl (isA_ref _) rfl).trans ?_
    refine (tq_iconst i_L_law_889 rfl).trans ?_
    refine (tq_iconst i_L_law_890 rfl).trans ?_
    exact c_L_bucket i_L_law_891 (ltd d_L_law (by decide)) (isA_ref _) stOk_0 rfl
theorem i_L_law_894 : am_i m_L_law 894 = some (894, .sipush (-1002), 3, [], -1002) := (lk_law_8 (Nat.le_of_ble_eq_true rfl)).trans rfl
theorem i_L_law_897 : am_i m_L_law 897 = some (897, .if_icmp .ne 198, 3, [], 0) := (lk_law_8 (Nat.le_of_ble_eq_true rfl)).trans rfl
theorem i_L_law_900 : am_i m_L_law 900 = some (900, .aload_n 1, 1, [], 0) := (lk_law_8 (Nat.le_of_ble_eq_true rfl)).trans rfl
theorem i_L_law_901 : am_i m_L_law 901 = some (901, .ldc 198, 2, [], 100000) := (lk_law_8 (Nat.le_of_ble_eq_true rfl)).trans rfl
theorem i_L_law_903 : am_i m_L_law 903 = some (903, .iconst 0, 1, [], 0) := (lk_law_8 (Nat.le_of_ble_eq_true rfl)).trans rfl
theorem i_L_law_904 : am_i m_L_law 904 = some (904, .invokestatic 195, 3, [121], 0) := (lk_law_8 (Nat.le_of_ble_eq_true rfl)).trans rfl
theorem b_L_law_894 {a0 a1 : Nat} {v2 v3 v5 v6 v7 v8 v9 v10 : Value} {x4 xs0 xs0' : Int} {h : am_H} (ws0 : wr xs0 = xs0') : rn m_L_law 894 [.ref a0, .ref a1, v2, v3, .int (mI x4), v5, v6, v7, v8, v9, v10] [.int (mI xs0)] h = if ¬ xs0' = (-1002) then some (.inl (some (.int (mI 0))), h) else cl m_L_law 907 [.ref a0, .ref a1, v2, v3, .int (mI x4), v5, v6, v7, v8, v9, v10] [] (rn m_L_bucket 0 [.ref a1, .int (mI 100000), .int (mI 0), am_J] [] h) := by
  refine (tq_sipush i_L_law_894 rfl).trans ?_
  refine (tq_icmp_ne (pt := 1095) i_L_law_897 ws0 w_m1002 (by decide) rfl).trans ?_
  refine ite_congr rfl (fun c1 => ?_) (fun c1 => ?_)
  · refine (tq_iconst i_L_law_1095 rfl).trans ?_
    exact tq_ireturn i_L_law_1096 r_L_law (okB w_0 (by decide))
  · refine (tq_aload_n i_L_law_900 rfl (isA_ref _) rfl).trans ?_
    refine (tq_ldc i_L_law_901 rfl).trans ?_
    refine (tq_iconst i_L_law_903 rfl).trans ?_
    exact c_L_bucket i_L_law_904 (ltd d_L_law (by decide)) (isA_ref _) stOk_0 rfl
theorem i_L_law_907 : am_i m_L_law 907 = some (907, .sipush (-1002), 3, [], -1002) := (lk_law_8 (Nat.le_of_ble_eq_true rfl)).trans rfl
theorem i_L_law_910 : am_i m_L_law 910 = some (910, .if_icmp .ne 185, 3, [], 0) := (lk_law_8 (Nat.le_of_ble_eq_true rfl)).trans rfl
theorem i_L_law_913 : am_i m_L_law 913 = some (913, .aload_n 1, 1, [], 0) := (lk_law_8 (Nat.le_of_ble_eq_true rfl)).trans rfl
theorem i_L_law_914 : am_i m_L_law 914 = some (914, .iconst 1, 1, [], 1) := (lk_law_8 (Nat.le_of_ble_eq_true rfl)).trans rfl
theorem i_L_law_915 : am_i m_L_law 915 = some (915, .iconst (-1), 1, [], -1) := (lk_law_8 (Nat.le_of_ble_eq_true rfl)).trans rfl
theorem i_L_law_916 : am_i m_L_law 916 = some (916, .invokestatic 195, 3, [121], 0) := (lk_law_8 (Nat.le_of_ble_eq_true rfl)).trans rfl
theorem b_L_law_907 {a0 a1 : Nat} {v2 v3 v5 v6 v7 v8 v9 v10 : Value} {x4 xs0 xs0' : Int} {h : am_H} (ws0 : wr xs0 = xs0') : rn m_L_law 907 [.ref a0, .ref a1, v2, v3, .int (mI x4), v5, v6, v7, v8, v9, v10] [.int (mI xs0)] h = if ¬ xs0' = (-1002) then some (.inl (some (.int (mI 0))), h) else cl m_L_law 919 [.ref a0, .ref a1, v2, v3, .int (mI x4), v5, v6, v7, v8, v9, v10] [] (rn m_L_bucket 0 [.ref a1, .int (mI 1), .int (mI (-1)), am_J] [] h) := by
  refine (tq_sipush i_L_law_907 rfl).trans ?_
  refine (tq_icmp_ne (pt := 1095) i_L_law_910 ws0 w_m1002 (by decide) rfl).trans ?_
  refine ite_congr rfl (fun c1 => ?_) (fun c1 => ?_)
  · refine (tq_iconst i_L_law_1095 rfl).trans ?_
    exact tq_ireturn i_L_law_1096 r_L_law (okB w_0 (by decide))
  · refine (tq_aload_n i_L_law_913 rfl (isA_ref _) rfl).trans ?_
    refine (tq_iconst i_L_law_914 rfl).trans ?_
    refine (tq_iconst i_L_law_915 rfl).trans ?_
    exact c_L_bucket i_L_law_916 (ltd d_L_law (by decide)) (isA_ref _) stOk_0 rfl
theorem i_L_law_919 : am_i m_L_law 919 = some (919, .sipush (-1002), 3, [], -1002) := (lk_law_8 (Nat.le_of_ble_eq_true rfl)).trans rfl
theorem i_L_law_922 : am_i m_L_law 922 = some (922, .if_icmp .ne 173, 3, [], 0) := (lk_law_8 (Nat.le_of_ble_eq_true rfl)).trans rfl
theorem i_L_law_925 : am_i m_L_law 925 = some (925, .aload_n 1, 1, [], 0) := (lk_law_8 (Nat.le_of_ble_eq_true rfl)).trans rfl
theorem i_L_law_926 : am_i m_L_law 926 = some (926, .bipush 63, 2, [], 63) := (lk_law_8 (Nat.le_of_ble_eq_true rfl)).trans rfl
theorem i_L_law_928 : am_i m_L_law 928 = some (928, .iconst 0, 1, [], 0) := (lk_law_8 (Nat.le_of_ble_eq_true rfl)).trans rfl
theorem i_L_law_929 : am_i m_L_law 929 = some (929, .iconst 0, 1, [], 0) := (lk_law_8 (Nat.le_of_ble_eq_true rfl)).trans rfl
theorem i_L_law_930 : am_i m_L_law 930 = some (930, .invokestatic 167, 3, [145], 0) := (lk_law_8 (Nat.le_of_ble_eq_true rfl)).trans rfl
theorem b_L_law_919 {a0 a1 : Nat} {v2 v3 v5 v6 v7 v8 v9 v10 : Value} {x4 xs0 xs0' : Int} {h : am_H} (ws0 : wr xs0 = xs0') : rn m_L_law 919 [.ref a0, .ref a1, v2, v3, .int (mI x4), v5, v6, v7, v8, v9, v10] [.int (mI xs0)] h = if ¬ xs0' = (-1002) then some (.inl (some (.int (mI 0))), h) else cl m_L_law 933 [.ref a0, .ref a1, v2, v3, .int (mI x4), v5, v6, v7, v8, v9, v10] [] (rn m_L_code 0 [.ref a1, .int (mI 63), .int (mI 0), .int (mI 0), am_J] [] h) := by
  refine (tq_sipush i_L_law_919 rfl).trans ?_
  refine (tq_icmp_ne (pt := 1095) i_L_law_922 ws0 w_m1002 (by decide) rfl).trans ?_
  refine ite_congr rfl (fun c1 => ?_) (fun c1 => ?_)
  · refine (tq_iconst i_L_law_1095 rfl).trans ?_
    exact tq_ireturn i_L_law_1096 r_L_law (okB w_0 (by decide))
  · refine (tq_aload_n i_L_law_925 rfl (isA_ref _) rfl).trans ?_
    refine (tq_bipush i_L_law_926 rfl).trans ?_
    refine (tq_iconst i_L_law_928 rfl).trans ?_
    refine (tq_iconst i_L_law_929 rfl).trans ?_
    exact c_L_code i_L_law_930 (ltd d_L_law (by decide)) (isA_ref _) stOk_0 rfl
theorem i_L_law_933 : am_i m_L_law 933 = some (933, .sipush (-1002), 3, [], -1002) := (lk_law_9 (Nat.le_of_ble_eq_true rfl)).trans rfl
theorem i_L_law_936 : am_i m_L_law 936 = some (936, .if_icmp .ne 159, 3, [], 0) := (lk_law_9 (Nat.le_of_ble_eq_true rfl)).trans rfl
theorem i_L_law_939 : am_i m_L_law 939 = some (939, .aload_n 1, 1, [], 0) := (lk_law_9 (Nat.le_of_ble_eq_true rfl)).trans rfl
theorem i_L_law_940 : am_i m_L_law 940 = some (940, .bipush 112, 2, [], 112) := (lk_law_9 (Nat.le_of_ble_eq_true rfl)).trans rfl
theorem i_L_law_942 : am_i m_L_law 942 = some (942, .iconst 3, 1, [], 3) := (lk_law_9 (Nat.le_of_ble_eq_true rfl)).trans rfl
theorem i_L_law_943 : am_i m_L_law 943 = some (943, .iconst 0, 1, [], 0) := (lk_law_9 (Nat.le_of_ble_eq_true rfl)).trans rfl
theorem i_L_law_944 : am_i m_L_law 944 = some (944, .invokestatic 167, 3, [145], 0) := (lk_law_9 (Nat.le_of_ble_eq_true rfl)).trans rfl
theorem b_L_law_933 {a0 a1 : Nat} {v2 v3 v5 v6 v7 v8 v9 v10 : Value} {x4 xs0 xs0' : Int} {h : am_H} (ws0 : wr xs0 = xs0') : rn m_L_law 933 [.ref a0, .ref a1, v2, v3, .int (mI x4), v5, v6, v7, v8, v9, v10] [.int (mI xs0)] h = if ¬ xs0' = (-1002) then some (.inl (some (.int (mI 0))), h) else cl m_L_law 947 [.ref a0, .ref a1, v2, v3, .int (mI x4), v5, v6, v7, v8, v9, v10] [] (rn m_L_code 0 [.ref a1, .int (mI 112), .int (mI 3), .int (mI 0), am_J] [] h) := by
  refine (tq_sipush i_L_law_933 rfl).trans ?_
  refine (tq_icmp_ne (pt := 1095) i_L_law_936 ws0 w_m1002 (by decide) rfl).trans ?_
  refine ite_congr rfl (fun c1 => ?_) (fun c1 => ?_)
  · refine (tq_iconst i_L_law_1095 rfl).trans ?_
    exact tq_ireturn i_L_law_1096 r_L_law (okB w_0 (by decide))
  · refine (tq_aload_n i_L_law_939 rfl (isA_ref _) rfl).trans ?_
    refine (tq_bipush i_L_law_940 rfl).trans ?_
    refine (tq_iconst i_L_law_942 rfl).trans ?_
    refine (tq_iconst i_L_law_943 rfl).trans ?_
    exact c_L_code i_L_law_944 (ltd d_L_law (by decide)) (isA_ref _) stOk_0 rfl
theorem i_L_law_947 : am_i m_L_law 947 = some (947, .sipush (-1001), 3, [], -1001) := (lk_law_9 (Nat.le_of_ble_eq_true rfl)).trans rfl
theorem i_L_law_950 : am_i m_L_law 950 = some (950, .if_icmp .ne 145, 3, [], 0) := (lk_law_9 (Nat.le_of_ble_eq_true rfl)).trans rfl
theorem i_L_law_953 : am_i m_L_law 953 = some (953, .aload_n 1, 1, [], 0) := (lk_law_9 (Nat.le_of_ble_eq_true rfl)).trans rfl
theorem i_L_law_954 : am_i m_L_law 954 = some (954, .bipush 98, 2, [], 98) := (lk_law_9 (Nat.le_of_ble_eq_true rfl)).trans rfl
theorem i_L_law_956 : am_i m_L_law 956 = some (956, .iconst 0, 1, [], 0) := (lk_law_9 (Nat.le_of_ble_eq_true rfl)).trans rfl
theorem i_L_law_957 : am_i m_L_law 957 = some (957, .iconst (-1), 1, [], -1) := (lk_law_9 (Nat.le_of_ble_eq_true rfl)).trans rfl
theorem i_L_law_958 : am_i m_L_law 958 = some (958, .invokestatic 167, 3, [145], 0) := (lk_law_9 (Nat.le_of_ble_eq_true rfl)).trans rfl
theorem b_L_law_947 {a0 a1 : Nat} {v2 v3 v5 v6 v7 v8 v9 v10 : Value} {x4 xs0 xs0' : Int} {h : am_H} (ws0 : wr xs0 = xs0') : rn m_L_law 947 [.ref a0, .ref a1, v2, v3, .int (mI x4), v5, v6, v7, v8, v9, v10] [.int (mI xs0)] h = if ¬ xs0' = (-1001) then some (.inl (some (.int (mI 0))), h) else cl m_L_law 961 [.ref a0, .ref a1, v2, v3, .int (mI x4), v5, v6, v7, v8, v9, v10] [] (rn m_L_code 0 [.ref a1, .int (mI 98), .int (mI 0), .int (mI (-1)), am_J] [] h) := by
  refine (tq_sipush i_L_law_947 rfl).trans ?_
  refine (tq_icmp_ne (pt := 1095) i_L_law_950 ws0 w_m1001 (by decide) rfl).trans ?_
  refine ite_congr rfl (fun c1 => ?_) (fun c1 => ?_)
  · refine (tq_iconst i_L_law_1095 rfl).trans ?_
    exact tq_ireturn i_L_law_1096 r_L_law (okB w_0 (by decide))
  · refine (tq_aload_n i_L_law_953 rfl (isA_ref _) rfl).trans ?_
    refine (tq_bipush i_L_law_954 rfl).trans ?_
    refine (tq_iconst i_L_law_956 rfl).trans ?_
    refine (tq_iconst i_L_law_957 rfl).trans ?_
    exact c_L_code i_L_law_958 (ltd d_L_law (by decide)) (isA_ref _) stOk_0 rfl
theorem i_L_law_961 : am_i m_L_law 961 = some (961, .sipush (-1001), 3, [], -1001) := (lk_law_9 (Nat.le_of_ble_eq_true rfl)).trans rfl
theorem i_L_law_964 : am_i m_L_law 964 = some (964, .if_icmp .ne 131, 3, [], 0) := (lk_law_9 (Nat.le_of_ble_eq_true rfl)).trans rfl
theorem i_L_law_967 : am_i m_L_law 967 = some (967, .aload_n 1, 1, [], 0) := (lk_law_9 (Nat.le_of_ble_eq_true rfl)).trans rfl
theorem i_L_law_968 : am_i m_L_law 968 = some (968, .bipush 105, 2, [], 105) := (lk_law_9 (Nat.le_of_ble_eq_true rfl)).trans rfl
theorem i_L_law_970 : am_i m_L_law 970 = some (970, .iload 4, 2, [], 0) := (lk_law_9 (Nat.le_of_ble_eq_true rfl)).trans rfl
theorem i_L_law_972 : am_i m_L_law 972 = some (972, .invokestatic 163, 3, [144], 0) := (lk_law_9 (Nat.le_of_ble_eq_true rfl)).trans rfl
theorem b_L_law_961 {a0 a1 : Nat} {v2 v3 v5 v6 v7 v8 v9 v10 : Value} {x4 xs0 xs0' : Int} {h : am_H} (ws0 : wr xs0 = xs0') : rn m_L_law 961 [.ref a0, .ref a1, v2, v3, .int (mI x4), v5, v6, v7, v8, v9, v10] [.int (mI xs0)] h = if ¬ xs0' = (-1001) then some (.inl (some (.int (mI 0))), h) else cl m_L_law 975 [.ref a0, .ref a1, v2, v3, .int (mI x4), v5, v6, v7, v8, v9, v10] [] (rn m_L_ask 0 [.ref a1, .int (mI 105), .int (mI x4), am_J] [] h) := by
  refine (tq_sipush i_L_law_961 rfl).trans ?_
  refine (tq_icmp_ne (pt := 1095) i_L_law_964 ws0 w_m1001 (by decide) rfl).trans ?_
  refine ite_congr rfl (fun c1 => ?_) (fun c1 => ?_)
  · refine (tq_iconst i_L_law_1095 rfl).trans ?_
    exact tq_ireturn i_L_law_1096 r_L_law (okB w_0 (by decide))
  · refine (tq_aload_n i_L_law_967 rfl (isA_ref _) rfl).trans ?_
    refine (tq_bipush i_L_law_968 rfl).trans ?_
    refine (tq_iload i_L_law_970 rfl rfl).trans ?_
    exact c_L_ask i_L_law_972 (ltd d_L_law (by decide)) (isA_ref _) stOk_0 rfl
theorem i_L_law_975 : am_i m_L_law 975 = some (975, .sipush (-1001), 3, [], -1001) := (lk_law_9 (Nat.le_of_ble_eq_true rfl)).trans rfl
theorem i_L_law_978 : am_i m_L_law 978 = some (978, .if_icmp .ne 117, 3, [], 0) := (lk_law_9 (Nat.le_of_ble_eq_true rfl)).trans rfl
theorem i_L_law_981 : am_i m_L_law 981 = some (981, .aload_n 1, 1, [], 0) := (lk_law_9 (Nat.le_of_ble_eq_true rfl)).trans rfl
theorem i_L_law_982 : am_i m_L_law 982 = some (982, .bipush 99, 2, [], 99) := (lk_law_9 (Nat.le_of_ble_eq_true rfl)).trans rfl
theorem i_L_law_984 : am_i m_L_law 984 = some (984, .iconst (-1), 1, [], -1) := (lk_law_9 (Nat.le_of_ble_eq_true rfl)).trans rfl
theorem i_L_law_985 : am_i m_L_law 985 = some (985, .invokestatic 163, 3, [144], 0) := (lk_law_9 (Nat.le_of_ble_eq_true rfl)).trans rfl
theorem b_L_law_975 {a0 a1 : Nat} {v2 v3 v5 v6 v7 v8 v9 v10 : Value} {x4 xs0 xs0' : Int} {h : am_H} (ws0 : wr xs0 = xs0') : rn m_L_law 975 [.ref a0, .ref a1, v2, v3, .int (mI x4), v5, v6, v7, v8, v9, v10] [.int (mI xs0)] h = if ¬ xs0' = (-1001) then some (.inl (some (.int (mI 0))), h) else cl m_L_law 988 [.ref a0, .ref a1, v2, v3, .int (mI x4), v5, v6, v7, v8, v9, v10] [] (rn m_L_ask 0 [.ref a1, .int (mI 99), .int (mI (-1)), am_J] [] h) := by
  refine (tq_sipush i_L_law_975 rfl).trans ?_
  refine (tq_icmp_ne (pt := 1095) i_L_law_978 ws0 w_m1001 (by decide) rfl).trans ?_
  refine ite_congr rfl (fun c1 => ?_) (fun c1 => ?_)
  · refine (tq_iconst i_L_law_1095 rfl).trans ?_
    exact tq_ireturn i_L_law_1096 r_L_law (okB w_0 (by decide))
  · refine (tq_aload_n i_L_law_981 rfl (isA_ref _) rfl).trans ?_
    refine (tq_bipush i_L_law_982 rfl).trans ?_
    refine (tq_iconst i_L_law_984 rfl).trans ?_
    exact c_L_ask i_L_law_985 (ltd d_L_law (by decide)) (isA_ref _) stOk_0 rfl
theorem i_L_law_988 : am_i m_L_law 988 = some (988, .sipush (-1001), 3, [], -1001) := (lk_law_9 (Nat.le_of_ble_eq_true rfl)).trans rfl
theorem i_L_law_991 : am_i m_L_law 991 = some (991, .if_icmp .ne 104, 3, [], 0) := (lk_law_9 (Nat.le_of_ble_eq_true rfl)).trans rfl
theorem i_L_law_994 : am_i m_L_law 994 = some (994, .aload_n 1, 1, [], 0) := (lk_law_9 (Nat.le_of_ble_eq_true rfl)).trans rfl
theorem i_L_law_995 : am_i m_L_law 995 = some (995, .bipush 104, 2, [], 104) := (lk_law_9 (Nat.le_of_ble_eq_true rfl)).trans rfl
theorem i_L_law_997 : am_i m_L_law 997 = some (997, .iload 4, 2, [], 0) := (lk_law_9 (Nat.le_of_ble_eq_true rfl)).trans rfl
theorem i_L_law_999 : am_i m_L_law 999 = some (999, .invokestatic 163, 3, [144], 0) := (lk_law_9 (Nat.le_of_ble_eq_true rfl)).trans rfl
theorem b_L_law_988 {a0 a1 : Nat} {v2 v3 v5 v6 v7 v8 v9 v10 : Value} {x4 xs0 xs0' : Int} {h : am_H} (ws0 : wr xs0 = xs0') : rn m_L_law 988 [.ref a0, .ref a1, v2, v3, .int (mI x4), v5, v6, v7, v8, v9, v10] [.int (mI xs0)] h = if ¬ xs0' = (-1001) then some (.inl (some (.int (mI 0))), h) else cl m_L_law 1002 [.ref a0, .ref a1, v2, v3, .int (mI x4), v5, v6, v7, v8, v9, v10] [] (rn m_L_ask 0 [.ref a1, .int (mI 104), .int (mI x4), am_J] [] h) := by
  refine (tq_sipush i_L_law_988 rfl).trans ?_
  refine (tq_icmp_ne (pt := 1095) i_L_law_991 ws0 w_m1001 (by decide) rfl).trans ?_
  refine ite_congr rfl (fun c1 => ?_) (fun c1 => ?_)
  · refine (tq_iconst i_L_law_1095 rfl).trans ?_
    exact tq_ireturn i_L_law_1096 r_L_law (okB w_0 (by decide))
  · refine (tq_aload_n i_L_law_994 rfl (isA_ref _) rfl).trans ?_
    refine (tq_bipush i_L_law_995 rfl).trans ?_
    refine (tq_iload i_L_law_997 rfl rfl).trans ?_
    exact c_L_ask i_L_law_999 (ltd d_L_law (by decide)) (isA_ref _) stOk_0 rfl
theorem i_L_law_1002 : am_i m_L_law 1002 = some (1002, .sipush (-1001), 3, [], -1001) := (lk_law_9 (Nat.le_of_ble_eq_true rfl)).trans rfl
theorem i_L_law_1005 : am_i m_L_law 1005 = some (1005, .if_icmp .ne 90, 3, [], 0) := (lk_law_9 (Nat.le_of_ble_eq_true rfl)).trans rfl
theorem i_L_law_1008 : am_i m_L_law 1008 = some (1008, .aload_n 1, 1, [], 0) := (lk_law_9 (Nat.le_of_ble_eq_true rfl)).trans rfl
theorem i_L_law_1009 : am_i m_L_law 1009 = some (1009, .bipush 106, 2, [], 106) := (lk_law_9 (Nat.le_of_ble_eq_true rfl)).trans rfl
theorem i_L_law_1011 : am_i m_L_law 1011 = some (1011, .iload 4, 2, [], 0) := (lk_law_9 (Nat.le_of_ble_eq_true rfl)).trans rfl
theorem i_L_law_1013 : am_i m_L_law 1013 = some (1013, .iconst 1, 1, [], 1) := (lk_law_9 (Nat.le_of_ble_eq_true rfl)).trans rfl
theorem i_L_law_1014 : am_i m_L_law 1014 = some (1014, .iadd, 1, [], 0) := (lk_law_9 (Nat.le_of_ble_eq_true rfl)).trans rfl
theorem i_L_law_1015 : am_i m_L_law 1015 = some (1015, .invokestatic 163, 3, [144], 0) := (lk_law_9 (Nat.le_of_ble_eq_true rfl)).trans rfl
theorem b_L_law_1002 {a0 a1 : Nat} {v2 v3 v5 v6 v7 v8 v9 v10 : Value} {x4 xs0 xs0' : Int} {h : am_H} (ws0 : wr xs0 = xs0') : rn m_L_law 1002 [.ref a0, .ref a1, v2, v3, .int (mI x4), v5, v6, v7, v8, v9, v10] [.int (mI xs0)] h = if ¬ xs0' = (-1001) then some (.inl (some (.int (mI 0))), h) else cl m_L_law 1018 [.ref a0, .ref a1, v2, v3, .int (mI x4), v5, v6, v7, v8, v9, v10] [] (rn m_L_ask 0 [.ref a1, .int (mI 106), .int (mI (x4 + 1)), am_J] [] h) := by
  refine (tq_sipush i_L_law_1002 rfl).trans ?_
  refine (tq_icmp_ne (pt := 1095) i_L_law_1005 ws0 w_m1001 (by decide) rfl).trans ?_
  refine ite_congr rfl (fun c1 => ?_) (fun c1 => ?_)
  · refine (tq_iconst i_L_law_1095 rfl).trans ?_
    exact tq_ireturn i_L_law_1096 r_L_law (okB w_0 (by decide))
  · refine (tq_aload_n i_L_law_1008 rfl (isA_ref _) rfl).trans ?_
    refine (tq_bipush i_L_law_1009 rfl).trans ?_
    refine (tq_iload i_L_law_1011 rfl rfl).trans ?_
    refine (tq_iconst i_L_law_1013 rfl).trans ?_
    refine (tq_iadd i_L_law_1014 rfl).trans ?_
    exact c_L_ask i_L_law_1015 (ltd d_L_law (by decide)) (isA_ref _) stOk_0 rfl
theorem i_L_law_1018 : am_i m_L_law 1018 = some (1018, .sipush (-1001), 3, [], -1001) := (lk_law_9 (Nat.le_of_ble_eq_true rfl)).trans rfl
theorem i_L_law_1021 : am_i m_L_law 1021 = some (1021, .if_icmp .ne 74, 3, [], 0) := (lk_law_9 (Nat.le_of_ble_eq_true rfl)).trans rfl
theorem i_L_law_1024 : am_i m_L_law 1024 = some (1024, .aload_n 1, 1, [], 0) := (lk_law_9 (Nat.le_of_ble_eq_true rfl)).trans rfl
theorem i_L_law_1025 : am_i m_L_law 1025 = some (1025, .bipush 106, 2, [], 106) := (lk_law_9 (Nat.le_of_ble_eq_true rfl)).trans rfl
theorem i_L_law_1027 : am_i m_L_law 1027 = some (1027, .iconst (-1), 1, [], -1) := (lk_law_9 (Nat.le_of_ble_eq_true rfl)).trans rfl
theorem i_L_law_1028 : am_i m_L_law 1028 = some (1028, .invokestatic 163, 3, [144], 0) := (lk_law_9 (Nat.le_of_ble_eq_true rfl)).trans rfl
theorem b_L_law_1018 {a0 a1 : Nat} {v2 v3 v5 v6 v7 v8 v9 v10 : Value} {x4 xs0 xs0' : Int} {h : am_H} (ws0 : wr xs0 = xs0') : rn m_L_law 1018 [.ref a0, .ref a1, v2, v3, .int (mI x4), v5, v6, v7, v8, v9, v10] [.int (mI xs0)] h = if ¬ xs0' = (-1001) then some (.inl (some (.int (mI 0))), h) else cl m_L_law 1031 [.ref a0, .ref a1, v2, v3, .int (mI x4), v5, v6, v7, v8, v9, v10] [] (rn m_L_ask 0 [.ref a1, .int (mI 106), .int (mI (-1)), am_J] [] h) := by
  refine (tq_sipush i_L_law_1018 rfl).trans ?_
  refine (tq_icmp_ne (pt := 1095) i_L_law_1021 ws0 w_m1001 (by decide) rfl).trans ?_
  refine ite_congr rfl (fun c1 => ?_) (fun c1 => ?_)
  · refine (tq_iconst i_L_law_1095 rfl).trans ?_
    exact tq_ireturn i_L_law_1096 r_L_law (okB w_0 (by decide))
  · refine (tq_aload_n i_L_law_1024 rfl (isA_ref _) rfl).trans ?_
    refine (tq_bipush i_L_law_1025 rfl).trans ?_
    refine (tq_iconst i_L_law_1027 rfl).trans ?_
    exact c_L_ask i_L_law_1028 (ltd d_L_law (by decide)) (isA_ref _) stOk_0 rfl
theorem i_L_law_1031 : am_i m_L_law 1031 = some (1031, .sipush (-1001), 3, [], -1001) := (lk_law_9 (Nat.le_of_ble_eq_true rfl)).trans rfl
theorem i_L_law_1034 : am_i m_L_law 1034 = some (1034, .if_icmp .ne 61, 3, [], 0) := (lk_law_9 (Nat.le_of_ble_eq_true rfl)).trans rfl
theorem i_L_law_1037 : am_i m_L_law 1037 = some (1037, .aload_n 1, 1, [], 0) := (lk_law_9 (Nat.le_of_ble_eq_true rfl)).trans rfl
theorem i_L_law_1038 : am_i m_L_law 1038 = some (1038, .bipush 99, 2, [], 99) := (lk_law_9 (Nat.le_of_ble_eq_true rfl)).trans rfl
theorem i_L_law_1040 : am_i m_L_law 1040 = some (1040, .iconst 0, 1, [], 0) := (lk_law_9 (Nat.le_of_ble_eq_true rfl)).trans rfl
theorem i_L_law_1041 : am_i m_L_law 1041 = some (1041, .bipush 16, 2, [], 16) := (lk_law_9 (Nat.le_of_ble_eq_true rfl)).trans rfl
theorem i_L_law_1043 : am_i m_L_law 1043 = some (1043, .iconst 0, 1, [], 0) := (lk_law_9 (Nat.le_of_ble_eq_true rfl)).trans rfl
theorem i_L_law_1044 : am_i m_L_law 1044 = some (1044, .invokestatic 137, 3, [141], 0) := (lk_law_9 (Nat.le_of_ble_eq_true rfl)).trans rfl
theorem b_L_law_1031 {a0 a1 : Nat} {v2 v3 v5 v6 v7 v8 v9 v10 : Value} {x4 xs0 xs0' : Int} {h : am_H} (ws0 : wr xs0 = xs0') : rn m_L_law 1031 [.ref a0, .ref a1, v2, v3, .int (mI x4), v5, v6, v7, v8, v9, v10] [.int (mI xs0)] h = if ¬ xs0' = (-1001) then some (.inl (some (.int (mI 0))), h) else cl m_L_law 1047 [.ref a0, .ref a1, v2, v3, .int (mI x4), v5, v6, v7, v8, v9, v10] [] (rn m_L_pixel 0 [.ref a1, .int (mI 99), .int (mI 0), .int (mI 16), .int (mI 0), am_J] [] h) := by
  refine (tq_sipush i_L_law_1031 rfl).trans ?_
  refine (tq_icmp_ne (pt := 1095) i_L_law_1034 ws0 w_m1001 (by decide) rfl).trans ?_
  refine ite_congr rfl (fun c1 => ?_) (fun c1 => ?_)
  · refine (tq_iconst i_L_law_1095 rfl).trans ?_
    exact tq_ireturn i_L_law_1096 r_L_law (okB w_0 (by decide))
  · refine (tq_aload_n i_L_law_1037 rfl (isA_ref _) rfl).trans ?_
    refine (tq_bipush i_L_law_1038 rfl).trans ?_
    refine (tq_iconst i_L_law_1040 rfl).trans ?_
    refine (tq_bipush i_L_law_1041 rfl).trans ?_
    refine (tq_iconst i_L_law_1043 rfl).trans ?_
    exact c_L_pixel i_L_law_1044 (ltd d_L_law (by decide)) (isA_ref _) stOk_0 rfl
theorem i_L_law_1047 : am_i m_L_law 1047 = some (1047, .ldc 96, 2, [], -100001) := (lk_law_9 (Nat.le_of_ble_eq_true rfl)).trans rfl
theorem i_L_law_1049 : am_i m_L_law 1049 = some (1049, .if_icmp .ne 46, 3, [], 0) := (lk_law_9 (Nat.le_of_ble_eq_true rfl)).trans rfl
theorem i_L_law_1052 : am_i m_L_law 1052 = some (1052, .aload_n 1, 1, [], 0) := (lk_law_9 (Nat.le_of_ble_eq_true rfl)).trans rfl
theorem i_L_law_1053 : am_i m_L_law 1053 = some (1053, .bipush 119, 2, [], 119) := (lk_law_9 (Nat.le_of_ble_eq_true rfl)).trans rfl
theorem i_L_law_1055 : am_i m_L_law 1055 = some (1055, .iconst 0, 1, [], 0) := (lk_law_9 (Nat.le_of_ble_eq_true rfl)).trans rfl
theorem i_L_law_1056 : am_i m_L_law 1056 = some (1056, .iconst 0, 1, [], 0) := (lk_law_9 (Nat.le_of_ble_eq_true rfl)).trans rfl
theorem i_L_law_1057 : am_i m_L_law 1057 = some (1057, .iconst (-1), 1, [], -1) := (lk_law_10 (Nat.le_of_ble_eq_true rfl)).trans rfl
theorem i_L_law_1058 : am_i m_L_law 1058 = some (1058, .invokestatic 137, 3, [141], 0) := (lk_law_10 (Nat.le_of_ble_eq_true rfl)).trans rfl
theorem b_L_law_1047 {a0 a1 : Nat} {v2 v3 v5 v6 v7 v8 v9 v10 : Value} {x4 xs0 xs0' : Int} {h : am_H} (ws0 : wr xs0 = xs0') : rn m_L_law 1047 [.ref a0, .ref a1, v2, v3, .int (mI x4), v5, v6, v7, v8, v9, v10] [.int (mI xs0)] h = if ¬ xs0' = (-100001) then some (.inl (some (.int (mI 0))), h) else cl m_L_law 1061 [.ref a0, .ref a1, v2, v3, .int (mI x4), v5, v6, v7, v8, v9, v10] [] (rn m_L_pixel 0 [.ref a1, .int (mI 119), .int (mI 0), .int (mI 0), .int (mI (-1)), am_J] [] h) := by
  refine (tq_ldc i_L_law_1047 rfl).trans ?_
  refine (tq_icmp_ne (pt := 1095) i_L_law_1049 ws0 w_m100001 (by decide) rfl).trans ?_
  refine ite_congr rfl (fun c1 => ?_) (fun c1 => ?_)
  · refine (tq_iconst i_L_law_1095 rfl).trans ?_
    exact tq_ireturn i_L_law_1096 r_L_law (okB w_0 (by decide))
  · refine (tq_aload_n i_L_law_1052 rfl (isA_ref _) rfl).trans ?_
    refine (tq_bipush i_L_law_1053 rfl).trans ?_
    refine (tq_iconst i_L_law_1055 rfl).trans ?_
    refine (tq_iconst i_L_law_1056 rfl).trans ?_
    refine (tq_iconst i_L_law_1057 rfl).trans ?_
    exact c_L_pixel i_L_law_1058 (ltd d_L_law (by decide)) (isA_ref _) stOk_0 rfl
theorem i_L_law_1061 : am_i m_L_law 1061 = some (1061, .ldc 96, 2, [], -100001) := (lk_law_10 (Nat.le_of_ble_eq_true rfl)).trans rfl
theorem i_L_law_1063 : am_i m_L_law 1063 = some (1063, .if_icmp .ne 32, 3, [], 0) := (lk_law_10 (Nat.le_of_ble_eq_true rfl)).trans rfl
theorem i_L_law_1066 : am_i m_L_law 1066 = some (1066, .aload_n 1, 1, [], 0) := (lk_law_10 (Nat.le_of_ble_eq_true rfl)).trans rfl
theorem i_L_law_1067 : am_i m_L_law 1067 = some (1067, .bipush 98, 2, [], 98) := (lk_law_10 (Nat.le_of_ble_eq_true rfl)).trans rfl
theorem i_L_law_1069 : am_i m_L_law 1069 = some (1069, .iload 4, 2, [], 0) := (lk_law_10 (Nat.le_of_ble_eq_true rfl)).trans rfl
theorem i_L_law_1071 : am_i m_L_law 1071 = some (1071, .iconst 0, 1, [], 0) := (lk_law_10 (Nat.le_of_ble_eq_true rfl)).trans rfl
theorem i_L_law_1072 : am_i m_L_law 1072 = some (1072, .iconst 0, 1, [], 0) := (lk_law_10 (Nat.le_of_ble_eq_true rfl)).trans rfl
theorem i_L_law_1073 : am_i m_L_law 1073 = some (1073, .invokestatic 137, 3, [141], 0) := (lk_law_10 (Nat.le_of_ble_eq_true rfl)).trans rfl
theorem b_L_law_1061 {a0 a1 : Nat} {v2 v3 v5 v6 v7 v8 v9 v10 : Value} {x4 xs0 xs0' : Int} {h : am_H} (ws0 : wr xs0 = xs0') : rn m_L_law 1061 [.ref a0, .ref a1, v2, v3, .int (mI x4), v5, v6, v7, v8, v9, v10] [.int (mI xs0)] h = if ¬ xs0' = (-100001) then some (.inl (some (.int (mI 0))), h) else cl m_L_law 1076 [.ref a0, .ref a1, v2, v3, .int (mI x4), v5, v6, v7, v8, v9, v10] [] (rn m_L_pixel 0 [.ref a1, .int (mI 98), .int (mI x4), .int (mI 0), .int (mI 0), am_J] [] h) := by
  refine (tq_ldc i_L_law_1061 rfl).trans ?_
  refine (tq_icmp_ne (pt := 1095) i_L_law_1063 ws0 w_m100001 (by decide) rfl).trans ?_
  refine ite_congr rfl (fun c1 => ?_) (fun c1 => ?_)
  · refine (tq_iconst i_L_law_1095 rfl).trans ?_
    exact tq_ireturn i_L_law_1096 r_L_law (okB w_0 (by decide))
  · refine (tq_aload_n i_L_law_1066 rfl (isA_ref _) rfl).trans ?_
    refine (tq_bipush i_L_law_1067 rfl).trans ?_
    refine (tq_iload i_L_law_1069 rfl rfl).trans ?_
    refine (tq_iconst i_L_law_1071 rfl).trans ?_
    refine (tq_iconst i_L_law_1072 rfl).trans ?_
    exact c_L_pixel i_L_law_1073 (ltd d_L_law (by decide)) (isA_ref _) stOk_0 rfl
theorem i_L_law_1076 : am_i m_L_law 1076 = some (1076, .ldc 96, 2, [], -100001) := (lk_law_10 (Nat.le_of_ble_eq_true rfl)).trans rfl
theorem i_L_law_1078 : am_i m_L_law 1078 = some (1078, .if_icmp .ne 17, 3, [], 0) := (lk_law_10 (Nat.le_of_ble_eq_true rfl)).trans rfl
theorem i_L_law_1081 : am_i m_L_law 1081 = some (1081, .aload_n 1, 1, [], 0) := (lk_law_10 (Nat.le_of_ble_eq_true rfl)).trans rfl
theorem i_L_law_1082 : am_i m_L_law 1082 = some (1082, .bipush 109, 2, [], 109) := (lk_law_10 (Nat.le_of_ble_eq_true rfl)).trans rfl
theorem i_L_law_1084 : am_i m_L_law 1084 = some (1084, .iconst (-1), 1, [], -1) := (lk_law_10 (Nat.le_of_ble_eq_true rfl)).trans rfl
theorem i_L_law_1085 : am_i m_L_law 1085 = some (1085, .iconst 0, 1, [], 0) := (lk_law_10 (Nat.le_of_ble_eq_true rfl)).trans rfl
theorem i_L_law_1086 : am_i m_L_law 1086 = some (1086, .iconst 0, 1, [], 0) := (lk_law_10 (Nat.le_of_ble_eq_true rfl)).trans rfl
theorem i_L_law_1087 : am_i m_L_law 1087 = some (1087, .invokestatic 137, 3, [141], 0) := (lk_law_10 (Nat.le_of_ble_eq_true rfl)).trans rfl
theorem b_L_law_1076 {a0 a1 : Nat} {v2 v3 v5 v6 v7 v8 v9 v10 : Value} {x4 xs0 xs0' : Int} {h : am_H} (ws0 : wr xs0 = xs0') : rn m_L_law 1076 [.ref a0, .ref a1, v2, v3, .int (mI x4), v5, v6, v7, v8, v9, v10] [.int (mI xs0)] h = if ¬ xs0' = (-100001) then some (.inl (some (.int (mI 0))), h) else cl m_L_law 1090 [.ref a0, .ref a1, v2, v3, .int (mI x4), v5, v6, v7, v8, v9, v10] [] (rn m_L_pixel 0 [.ref a1, .int (mI 109), .int (mI (-1)), .int (mI 0), .int (mI 0), am_J] [] h) := by
  refine (tq_ldc i_L_law_1076 rfl).trans ?_
  refine (tq_icmp_ne (pt := 1095) i_L_law_1078 ws0 w_m100001 (by decide) rfl).trans ?_
  refine ite_congr rfl (fun c1 => ?_) (fun c1 => ?_)
  · refine (tq_iconst i_L_law_1095 rfl).trans ?_
    exact tq_ireturn i_L_law_1096 r_L_law (okB w_0 (by decide))
  · refine (tq_aload_n i_L_law_1081 rfl (isA_ref _) rfl).trans ?_
    refine (tq_bipush i_L_law_1082 rfl).trans ?_
    refine (tq_iconst i_L_law_1084 rfl).trans ?_
    refine (tq_iconst i_L_law_1085 rfl).trans ?_
    refine (tq_iconst i_L_law_1086 rfl).trans ?_
    exact c_L_pixel i_L_law_1087 (ltd d_L_law (by decide)) (isA_ref _) stOk_0 rfl
theorem i_L_law_1090 : am_i m_L_law 1090 = some (1090, .ldc 96, 2, [], -100001) := (lk_law_10 (Nat.le_of_ble_eq_true rfl)).trans rfl
theorem i_L_law_1092 : am_i m_L_law 1092 = some (1092, .if_icmp .eq 5, 3, [], 0) := (lk_law_10 (Nat.le_of_ble_eq_true rfl)).trans rfl
theorem i_L_law_1097 : am_i m_L_law 1097 = some (1097, .aload_n 0, 1, [], 0) := (lk_law_10 (Nat.le_of_ble_eq_true rfl)).trans rfl
theorem i_L_law_1098 : am_i m_L_law 1098 = some (1098, .bipush 42, 2, [], 42) := (lk_law_10 (Nat.le_of_ble_eq_true rfl)).trans rfl
theorem i_L_law_1100 : am_i m_L_law 1100 = some (1100, .invokestatic 177, 3, [0], 0) := (lk_law_10 (Nat.le_of_ble_eq_true rfl)).trans rfl
theorem b_L_law_1090 {a0 a1 : Nat} {v2 v3 v5 v6 v7 v8 v9 v10 : Value} {x4 xs0 xs0' : Int} {h : am_H} (ws0 : wr xs0 = xs0') : rn m_L_law 1090 [.ref a0, .ref a1, v2, v3, .int (mI x4), v5, v6, v7, v8, v9, v10] [.int (mI xs0)] h = if xs0' = (-100001) then cl m_L_law 1103 [.ref a0, .ref a1, v2, v3, .int (mI x4), v5, v6, v7, v8, v9, v10] [] (rn m_L_at 0 [.ref a0, .int (mI 42)] [] h) else some (.inl (some (.int (mI 0))), h) := by
  refine (tq_ldc i_L_law_1090 rfl).trans ?_
  refine (tq_icmp_eq (pt := 1097) i_L_law_1092 ws0 w_m100001 (by decide) rfl).trans ?_
  refine ite_congr rfl (fun c1 => ?_) (fun c1 => ?_)
  · refine (tq_aload_n i_L_law_1097 rfl (isA_ref _) rfl).trans ?_
    refine (tq_bipush i_L_law_1098 rfl).trans ?_
    exact c_L_at i_L_law_1100 (ltd d_L_law (by decide)) (isA_ref _) stOk_0 rfl
  · refine (tq_iconst i_L_law_1095 rfl).trans ?_
    exact tq_ireturn i_L_law_1096 r_L_law (okB w_0 (by decide))
theorem i_L_law_1103 : am_i m_L_law 1103 = some (1103, .ldc 199, 2, [], 1000000) := (lk_law_10 (Nat.le_of_ble_eq_true rfl)).trans rfl
theorem i_L_law_1105 : am_i m_L_law 1105 = some (1105, .invokestatic 181, 3, [1], 0) := (lk_law_10 (Nat.le_of_ble_eq_true rfl)).trans rfl
theorem b_L_law_1103 {v0 v2 v3 v5 v6 v7 v8 v9 v10 : Value} {a1 : Nat} {x4 xs0 : Int} {h : am_H} : rn m_L_law 1103 [v0, .ref a1, v2, v3, .int (mI x4), v5, v6, v7, v8, v9, v10] [.int (mI xs0)] h = cl m_L_law 1108 [v0, .ref a1, v2, v3, .int (mI x4), v5, v6, v7, v8, v9, v10] [] (rn m_L_some 0 [.int (mI xs0), .int (mI 1000000), am_J] [] h) := by
  refine (tq_ldc i_L_law_1103 rfl).trans ?_
  exact c_L_some i_L_law_1105 (ltd d_L_law (by decide)) stOk_0 rfl
theorem i_L_law_1108 : am_i m_L_law 1108 = some (1108, .istore 8, 2, [], 0) := (lk_law_10 (Nat.le_of_ble_eq_true rfl)).trans rfl
theorem i_L_law_1110 : am_i m_L_law 1110 = some (1110, .aload_n 1, 1, [], 0) := (lk_law_10 (Nat.le_of_ble_eq_true rfl)).trans rfl
theorem i_L_law_1111 : am_i m_L_law 1111 = some (1111, .invokevirtual 189, 3, [12, 9], 0) := (lk_law_10 (Nat.le_of_ble_eq_true rfl)).trans rfl
theorem i_L_law_1114 : am_i m_L_law 1114 = some (1114, .iload 4, 2, [], 0) := (lk_law_10 (Nat.le_of_ble_eq_true rfl)).trans rfl
theorem i_L_law_1116 : am_i m_L_law 1116 = some (1116, .if_icmp .ne 39, 3, [], 0) := (lk_law_10 (Nat.le_of_ble_eq_true rfl)).trans rfl
theorem i_L_law_1119 : am_i m_L_law 1119 = some (1119, .iload 8, 2, [], 0) := (lk_law_10 (Nat.le_of_ble_eq_true rfl)).trans rfl
theorem i_L_law_1121 : am_i m_L_law 1121 = some (1121, .sipush 256, 3, [], 256) := (lk_law_10 (Nat.le_of_ble_eq_true rfl)).trans rfl
theorem i_L_law_1124 : am_i m_L_law 1124 = some (1124, .irem, 1, [], 0) := (lk_law_10 (Nat.le_of_ble_eq_true rfl)).trans rfl
theorem i_L_law_1125 : am_i m_L_law 1125 = some (1125, .iconst 1, 1, [], 1) := (lk_law_10 (Nat.le_of_ble_eq_true rfl)).trans rfl
theorem i_L_law_1126 : am_i m_L_law 1126 = some (1126, .iload 8, 2, [], 0) := (lk_law_10 (Nat.le_of_ble_eq_true rfl)).trans rfl
theorem i_L_law_1128 : am_i m_L_law 1128 = some (1128, .sipush 256, 3, [], 256) := (lk_law_10 (Nat.le_of_ble_eq_true rfl)).trans rfl
theorem i_L_law_1131 : am_i m_L_law 1131 = some (1131, .idiv, 1, [], 0) := (lk_law_10 (Nat.le_of_ble_eq_true rfl)).trans rfl
theorem i_L_law_1132 : am_i m_L_law 1132 = some (1132, .bipush 40, 2, [], 40) := (lk_law_10 (Nat.le_of_ble_eq_true rfl)).trans rfl
theorem i_L_law_1134 : am_i m_L_law 1134 = some (1134, .irem, 1, [], 0) := (lk_law_10 (Nat.le_of_ble_eq_true rfl)).trans rfl
theorem i_L_law_1135 : am_i m_L_law 1135 = some (1135, .iadd, 1, [], 0) := (lk_law_10 (Nat.le_of_ble_eq_true rfl)).trans rfl
theorem i_L_law_1136 : am_i m_L_law 1136 = some (1136, .iload 8, 2, [], 0) := (lk_law_10 (Nat.le_of_ble_eq_true rfl)).trans rfl
theorem i_L_law_1138 : am_i m_L_law 1138 = some (1138, .sipush 10240, 3, [], 10240) := (lk_law_10 (Nat.le_of_ble_eq_true rfl)).trans rfl
theorem i_L_law_1141 : am_i m_L_law 1141 = some (1141, .idiv, 1, [], 0) := (lk_law_10 (Nat.le_of_ble_eq_true rfl)).trans rfl
theorem i_L_law_1142 : am_i m_L_law 1142 = some (1142, .bipush 8, 2, [], 8) := (lk_law_10 (Nat.le_of_ble_eq_true rfl)).trans rfl
theorem i_L_law_1144 : am_i m_L_law 1144 = some (1144, .irem, 1, [], 0) := (lk_law_10 (Nat.le_of_ble_eq_true rfl)).trans rfl
theorem i_L_law_1145 : am_i m_L_law 1145 = some (1145, .invokestatic 200, 3, [147], 0) := (lk_law_10 (Nat.le_of_ble_eq_true rfl)).trans rfl
theorem i_L_law_1155 : am_i m_L_law 1155 = some (1155, .iconst 0, 1, [], 0) := (lk_law_10 (Nat.le_of_ble_eq_true rfl)).trans rfl
theorem i_L_law_1156 : am_i m_L_law 1156 = some (1156, .ireturn, 1, [], 0) := (lk_law_10 (Nat.le_of_ble_eq_true rfl)).trans rfl
theorem b_L_law_1108 {v0 v2 v3 v5 v6 v7 v8 v9 v10 : Value} {a1 : Nat} {x4 xs0 x4' xs0' : Int} {h : am_H} (w4 : wr x4 = x4') (ws0 : wr xs0 = xs0') (k1 : K9 h a1) : rn m_L_law 1108 [v0, .ref a1, v2, v3, .int (mI x4), v5, v6, v7, v8, v9, v10] [.int (mI xs0)] h = if ¬ (fZ h a1 8) = x4' then some (.inl (some (.int (mI 0))), h) else cl m_L_law 1148 [v0, .ref a1, v2, v3, .int (mI x4), v5, v6, (am_k1 v7), .int (mI xs0), v9, v10] [] (rn m_L_flatIsGood 0 [.int (mI (Int.tmod xs0' 256)), .int (mI (1 + (Int.tmod (wr (Int.tdiv xs0' 256)) 40))), .int (mI (Int.tmod (wr (Int.tdiv xs0' 10240)) 8)), am_J, am_J, am_J, am_J] [] h) := by
  refine (tq_istore (L' := [v0, .ref a1, v2, v3, .int (mI x4), v5, v6, (am_k1 v7), .int (mI xs0), v9, v10]) i_L_law_1108 rfl rfl).trans ?_
  refine (tq_aload_n i_L_law_1110 rfl (isA_ref _) rfl).trans ?_
  refine (c_X11_pictures i_L_law_1111 (K9_s k1) (ltd d_L_law (by decide)) stOk_0 rfl).trans ?_
  refine (congrArg (cl _ _ _ _) (b_X11_pictures_0 k1)).trans ?_
  refine (cl_v _ _ _ _ _ _).trans ?_
  refine (tq_iload i_L_law_1114 rfl rfl).trans ?_
  refine (tq_icmp_ne (pt := 1155) i_L_law_1116 (wr_fZ _ _ _) w4 (by decide) rfl).trans ?_
  refine ite_congr rfl (fun c1 => ?_) (fun c1 => ?_)
  · refine (tq_iconst i_L_law_1155 rfl).trans ?_
    exact tq_ireturn i_L_law_1156 r_L_law (okB w_0 (by decide))
  · refine (tq_iload i_L_law_1119 rfl rfl).trans ?_
    refine (tq_sipush i_L_law_1121 rfl).trans ?_
    refine (tq_irem i_L_law_1124 ws0 w_256 (by decide) rfl).trans ?_
    refine (tq_iconst i_L_law_1125 rfl).trans ?_
    refine (tq_iload i_L_law_1126 rfl rfl).trans ?_
    refine (tq_sipush i_L_law_1128 rfl).trans ?_
    refine (tq_idiv i_L_law_1131 ws0 w_256 (by decide) rfl).trans ?_
    refine (tq_bipush i_L_law_1132 rfl).trans ?_
    refine (tq_irem i_L_law_1134 rfl w_40 (by decide) rfl).trans ?_
    refine (tq_iadd i_L_law_1135 rfl).trans ?_
    refine (tq_iload i_L_law_1136 rfl rfl).trans ?_
    refine (tq_sipush i_L_law_1138 rfl).trans ?_
    refine (tq_idiv i_L_law_1141 ws0 w_10240 (by decide) rfl).trans ?_
    refine (tq_bipush i_L_law_1142 rfl).trans ?_
    refine (tq_irem i_L_law_1144 rfl w_8 (by decide) rfl).trans ?_
    exact c_L_flatIsGood i_L_law_1145 (ltd d_L_law (by decide)) stOk_0 rfl
theorem i_L_law_1148 : am_i m_L_law 1148 = some (1148, .ifCond .eq 7, 3, [], 0) := (lk_law_10 (Nat.le_of_ble_eq_true rfl)).trans rfl
theorem i_L_law_1151 : am_i m_L_law 1151 = some (1151, .iconst 1, 1, [], 1) := (lk_law_10 (Nat.le_of_ble_eq_true rfl)).trans rfl
theorem i_L_law_1152 : am_i m_L_law 1152 = some (1152, .goto 4, 3, [], 0) := (lk_law_10 (Nat.le_of_ble_eq_true rfl)).trans rfl
theorem b_L_law_1148 {v0 v1 v2 v3 v4 v5 v6 v7 v8 v9 v10 : Value} {xs0 xs0' : Int} {h : am_H} (ws0 : wr xs0 = xs0') : rn m_L_law 1148 [v0, v1, v2, v3, v4, v5, v6, v7, v8, v9, v10] [.int (mI xs0)] h = some (.inl (some (.int (mI (bZ (¬ (xs0' = 0)))))), h) := by
  refine (tq_if_eq (pt := 1155) i_L_law_1148 ws0 (by decide) rfl).trans ?_
  refine Eq.trans (b := if xs0' = 0 then rn m_L_law 1156 [v0, v1, v2, v3, v4, v5, v6, v7, v8, v9, v10] [.int (mI 0)] h else rn m_L_law 1156 [v0, v1, v2, v3, v4, v5, v6, v7, v8, v9, v10] [.int (mI 1)] h) (ite_congr rfl (fun c1 => ?_) (fun c1 => ?_)) ?_
  · refine (tq_iconst i_L_law_1155 rfl).trans ?_
    rfl
  · refine (tq_iconst i_L_law_1151 rfl).trans ?_
    refine (tq_goto (pc' := 1156) i_L_law_1152 (by decide)).trans ?_
    rfl
  refine Eq.trans ite_b01 ?_
  exact tq_ireturn i_L_law_1156 r_L_law (okB (wr_bZ _) (bZ_01 _))
