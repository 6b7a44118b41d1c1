/-! ===== the law's small methods ===== -/
theorem cl_h {m x pc' i : Nat} (q : am_hd m x = some (pc', i)) (pc : Nat) (L st : List Value) (h : am_H) : cl m pc L st (some (.inr x, h)) = rn m pc' (am_st L i am_J) [] h := by
  simp only [cl, q]
theorem i_L_at_0 : am_i m_L_at 0 = some (0, .iload_n 1, 1, [], 0) := rfl
theorem i_L_at_1 : am_i m_L_at 1 = some (1, .aload_n 0, 1, [], 0) := rfl
theorem i_L_at_2 : am_i m_L_at 2 = some (2, .arraylength, 1, [], 0) := rfl
theorem i_L_at_3 : am_i m_L_at 3 = some (3, .if_icmp .ge 9, 3, [], 0) := rfl
theorem i_L_at_6 : am_i m_L_at 6 = some (6, .aload_n 0, 1, [], 0) := rfl
theorem i_L_at_7 : am_i m_L_at 7 = some (7, .iload_n 1, 1, [], 0) := rfl
theorem i_L_at_8 : am_i m_L_at 8 = some (8, .iaload, 1, [], 0) := rfl
theorem i_L_at_9 : am_i m_L_at 9 = some (9, .goto 4, 3, [], 0) := rfl
theorem i_L_at_12 : am_i m_L_at 12 = some (12, .iconst 0, 1, [], 0) := rfl
theorem i_L_at_13 : am_i m_L_at 13 = some (13, .ireturn, 1, [], 0) := rfl
theorem b_L_at_0 {a0 n_a0 : Nat} {x1 x1' : Int} {h : am_H} (w1 : wr x1 = x1') (n1 : gn h a0 = n_a0) (s2 : sh h a0 = (1, 7)) (g3 : (¬ ((n_a0 : Int) ≤ x1')) → (0 ≤ x1' ∧ x1' < (n_a0 : Int))) : rn m_L_at 0 [.ref a0, .int (mI x1)] [] h = some (.inl (some (.int (mI (if (n_a0 : Int) ≤ x1' then (0 : Int) else gZ h a0 x1')))), h) := by
  refine (tq_iload_n i_L_at_0 rfl rfl).trans ?_
  refine (tq_aload_n i_L_at_1 rfl (isA_ref _) rfl).trans ?_
  refine (tq_alen i_L_at_2 s2 (by decide) (by decide) rfl).trans ?_
  rw [n1]
  refine (tq_icmp_ge (pt := 12) i_L_at_3 w1 (wr_len s2 n1 (by decide) (by decide)) (by decide) rfl).trans ?_
  refine Eq.trans (b := if (n_a0 : Int) ≤ x1' then rn m_L_at 13 [.ref a0, .int (mI x1)] [.int (mI 0)] h else rn m_L_at 13 [.ref a0, .int (mI x1)] [.int (mI (gZ h a0 x1'))] h) (ite_congr rfl (fun c1 => ?_) (fun c1 => ?_)) ?_
  · refine (tq_iconst i_L_at_12 rfl).trans ?_
    rfl
  · refine (tq_aload_n i_L_at_6 rfl (isA_ref _) rfl).trans ?_
    refine (tq_iload_n i_L_at_7 rfl rfl).trans ?_
    refine (tq_iaload i_L_at_8 s2 (by decide) w1 (g3 c1).1 (lt_gn n1 (g3 c1).2) rfl).trans ?_
    refine (tq_goto (pc' := 13) i_L_at_9 (by decide)).trans ?_
    rfl
  refine Eq.trans ite_I ?_
  exact tq_ireturn i_L_at_13 r_L_at rfl
theorem i_L_some_0 : am_i m_L_some 0 = some (0, .iload_n 0, 1, [], 0) := rfl
theorem i_L_some_1 : am_i m_L_some 1 = some (1, .iload_n 1, 1, [], 0) := rfl
theorem i_L_some_2 : am_i m_L_some 2 = some (2, .irem, 1, [], 0) := rfl
theorem i_L_some_3 : am_i m_L_some 3 = some (3, .istore_n 2, 1, [], 0) := rfl
theorem i_L_some_4 : am_i m_L_some 4 = some (4, .iload_n 2, 1, [], 0) := rfl
theorem i_L_some_5 : am_i m_L_some 5 = some (5, .ifCond .ge 9, 3, [], 0) := rfl
theorem i_L_some_8 : am_i m_L_some 8 = some (8, .iload_n 2, 1, [], 0) := rfl
theorem i_L_some_9 : am_i m_L_some 9 = some (9, .iload_n 1, 1, [], 0) := rfl
theorem i_L_some_10 : am_i m_L_some 10 = some (10, .iadd, 1, [], 0) := rfl
theorem i_L_some_11 : am_i m_L_some 11 = some (11, .goto 4, 3, [], 0) := rfl
theorem i_L_some_14 : am_i m_L_some 14 = some (14, .iload_n 2, 1, [], 0) := rfl
theorem i_L_some_15 : am_i m_L_some 15 = some (15, .ireturn, 1, [], 0) := rfl
theorem b_L_some_0 {x0 x1 x0' x1' : Int} {h : am_H} (w0 : wr x0 = x0') (w1 : wr x1 = x1') (g1 : x1' ≠ 0) : rn m_L_some 0 [.int (mI x0), .int (mI x1), am_J] [] h = some (.inl (some (.int (mI (if 0 ≤ (wr (Int.tmod x0' x1')) then (Int.tmod x0' x1' : Int) else (Int.tmod x0' x1') + x1)))), h) := by
  refine (tq_iload_n i_L_some_0 rfl rfl).trans ?_
  refine (tq_iload_n i_L_some_1 rfl rfl).trans ?_
  refine (tq_irem i_L_some_2 w0 w1 g1 rfl).trans ?_
  refine (tq_istore_n (L' := [.int (mI x0), .int (mI x1), .int (mI (Int.tmod x0' x1'))]) i_L_some_3 rfl rfl).trans ?_
  refine (tq_iload_n i_L_some_4 rfl rfl).trans ?_
  refine (tq_if_ge (pt := 14) i_L_some_5 rfl (by decide) rfl).trans ?_
  refine Eq.trans (b := if 0 ≤ (wr (Int.tmod x0' x1')) then rn m_L_some 15 [.int (mI x0), .int (mI x1), .int (mI (Int.tmod x0' x1'))] [.int (mI (Int.tmod x0' x1'))] h else rn m_L_some 15 [.int (mI x0), .int (mI x1), .int (mI (Int.tmod x0' x1'))] [.int (mI ((Int.tmod x0' x1') + x1))] h) (ite_congr rfl (fun c1 => ?_) (fun c1 => ?_)) ?_
  · refine (tq_iload_n i_L_some_14 rfl rfl).trans ?_
    rfl
  · refine (tq_iload_n i_L_some_8 rfl rfl).trans ?_
    refine (tq_iload_n i_L_some_9 rfl rfl).trans ?_
    refine (tq_iadd i_L_some_10 rfl).trans ?_
    refine (tq_goto (pc' := 15) i_L_some_11 (by decide)).trans ?_
    rfl
  refine Eq.trans ite_I ?_
  exact tq_ireturn i_L_some_15 r_L_some rfl
theorem i_L_code_0 : am_i m_L_code 0 = some (0, .aload_n 0, 1, [], 0) := rfl
theorem i_L_code_1 : am_i m_L_code 1 = some (1, .iload_n 1, 1, [], 0) := rfl
theorem i_L_code_2 : am_i m_L_code 2 = some (2, .iload_n 2, 1, [], 0) := rfl
theorem i_L_code_3 : am_i m_L_code 3 = some (3, .iload_n 3, 1, [], 0) := rfl
theorem i_L_code_4 : am_i m_L_code 4 = some (4, .invokevirtual 61, 3, [142, 9], 0) := rfl
theorem b_L_code_0 {a0 : Nat} {x1 x2 x3 : Int} {h : am_H} (k1 : K9 h a0) : rn m_L_code 0 [.ref a0, .int (mI x1), .int (mI x2), .int (mI x3), am_J] [] h = cl m_L_code 7 [.ref a0, .int (mI x1), .int (mI x2), .int (mI x3), am_J] [] (rn m_X11_code 0 [.ref a0, .int (mI x1), .int (mI x2), .int (mI x3), am_J] [] h) := by
  refine (tq_aload_n i_L_code_0 rfl (isA_ref _) rfl).trans ?_
  refine (tq_iload_n i_L_code_1 rfl rfl).trans ?_
  refine (tq_iload_n i_L_code_2 rfl rfl).trans ?_
  refine (tq_iload_n i_L_code_3 rfl rfl).trans ?_
  exact c_X11_code i_L_code_4 (K9_s k1) (ltd d_L_code (by decide)) stOk_0 rfl
theorem i_L_code_7 : am_i m_L_code 7 = some (7, .ireturn, 1, [], 0) := rfl
theorem b_L_code_7 {v0 v1 v2 v3 v4 : Value} {xs0 : Int} {h : am_H} : rn m_L_code 7 [v0, v1, v2, v3, v4] [.int (mI xs0)] h = some (.inl (some (.int (mI xs0))), h) := by
  exact tq_ireturn i_L_code_7 r_L_code rfl
theorem i_L_code_10 : am_i m_L_code 10 = some (10, .sipush (-1001), 3, [], -1001) := rfl
theorem i_L_code_13 : am_i m_L_code 13 = some (13, .ireturn, 1, [], 0) := rfl
theorem b_L_code_10 {v0 v1 v2 v3 v4 : Value} {h : am_H} : rn m_L_code 10 [v0, v1, v2, v3, v4] [] h = some (.inl (some (.int (mI (-1001)))), h) := by
  refine (tq_sipush i_L_code_10 rfl).trans ?_
  exact tq_ireturn i_L_code_13 r_L_code rfl
theorem i_L_code_16 : am_i m_L_code 16 = some (16, .sipush (-1002), 3, [], -1002) := rfl
theorem i_L_code_19 : am_i m_L_code 19 = some (19, .ireturn, 1, [], 0) := rfl
theorem b_L_code_16 {v0 v1 v2 v3 v4 : Value} {h : am_H} : rn m_L_code 16 [v0, v1, v2, v3, v4] [] h = some (.inl (some (.int (mI (-1002)))), h) := by
  refine (tq_sipush i_L_code_16 rfl).trans ?_
  exact tq_ireturn i_L_code_19 r_L_code rfl
theorem i_L_code_22 : am_i m_L_code 22 = some (22, .sipush (-1003), 3, [], -1003) := rfl
theorem i_L_code_25 : am_i m_L_code 25 = some (25, .ireturn, 1, [], 0) := rfl
theorem b_L_code_22 {v0 v1 v2 v3 v4 : Value} {h : am_H} : rn m_L_code 22 [v0, v1, v2, v3, v4] [] h = some (.inl (some (.int (mI (-1003)))), h) := by
  refine (tq_sipush i_L_code_22 rfl).trans ?_
  exact tq_ireturn i_L_code_25 r_L_code rfl
theorem i_L_code_28 : am_i m_L_code 28 = some (28, .sipush (-1004), 3, [], -1004) := rfl
theorem i_L_code_31 : am_i m_L_code 31 = some (31, .ireturn, 1, [], 0) := rfl
theorem b_L_code_28 {v0 v1 v2 v3 v4 : Value} {h : am_H} : rn m_L_code 28 [v0, v1, v2, v3, v4] [] h = some (.inl (some (.int (mI (-1004)))), h) := by
  refine (tq_sipush i_L_code_28 rfl).trans ?_
  exact tq_ireturn i_L_code_31 r_L_code rfl
theorem i_L_bucket_0 : am_i m_L_bucket 0 = some (0, .aload_n 0, 1, [], 0) := rfl
theorem i_L_bucket_1 : am_i m_L_bucket 1 = some (1, .iload_n 1, 1, [], 0) := rfl
theorem i_L_bucket_2 : am_i m_L_bucket 2 = some (2, .iload_n 2, 1, [], 0) := rfl
theorem i_L_bucket_3 : am_i m_L_bucket 3 = some (3, .invokevirtual 69, 3, [116, 9], 0) := rfl
theorem b_L_bucket_0 {a0 : Nat} {x1 x2 : Int} {h : am_H} (k1 : K9 h a0) : rn m_L_bucket 0 [.ref a0, .int (mI x1), .int (mI x2), am_J] [] h = cl m_L_bucket 6 [.ref a0, .int (mI x1), .int (mI x2), am_J] [] (rn m_X11_setBucket 0 [.ref a0, .int (mI x1), .int (mI x2), am_J] [] h) := by
  refine (tq_aload_n i_L_bucket_0 rfl (isA_ref _) rfl).trans ?_
  refine (tq_iload_n i_L_bucket_1 rfl rfl).trans ?_
  refine (tq_iload_n i_L_bucket_2 rfl rfl).trans ?_
  exact c_X11_setBucket i_L_bucket_3 (K9_s k1) (ltd d_L_bucket (by decide)) stOk_0 rfl
theorem i_L_bucket_6 : am_i m_L_bucket 6 = some (6, .ireturn, 1, [], 0) := rfl
theorem b_L_bucket_6 {v0 v1 v2 v3 : Value} {xs0 : Int} {h : am_H} : rn m_L_bucket 6 [v0, v1, v2, v3] [.int (mI xs0)] h = some (.inl (some (.int (mI xs0))), h) := by
  exact tq_ireturn i_L_bucket_6 r_L_bucket rfl
theorem i_L_bucket_8 : am_i m_L_bucket 8 = some (8, .sipush (-1002), 3, [], -1002) := rfl
theorem i_L_bucket_11 : am_i m_L_bucket 11 = some (11, .ireturn, 1, [], 0) := rfl
theorem b_L_bucket_8 {v0 v1 v2 v3 : Value} {h : am_H} : rn m_L_bucket 8 [v0, v1, v2, v3] [] h = some (.inl (some (.int (mI (-1002)))), h) := by
  refine (tq_sipush i_L_bucket_8 rfl).trans ?_
  exact tq_ireturn i_L_bucket_11 r_L_bucket rfl
theorem i_L_figure_0 : am_i m_L_figure 0 = some (0, .iload_n 1, 1, [], 0) := rfl
theorem i_L_figure_1 : am_i m_L_figure 1 = some (1, .ifCond .eq 10, 3, [], 0) := rfl
theorem i_L_figure_4 : am_i m_L_figure 4 = some (4, .aload_n 0, 1, [], 0) := rfl
theorem i_L_figure_5 : am_i m_L_figure 5 = some (5, .invokevirtual 118, 3, [132, 9], 0) := rfl
theorem i_L_figure_11 : am_i m_L_figure 11 = some (11, .aload_n 0, 1, [], 0) := rfl
theorem i_L_figure_12 : am_i m_L_figure 12 = some (12, .invokevirtual 122, 3, [107, 9], 0) := rfl
theorem b_L_figure_0 {a0 : Nat} {x1 x1' : Int} {h : am_H} (w1 : wr x1 = x1') (k1 : K9 h a0) : rn m_L_figure 0 [.ref a0, .int (mI x1), am_J] [] h = if x1' = 0 then cl m_L_figure 15 [.ref a0, .int (mI x1), am_J] [] (rn m_X11_cleanShare 0 [.ref a0] [] h) else cl m_L_figure 8 [.ref a0, .int (mI x1), am_J] [] (rn m_X11_meanBits 0 [.ref a0, am_J, am_J] [] h) := by
  refine (tq_iload_n i_L_figure_0 rfl rfl).trans ?_
  refine (tq_if_eq (pt := 11) i_L_figure_1 w1 (by decide) rfl).trans ?_
  refine ite_congr rfl (fun c1 => ?_) (fun c1 => ?_)
  · refine (tq_aload_n i_L_figure_11 rfl (isA_ref _) rfl).trans ?_
    exact c_X11_cleanShare i_L_figure_12 (K9_s k1) (ltd d_L_figure (by decide)) stOk_0 rfl
  · refine (tq_aload_n i_L_figure_4 rfl (isA_ref _) rfl).trans ?_
    exact c_X11_meanBits i_L_figure_5 (K9_s k1) (ltd d_L_figure (by decide)) stOk_0 rfl
theorem i_L_figure_8 : am_i m_L_figure 8 = some (8, .goto 8, 3, [], 0) := rfl
theorem i_L_figure_16 : am_i m_L_figure 16 = some (16, .dreturn, 1, [], 0) := rfl
theorem b_L_figure_8 {v0 v1 v2 : Value} {ds0 : UInt64} {h : am_H} : rn m_L_figure 8 [v0, v1, v2] [.double ds0] h = some (.inl (some (.double ds0)), h) := by
  refine (tq_goto (pc' := 16) i_L_figure_8 (by decide)).trans ?_
  exact tq_dreturn i_L_figure_16 r_L_figure
theorem i_L_figure_15 : am_i m_L_figure 15 = some (15, .f2d, 1, [], 0) := rfl
theorem b_L_figure_15 {v0 v1 v2 : Value} {fs0 : UInt32} {h : am_H} (g1 : decide (FP.f2d fs0 &&& 0x7fffffffffffffff ≤ 0x7ff0000000000000) = true) : rn m_L_figure 15 [v0, v1, v2] [.float fs0] h = some (.inl (some (.double (FP.f2d fs0))), h) := by
  refine (tq_f2d i_L_figure_15 g1 rfl).trans ?_
  exact tq_dreturn i_L_figure_16 r_L_figure
theorem i_L_figure_18 : am_i m_L_figure 18 = some (18, .ldc2_w 128, 3, [0], 13841813454723219456) := rfl
theorem i_L_figure_21 : am_i m_L_figure 21 = some (21, .dreturn, 1, [], 0) := rfl
theorem b_L_figure_18 {v0 v1 v2 : Value} {h : am_H} : rn m_L_figure 18 [v0, v1, v2] [] h = some (.inl (some (.double (UInt64.ofNat (13841813454723219456 : Int).toNat))), h) := by
  refine (tq_ldc2d i_L_figure_18 rfl).trans ?_
  exact tq_dreturn i_L_figure_21 r_L_figure
theorem i_L_isLike_0 : am_i m_L_isLike 0 = some (0, .iconst 0, 1, [], 0) := rfl
theorem i_L_isLike_1 : am_i m_L_isLike 1 = some (1, .istore_n 2, 1, [], 0) := rfl
theorem b_L_isLike_0 {a0 a1 : Nat} {h : am_H} : rn m_L_isLike 0 [.ref a0, .ref a1, am_J] [] h = rn m_L_isLike 2 [.ref a0, .ref a1, .int (mI 0)] [] h := by
  refine (tq_iconst i_L_isLike_0 rfl).trans ?_
  refine (tq_istore_n (L' := [.ref a0, .ref a1, .int (mI 0)]) i_L_isLike_1 rfl rfl).trans ?_
  rfl
theorem i_L_isLike_2 : am_i m_L_isLike 2 = some (2, .iload_n 2, 1, [], 0) := rfl
theorem i_L_isLike_3 : am_i m_L_isLike 3 = some (3, .sipush 256, 3, [], 256) := rfl
theorem i_L_isLike_6 : am_i m_L_isLike 6 = some (6, .if_icmp .ge 32, 3, [], 0) := rfl
theorem i_L_isLike_9 : am_i m_L_isLike 9 = some (9, .aload_n 0, 1, [], 0) := rfl
theorem i_L_isLike_10 : am_i m_L_isLike 10 = some (10, .bipush 99, 2, [], 99) := rfl
theorem i_L_isLike_12 : am_i m_L_isLike 12 = some (12, .iconst 0, 1, [], 0) := rfl
theorem i_L_isLike_13 : am_i m_L_isLike 13 = some (13, .iload_n 2, 1, [], 0) := rfl
theorem i_L_isLike_14 : am_i m_L_isLike 14 = some (14, .bipush 16, 2, [], 16) := rfl
theorem i_L_isLike_16 : am_i m_L_isLike 16 = some (16, .irem, 1, [], 0) := rfl
theorem i_L_isLike_17 : am_i m_L_isLike 17 = some (17, .iload_n 2, 1, [], 0) := rfl
theorem i_L_isLike_18 : am_i m_L_isLike 18 = some (18, .bipush 16, 2, [], 16) := rfl
theorem i_L_isLike_20 : am_i m_L_isLike 20 = some (20, .idiv, 1, [], 0) := rfl
theorem i_L_isLike_21 : am_i m_L_isLike 21 = some (21, .invokestatic 137, 3, [141], 0) := rfl
theorem i_L_isLike_38 : am_i m_L_isLike 38 = some (38, .iconst 1, 1, [], 1) := rfl
theorem i_L_isLike_39 : am_i m_L_isLike 39 = some (39, .ireturn, 1, [], 0) := rfl
theorem b_L_isLike_2 {a0 a1 : Nat} {x2 x2' : Int} {h : am_H} (w2 : wr x2 = x2') : rn m_L_isLike 2 [.ref a0, .ref a1, .int (mI x2)] [] h = if 256 ≤ x2' then some (.inl (some (.int (mI 1))), h) else cl m_L_isLike 24 [.ref a0, .ref a1, .int (mI x2)] [] (rn m_L_pixel 0 [.ref a0, .int (mI 99), .int (mI 0), .int (mI (Int.tmod x2' 16)), .int (mI (Int.tdiv x2' 16)), am_J] [] h) := by
  refine (tq_iload_n i_L_isLike_2 rfl rfl).trans ?_
  refine (tq_sipush i_L_isLike_3 rfl).trans ?_
  refine (tq_icmp_ge (pt := 38) i_L_isLike_6 w2 w_256 (by decide) rfl).trans ?_
  refine ite_congr rfl (fun c1 => ?_) (fun c1 => ?_)
  · refine (tq_iconst i_L_isLike_38 rfl).trans ?_
    exact tq_ireturn i_L_isLike_39 r_L_isLike (okB w_1 (by decide))
  · refine (tq_aload_n i_L_isLike_9 rfl (isA_ref _) rfl).trans ?_
    refine (tq_bipush i_L_isLike_10 rfl).trans ?_
    refine (tq_iconst i_L_isLike_12 rfl).trans ?_
    refine (tq_iload_n i_L_isLike_13 rfl rfl).trans ?_
    refine (tq_bipush i_L_isLike_14 rfl).trans ?_
    refine (tq_irem i_L_isLike_16 w2 w_16 (by decide) rfl).trans ?_
    refine (tq_iload_n i_L_isLike_17 rfl rfl).trans ?_
    refine (tq_bipush i_L_isLike_18 rfl).trans ?_
    refine (tq_idiv i_L_isLike_20 w2 w_16 (by decide) rfl).trans ?_
    exact c_L_pixel i_L_isLike_21 (ltd d_L_isLike (by decide)) (isA_ref _) stOk_0 rfl
theorem i_L_isLike_24 : am_i m_L_isLike 24 = some (24, .aload_n 1, 1, [], 0) := rfl
theorem i_L_isLike_25 : am_i m_L_isLike 25 = some (25, .iload_n 2, 1, [], 0) := rfl
theorem i_L_isLike_26 : am_i m_L_isLike 26 = some (26, .iaload, 1, [], 0) := rfl
theorem i_L_isLike_27 : am_i m_L_isLike 27 = some (27, .if_icmp .eq 5, 3, [], 0) := rfl
theorem i_L_isLike_30 : am_i m_L_isLike 30 = some (30, .iconst 0, 1, [], 0) := rfl
theorem i_L_isLike_31 : am_i m_L_isLike 31 = some (31, .ireturn, 1, [], 0) := rfl
theorem i_L_isLike_32 : am_i m_L_isLike 32 = some (32, .iinc 2 1, 3, [], 0) := rfl
theorem i_L_isLike_35 : am_i m_L_isLike 35 = some (35, .goto (-33), 3, [], 0) := rfl
theorem b_L_isLike_24 {a0 a1 n_a1 : Nat} {x2 xs0 x2' xs0' : Int} {h : am_H} (w2 : wr x2 = x2') (ws0 : wr xs0 = xs0') (n1 : gn h a1 = n_a1) (s2 : sh h a1 = (1, 0)) (g3 : 0 ≤ x2' ∧ x2' < (n_a1 : Int)) : rn m_L_isLike 24 [.ref a0, .ref a1, .int (mI x2)] [.int (mI xs0)] h = if xs0' = (gZ h a1 x2') then rn m_L_isLike 2 [.ref a0, .ref a1, .int (mI (x2 + 1))] [] h else some (.inl (some (.int (mI 0))), h) := by
  refine (tq_aload_n i_L_isLike_24 rfl (isA_ref _) rfl).trans ?_
  refine (tq_iload_n i_L_isLike_25 rfl rfl).trans ?_
  refine (tq_iaload i_L_isLike_26 s2 (by decide) w2 g3.1 (lt_gn n1 g3.2) rfl).trans ?_
  refine (tq_icmp_eq (pt := 32) i_L_isLike_27 ws0 (wr_gZ _ _ _) (by decide) rfl).trans ?_
  refine ite_congr rfl (fun c1 => ?_) (fun c1 => ?_)
  · refine (tq_iinc (L' := [.ref a0, .ref a1, .int (mI (x2 + 1))]) i_L_isLike_32 rfl rfl rfl).trans ?_
    refine (tq_goto (pc' := 2) i_L_isLike_35 (by decide)).trans ?_
    rfl
  · refine (tq_iconst i_L_isLike_30 rfl).trans ?_
    exact tq_ireturn i_L_isLike_31 r_L_isLike (okB w_0 (by decide))
theorem i_L_pixel_0 : am_i m_L_pixel 0 = some (0, .iload_n 1, 1, [], 0) := rfl
theorem i_L_pixel_1 : am_i m_L_pixel 1 = some (1, .tableswitch 165 98 119 #[119, 103, 165, 165, 155, 165, 165, 165, 165, 165, 128, 146, 165, 165, 137, 165, 165, 165, 165, 165, 165, 111], 103, [], 0) := rfl
theorem b_L_pixel_0 {a0 : Nat} {x1 x2 x3 x4 x1' : Int} {h : am_H} (w1 : wr x1 = x1') : rn m_L_pixel 0 [.ref a0, .int (mI x1), .int (mI x2), .int (mI x3), .int (mI x4), am_J] [] h = sw x1' (fun p => rn m_L_pixel p [.ref a0, .int (mI x1), .int (mI x2), .int (mI x3), .int (mI x4), am_J] [] h) 166 98 [120, 104, 166, 166, 156, 166, 166, 166, 166, 166, 129, 147, 166, 166, 138, 166, 166, 166, 166, 166, 166, 112] := by
  refine (tq_iload_n i_L_pixel_0 rfl rfl).trans ?_
  exact tq_switch (dt := 166) (ts := [120, 104, 166, 166, 156, 166, 166, 166, 166, 166, 129, 147, 166, 166, 138, 166, 166, 166, 166, 166, 166, 112]) i_L_pixel_1 w1 (by decide) (by decide) (by decide)
theorem i_L_pixel_104 : am_i m_L_pixel 104 = some (104, .aload_n 0, 1, [], 0) := rfl
theorem i_L_pixel_105 : am_i m_L_pixel 105 = some (105, .iload_n 3, 1, [], 0) := rfl
theorem i_L_pixel_106 : am_i m_L_pixel 106 = some (106, .iload 4, 2, [], 0) := rfl
theorem i_L_pixel_108 : am_i m_L_pixel 108 = some (108, .invokevirtual 73, 3, [135, 9], 0) := rfl
theorem b_L_pixel_104 {a0 : Nat} {v1 v2 v5 : Value} {x3 x4 : Int} {h : am_H} (k1 : K9 h a0) : rn m_L_pixel 104 [.ref a0, v1, v2, .int (mI x3), .int (mI x4), v5] [] h = cl m_L_pixel 111 [.ref a0, v1, v2, .int (mI x3), .int (mI x4), v5] [] (rn m_X11_pixel 0 [.ref a0, .int (mI x3), .int (mI x4)] [] h) := by
  refine (tq_aload_n i_L_pixel_104 rfl (isA_ref _) rfl).trans ?_
  refine (tq_iload_n i_L_pixel_105 rfl rfl).trans ?_
  refine (tq_iload i_L_pixel_106 rfl rfl).trans ?_
  exact c_X11_pixel i_L_pixel_108 (K9_s k1) (ltd d_L_pixel (by decide)) stOk_0 rfl
theorem i_L_pixel_111 : am_i m_L_pixel 111 = some (111, .ireturn, 1, [], 0) := rfl
theorem b_L_pixel_111 {v0 v1 v2 v3 v4 v5 : Value} {xs0 : Int} {h : am_H} : rn m_L_pixel 111 [v0, v1, v2, v3, v4, v5] [.int (mI xs0)] h = some (.inl (some (.int (mI xs0))), h) := by
  exact tq_ireturn i_L_pixel_111 r_L_pixel rfl
theorem i_L_pixel_112 : am_i m_L_pixel 112 = some (112, .aload_n 0, 1, [], 0) := rfl
theorem i_L_pixel_113 : am_i m_L_pixel 113 = some (113, .iload_n 3, 1, [], 0) := rfl
theorem i_L_pixel_114 : am_i m_L_pixel 114 = some (114, .iload 4, 2, [], 0) := rfl
theorem i_L_pixel_116 : am_i m_L_pixel 116 = some (116, .invokevirtual 76, 3, [138, 9], 0) := rfl
theorem b_L_pixel_112 {a0 : Nat} {v1 v2 v5 : Value} {x3 x4 : Int} {h : am_H} (k1 : K9 h a0) : rn m_L_pixel 112 [.ref a0, v1, v2, .int (mI x3), .int (mI x4), v5] [] h = cl m_L_pixel 119 [.ref a0, v1, v2, .int (mI x3), .int (mI x4), v5] [] (rn m_X11_shownAt 0 [.ref a0, .int (mI x3), .int (mI x4)] [] h) := by
  refine (tq_aload_n i_L_pixel_112 rfl (isA_ref _) rfl).trans ?_
  refine (tq_iload_n i_L_pixel_113 rfl rfl).trans ?_
  refine (tq_iload i_L_pixel_114 rfl rfl).trans ?_
  exact c_X11_shownAt i_L_pixel_116 (K9_s k1) (ltd d_L_pixel (by decide)) stOk_0 rfl
theorem i_L_pixel_119 : am_i m_L_pixel 119 = some (119, .ireturn, 1, [], 0) := rfl
theorem b_L_pixel_119 {v0 v1 v2 v3 v4 v5 : Value} {xs0 : Int} {h : am_H} : rn m_L_pixel 119 [v0, v1, v2, v3, v4, v5] [.int (mI xs0)] h = some (.inl (some (.int (mI xs0))), h) := by
  exact tq_ireturn i_L_pixel_119 r_L_pixel rfl
theorem i_L_pixel_120 : am_i m_L_pixel 120 = some (120, .aload_n 0, 1, [], 0) := rfl
theorem i_L_pixel_121 : am_i m_L_pixel 121 = some (121, .iload_n 2, 1, [], 0) := rfl
theorem i_L_pixel_122 : am_i m_L_pixel 122 = some (122, .iload_n 3, 1, [], 0) := rfl
theorem i_L_pixel_123 : am_i m_L_pixel 123 = some (123, .iload 4, 2, [], 0) := rfl
theorem i_L_pixel_125 : am_i m_L_pixel 125 = some (125, .invokevirtual 79, 3, [123, 9], 0) := rfl
theorem b_L_pixel_120 {a0 : Nat} {v1 v5 : Value} {x2 x3 x4 : Int} {h : am_H} (k1 : K9 h a0) : rn m_L_pixel 120 [.ref a0, v1, .int (mI x2), .int (mI x3), .int (mI x4), v5] [] h = cl m_L_pixel 128 [.ref a0, v1, .int (mI x2), .int (mI x3), .int (mI x4), v5] [] (rn m_X11_built 0 [.ref a0, .int (mI x2), .int (mI x3), .int (mI x4), am_J] [] h) := by
  refine (tq_aload_n i_L_pixel_120 rfl (isA_ref _) rfl).trans ?_
  refine (tq_iload_n i_L_pixel_121 rfl rfl).trans ?_
  refine (tq_iload_n i_L_pixel_122 rfl rfl).trans ?_
  refine (tq_iload i_L_pixel_123 rfl rfl).trans ?_
  exact c_X11_built i_L_pixel_125 (K9_s k1) (ltd d_L_pixel (by decide)) stOk_0 rfl
theorem i_L_pixel_128 : am_i m_L_pixel 128 = some (128, .ireturn, 1, [], 0) := rfl
theorem b_L_pixel_128 {v0 v1 v2 v3 v4 v5 : Value} {xs0 : Int} {h : am_H} : rn m_L_pixel 128 [v0, v1, v2, v3, v4, v5] [.int (mI xs0)] h = some (.inl (some (.int (mI xs0))), h) := by
  exact tq_ireturn i_L_pixel_128 r_L_pixel rfl
theorem i_L_pixel_129 : am_i m_L_pixel 129 = some (129, .aload_n 0, 1, [], 0) := rfl
theorem i_L_pixel_130 : am_i m_L_pixel 130 = some (130, .iload_n 2, 1, [], 0) := rfl
theorem i_L_pixel_131 : am_i m_L_pixel 131 = some (131, .iload_n 3, 1, [], 0) := rfl
theorem i_L_pixel_132 : am_i m_L_pixel 132 = some (132, .iload 4, 2, [], 0) := rfl
theorem i_L_pixel_134 : am_i m_L_pixel 134 = some (134, .invokevirtual 83, 3, [131, 9], 0) := rfl
theorem b_L_pixel_129 {a0 : Nat} {v1 v5 : Value} {x2 x3 x4 : Int} {h : am_H} (k1 : K9 h a0) : rn m_L_pixel 129 [.ref a0, v1, .int (mI x2), .int (mI x3), .int (mI x4), v5] [] h = cl m_L_pixel 137 [.ref a0, v1, .int (mI x2), .int (mI x3), .int (mI x4), v5] [] (rn m_X11_levelAt 0 [.ref a0, .int (mI x2), .int (mI x3), .int (mI x4), am_J] [] h) := by
  refine (tq_aload_n i_L_pixel_129 rfl (isA_ref _) rfl).trans ?_
  refine (tq_iload_n i_L_pixel_130 rfl rfl).trans ?_
  refine (tq_iload_n i_L_pixel_131 rfl rfl).trans ?_
  refine (tq_iload i_L_pixel_132 rfl rfl).trans ?_
  exact c_X11_levelAt i_L_pixel_134 (K9_s k1) (ltd d_L_pixel (by decide)) stOk_0 rfl
theorem i_L_pixel_137 : am_i m_L_pixel 137 = some (137, .ireturn, 1, [], 0) := rfl
theorem b_L_pixel_137 {v0 v1 v2 v3 v4 v5 : Value} {xs0 : Int} {h : am_H} : rn m_L_pixel 137 [v0, v1, v2, v3, v4, v5] [.int (mI xs0)] h = some (.inl (some (.int (mI xs0))), h) := by
  exact tq_ireturn i_L_pixel_137 r_L_pixel rfl
theorem i_L_pixel_138 : am_i m_L_pixel 138 = some (138, .aload_n 0, 1, [], 0) := rfl
theorem i_L_pixel_139 : am_i m_L_pixel 139 = some (139, .iload_n 2, 1, [], 0) := rfl
theorem i_L_pixel_140 : am_i m_L_pixel 140 = some (140, .iload_n 3, 1, [], 0) := rfl
theorem i_L_pixel_141 : am_i m_L_pixel 141 = some (141, .iload 4, 2, [], 0) := rfl
theorem i_L_pixel_143 : am_i m_L_pixel 143 = some (143, .invokevirtual 86, 3, [134, 9], 0) := rfl
theorem b_L_pixel_138 {a0 : Nat} {v1 v5 : Value} {x2 x3 x4 : Int} {h : am_H} (k1 : K9 h a0) : rn m_L_pixel 138 [.ref a0, v1, .int (mI x2), .int (mI x3), .int (mI x4), v5] [] h = cl m_L_pixel 146 [.ref a0, v1, .int (mI x2), .int (mI x3), .int (mI x4), v5] [] (rn m_X11_partAt 0 [.ref a0, .int (mI x2), .int (mI x3), .int (mI x4), am_J] [] h) := by
  refine (tq_aload_n i_L_pixel_138 rfl (isA_ref _) rfl).trans ?_
  refine (tq_iload_n i_L_pixel_139 rfl rfl).trans ?_
  refine (tq_iload_n i_L_pixel_140 rfl rfl).trans ?_
  refine (tq_iload i_L_pixel_141 rfl rfl).trans ?_
  exact c_X11_partAt i_L_pixel_143 (K9_s k1) (ltd d_L_pixel (by decide)) stOk_0 rfl
theorem i_L_pixel_146 : am_i m_L_pixel 146 = some (146, .ireturn, 1, [], 0) := rfl
theorem b_L_pixel_146 {v0 v1 v2 v3 v4 v5 : Value} {xs0 : Int} {h : am_H} : rn m_L_pixel 146 [v0, v1, v2, v3, v4, v5] [.int (mI xs0)] h = some (.inl (some (.int (mI xs0))), h) := by
  exact tq_ireturn i_L_pixel_146 r_L_pixel rfl
theorem i_L_pixel_147 : am_i m_L_pixel 147 = some (147, .aload_n 0, 1, [], 0) := rfl
theorem i_L_pixel_148 : am_i m_L_pixel 148 = some (148, .iload_n 2, 1, [], 0) := rfl
theorem i_L_pixel_149 : am_i m_L_pixel 149 = some (149, .iload_n 3, 1, [], 0) := rfl
theorem i_L_pixel_150 : am_i m_L_pixel 150 = some (150, .iload 4, 2, [], 0) := rfl
theorem i_L_pixel_152 : am_i m_L_pixel 152 = some (152, .invokevirtual 89, 3, [133, 9], 0) := rfl
theorem b_L_pixel_147 {a0 : Nat} {v1 v5 : Value} {x2 x3 x4 : Int} {h : am_H} (k1 : K9 h a0) : rn m_L_pixel 147 [.ref a0, v1, .int (mI x2), .int (mI x3), .int (mI x4), v5] [] h = cl m_L_pixel 155 [.ref a0, v1, .int (mI x2), .int (mI x3), .int (mI x4), v5] [] (rn m_X11_modeAt 0 [.ref a0, .int (mI x2), .int (mI x3), .int (mI x4), am_J] [] h) := by
  refine (tq_aload_n i_L_pixel_147 rfl (isA_ref _) rfl).trans ?_
  refine (tq_iload_n i_L_pixel_148 rfl rfl).trans ?_
  refine (tq_iload_n i_L_pixel_149 rfl rfl).trans ?_
  refine (tq_iload i_L_pixel_150 rfl rfl).trans ?_
  exact c_X11_modeAt i_L_pixel_152 (K9_s k1) (ltd d_L_pixel (by decide)) stOk_0 rfl
theorem i_L_pixel_155 : am_i m_L_pixel 155 = some (155, .ireturn, 1, [], 0) := rfl
theorem b_L_pixel_155 {v0 v1 v2 v3 v4 v5 : Value} {xs0 : Int} {h : am_H} : rn m_L_pixel 155 [v0, v1, v2, v3, v4, v5] [.int (mI xs0)] h = some (.inl (some (.int (mI xs0))), h) := by
  exact tq_ireturn i_L_pixel_155 r_L_pixel rfl
theorem i_L_pixel_156 : am_i m_L_pixel 156 = some (156, .aload_n 0, 1, [], 0) := rfl
theorem i_L_pixel_157 : am_i m_L_pixel 157 = some (157, .iload_n 2, 1, [], 0) := rfl
theorem i_L_pixel_158 : am_i m_L_pixel 158 = some (158, .iload_n 3, 1, [], 0) := rfl
theorem i_L_pixel_159 : am_i m_L_pixel 159 = some (159, .iload 4, 2, [], 0) := rfl
theorem i_L_pixel_161 : am_i m_L_pixel 161 = some (161, .iconst 0, 1, [], 0) := rfl
theorem i_L_pixel_162 : am_i m_L_pixel 162 = some (162, .invokevirtual 92, 3, [139, 9], 0) := rfl
theorem b_L_pixel_156 {a0 : Nat} {v1 v5 : Value} {x2 x3 x4 : Int} {h : am_H} (k1 : K9 h a0) : rn m_L_pixel 156 [.ref a0, v1, .int (mI x2), .int (mI x3), .int (mI x4), v5] [] h = cl m_L_pixel 165 [.ref a0, v1, .int (mI x2), .int (mI x3), .int (mI x4), v5] [] (rn m_X11_vectorAt 0 [.ref a0, .int (mI x2), .int (mI x3), .int (mI x4), .int (mI 0), am_J, am_J] [] h) := by
  refine (tq_aload_n i_L_pixel_156 rfl (isA_ref _) rfl).trans ?_
  refine (tq_iload_n i_L_pixel_157 rfl rfl).trans ?_
  refine (tq_iload_n i_L_pixel_158 rfl rfl).trans ?_
  refine (tq_iload i_L_pixel_159 rfl rfl).trans ?_
  refine (tq_iconst i_L_pixel_161 rfl).trans ?_
  exact c_X11_vectorAt i_L_pixel_162 (K9_s k1) (ltd d_L_pixel (by decide)) stOk_0 rfl
theorem i_L_pixel_165 : am_i m_L_pixel 165 = some (165, .ireturn, 1, [], 0) := rfl
theorem b_L_pixel_165 {v0 v1 v2 v3 v4 v5 : Value} {xs0 : Int} {h : am_H} : rn m_L_pixel 165 [v0, v1, v2, v3, v4, v5] [.int (mI xs0)] h = some (.inl (some (.int (mI xs0))), h) := by
  exact tq_ireturn i_L_pixel_165 r_L_pixel rfl
theorem i_L_pixel_166 : am_i m_L_pixel 166 = some (166, .aload_n 0, 1, [], 0) := rfl
theorem i_L_pixel_167 : am_i m_L_pixel 167 = some (167, .iload_n 2, 1, [], 0) := rfl
theorem i_L_pixel_168 : am_i m_L_pixel 168 = some (168, .iload_n 3, 1, [], 0) := rfl
theorem i_L_pixel_169 : am_i m_L_pixel 169 = some (169, .iload 4, 2, [], 0) := rfl
theorem i_L_pixel_171 : am_i m_L_pixel 171 = some (171, .iconst 1, 1, [], 1) := rfl
theorem i_L_pixel_172 : am_i m_L_pixel 172 = some (172, .invokevirtual 92, 3, [139, 9], 0) := rfl
theorem b_L_pixel_166 {a0 : Nat} {v1 v5 : Value} {x2 x3 x4 : Int} {h : am_H} (k1 : K9 h a0) : rn m_L_pixel 166 [.ref a0, v1, .int (mI x2), .int (mI x3), .int (mI x4), v5] [] h = cl m_L_pixel 175 [.ref a0, v1, .int (mI x2), .int (mI x3), .int (mI x4), v5] [] (rn m_X11_vectorAt 0 [.ref a0, .int (mI x2), .int (mI x3), .int (mI x4), .int (mI 1), am_J, am_J] [] h) := by
  refine (tq_aload_n i_L_pixel_166 rfl (isA_ref _) rfl).trans ?_
  refine (tq_iload_n i_L_pixel_167 rfl rfl).trans ?_
  refine (tq_iload_n i_L_pixel_168 rfl rfl).trans ?_
  refine (tq_iload i_L_pixel_169 rfl rfl).trans ?_
  refine (tq_iconst i_L_pixel_171 rfl).trans ?_
  exact c_X11_vectorAt i_L_pixel_172 (K9_s k1) (ltd d_L_pixel (by decide)) stOk_0 rfl
theorem i_L_pixel_175 : am_i m_L_pixel 175 = some (175, .ireturn, 1, [], 0) := rfl
theorem b_L_pixel_175 {v0 v1 v2 v3 v4 v5 : Value} {xs0 : Int} {h : am_H} : rn m_L_pixel 175 [v0, v1, v2, v3, v4, v5] [.int (mI xs0)] h = some (.inl (some (.int (mI xs0))), h) := by
  exact tq_ireturn i_L_pixel_175 r_L_pixel rfl
theorem i_L_pixel_178 : am_i m_L_pixel 178 = some (178, .ldc 96, 2, [], -100001) := rfl
theorem i_L_pixel_180 : am_i m_L_pixel 180 = some (180, .ireturn, 1, [], 0) := rfl
theorem b_L_pixel_178 {v0 v1 v2 v3 v4 v5 : Value} {h : am_H} : rn m_L_pixel 178 [v0, v1, v2, v3, v4, v5] [] h = some (.inl (some (.int (mI (-100001)))), h) := by
  refine (tq_ldc i_L_pixel_178 rfl).trans ?_
  exact tq_ireturn i_L_pixel_180 r_L_pixel rfl
theorem i_L_pixel_183 : am_i m_L_pixel 183 = some (183, .ldc 97, 2, [], -100005) := rfl
theorem i_L_pixel_185 : am_i m_L_pixel 185 = some (185, .ireturn, 1, [], 0) := rfl
theorem b_L_pixel_183 {v0 v1 v2 v3 v4 v5 : Value} {h : am_H} : rn m_L_pixel 183 [v0, v1, v2, v3, v4, v5] [] h = some (.inl (some (.int (mI (-100005)))), h) := by
  refine (tq_ldc i_L_pixel_183 rfl).trans ?_
  exact tq_ireturn i_L_pixel_185 r_L_pixel rfl
theorem i_L_paint_0 : am_i m_L_paint 0 = some (0, .iload_n 1, 1, [], 0) := rfl
theorem i_L_paint_1 : am_i m_L_paint 1 = some (1, .lookupswitch 80 #[(102, 35), (103, 69), (115, 55)], 35, [], 0) := rfl
theorem b_L_paint_0 {a0 a2 : Nat} {x1 x1' : Int} {h : am_H} (w1 : wr x1 = x1') : rn m_L_paint 0 [.ref a0, .int (mI x1), .ref a2, am_J] [] h = lks x1' (fun p => rn m_L_paint p [.ref a0, .int (mI x1), .ref a2, am_J] [] h) 81 [(102, 36), (103, 70), (115, 56)] := by
  refine (tq_iload_n i_L_paint_0 rfl rfl).trans ?_
  exact tq_lookup (dt := 81) (ts := [(102, 36), (103, 70), (115, 56)]) i_L_paint_1 w1 (by decide) (by decide) (by decide)
theorem i_L_paint_36 : am_i m_L_paint 36 = some (36, .aload_n 0, 1, [], 0) := rfl
theorem i_L_paint_37 : am_i m_L_paint 37 = some (37, .aload_n 2, 1, [], 0) := rfl
theorem i_L_paint_38 : am_i m_L_paint 38 = some (38, .iconst 0, 1, [], 0) := rfl
theorem i_L_paint_39 : am_i m_L_paint 39 = some (39, .iaload, 1, [], 0) := rfl
theorem i_L_paint_40 : am_i m_L_paint 40 = some (40, .aload_n 2, 1, [], 0) := rfl
theorem i_L_paint_41 : am_i m_L_paint 41 = some (41, .iconst 1, 1, [], 1) := rfl
theorem i_L_paint_42 : am_i m_L_paint 42 = some (42, .iaload, 1, [], 0) := rfl
theorem i_L_paint_43 : am_i m_L_paint 43 = some (43, .aload_n 2, 1, [], 0) := rfl
theorem i_L_paint_44 : am_i m_L_paint 44 = some (44, .iconst 2, 1, [], 2) := rfl
theorem i_L_paint_45 : am_i m_L_paint 45 = some (45, .iaload, 1, [], 0) := rfl
theorem i_L_paint_46 : am_i m_L_paint 46 = some (46, .aload_n 2, 1, [], 0) := rfl
theorem i_L_paint_47 : am_i m_L_paint 47 = some (47, .iconst 3, 1, [], 3) := rfl
theorem i_L_paint_48 : am_i m_L_paint 48 = some (48, .iaload, 1, [], 0) := rfl
theorem i_L_paint_49 : am_i m_L_paint 49 = some (49, .aload_n 2, 1, [], 0) := rfl
theorem i_L_paint_50 : am_i m_L_paint 50 = some (50, .iconst 4, 1, [], 4) := rfl
theorem i_L_paint_51 : am_i m_L_paint 51 = some (51, .iaload, 1, [], 0) := rfl
theorem i_L_paint_52 : am_i m_L_paint 52 = some (52, .invokevirtual 104, 3, [108, 9], 0) := rfl
theorem b_L_paint_36 {a0 a2 n_a2 : Nat} {v1 v3 : Value} {h : am_H} (n1 : gn h a2 = n_a2) (s2 : sh h a2 = (1, 0)) (g3 : (0 : Int) ≤ 0 ∧ 0 < (n_a2 : Int)) (g4 : (0 : Int) ≤ 1 ∧ 1 < (n_a2 : Int)) (g5 : (0 : Int) ≤ 2 ∧ 2 < (n_a2 : Int)) (g6 : (0 : Int) ≤ 3 ∧ 3 < (n_a2 : Int)) (g7 : (0 : Int) ≤ 4 ∧ 4 < (n_a2 : Int)) (k8 : K9 h a0) : rn m_L_paint 36 [.ref a0, v1, .ref a2, v3] [] h = cl m_L_paint 55 [.ref a0, v1, .ref a2, v3] [] (rn m_X11_fill 0 [.ref a0, .int (mI (gZ h a2 0)), .int (mI (gZ h a2 1)), .int (mI (gZ h a2 2)), .int (mI (gZ h a2 3)), .int (mI (gZ h a2 4)), am_J, am_J, am_J, am_J] [] h) := by
  refine (tq_aload_n i_L_paint_36 rfl (isA_ref _) rfl).trans ?_
  refine (tq_aload_n i_L_paint_37 rfl (isA_ref _) rfl).trans ?_
  refine (tq_iconst i_L_paint_38 rfl).trans ?_
  refine (tq_iaload i_L_paint_39 s2 (by decide) w_0 g3.1 (lt_gn n1 g3.2) rfl).trans ?_
  refine (tq_aload_n i_L_paint_40 rfl (isA_ref _) rfl).trans ?_
  refine (tq_iconst i_L_paint_41 rfl).trans ?_
  refine (tq_iaload i_L_paint_42 s2 (by decide) w_1 g4.1 (lt_gn n1 g4.2) rfl).trans ?_
  refine (tq_aload_n i_L_paint_43 rfl (isA_ref _) rfl).trans ?_
  refine (tq_iconst i_L_paint_44 rfl).trans ?_
  refine (tq_iaload i_L_paint_45 s2 (by decide) w_2 g5.1 (lt_gn n1 g5.2) rfl).trans ?_
  refine (tq_aload_n i_L_paint_46 rfl (isA_ref _) rfl).trans ?_
  refine (tq_iconst i_L_paint_47 rfl).trans ?_
  refine (tq_iaload i_L_paint_48 s2 (by decide) w_3 g6.1 (lt_gn n1 g6.2) rfl).trans ?_
  refine (tq_aload_n i_L_paint_49 rfl (isA_ref _) rfl).trans ?_
  refine (tq_iconst i_L_paint_50 rfl).trans ?_
  refine (tq_iaload i_L_paint_51 s2 (by decide) w_4 g7.1 (lt_gn n1 g7.2) rfl).trans ?_
  exact c_X11_fill i_L_paint_52 (K9_s k8) (ltd d_L_paint (by decide)) stOk_0 rfl
theorem i_L_paint_55 : am_i m_L_paint 55 = some (55, .ireturn, 1, [], 0) := rfl
theorem b_L_paint_55 {v0 v1 v2 v3 : Value} {xs0 : Int} {h : am_H} : rn m_L_paint 55 [v0, v1, v2, v3] [.int (mI xs0)] h = some (.inl (some (.int (mI xs0))), h) := by
  exact tq_ireturn i_L_paint_55 r_L_paint rfl
theorem i_L_paint_56 : am_i m_L_paint 56 = some (56, .aload_n 0, 1, [], 0) := rfl
theorem i_L_paint_57 : am_i m_L_paint 57 = some (57, .aload_n 2, 1, [], 0) := rfl
theorem i_L_paint_58 : am_i m_L_paint 58 = some (58, .iconst 0, 1, [], 0) := rfl
theorem i_L_paint_59 : am_i m_L_paint 59 = some (59, .iaload, 1, [], 0) := rfl
theorem i_L_paint_60 : am_i m_L_paint 60 = some (60, .aload_n 2, 1, [], 0) := rfl
theorem i_L_paint_61 : am_i m_L_paint 61 = some (61, .iconst 1, 1, [], 1) := rfl
theorem i_L_paint_62 : am_i m_L_paint 62 = some (62, .iaload, 1, [], 0) := rfl
theorem i_L_paint_63 : am_i m_L_paint 63 = some (63, .aload_n 2, 1, [], 0) := rfl
theorem i_L_paint_64 : am_i m_L_paint 64 = some (64, .iconst 2, 1, [], 2) := rfl
theorem i_L_paint_65 : am_i m_L_paint 65 = some (65, .iaload, 1, [], 0) := rfl
theorem i_L_paint_66 : am_i m_L_paint 66 = some (66, .invokevirtual 108, 3, [120, 9], 0) := rfl
theorem b_L_paint_56 {a0 a2 n_a2 : Nat} {v1 v3 : Value} {h : am_H} (n1 : gn h a2 = n_a2) (s2 : sh h a2 = (1, 0)) (g3 : (0 : Int) ≤ 0 ∧ 0 < (n_a2 : Int)) (g4 : (0 : Int) ≤ 1 ∧ 1 < (n_a2 : Int)) (g5 : (0 : Int) ≤ 2 ∧ 2 < (n_a2 : Int)) (k6 : K9 h a0) : rn m_L_paint 56 [.ref a0, v1, .ref a2, v3] [] h = cl m_L_paint 69 [.ref a0, v1, .ref a2, v3] [] (rn m_X11_slope 0 [.ref a0, .int (mI (gZ h a2 0)), .int (mI (gZ h a2 1)), .int (mI (gZ h a2 2)), am_J, am_J] [] h) := by
  refine (tq_aload_n i_L_paint_56 rfl (isA_ref _) rfl).trans ?_
  refine (tq_aload_n i_L_paint_57 rfl (isA_ref _) rfl).trans ?_
  refine (tq_iconst i_L_paint_58 rfl).trans ?_
  refine (tq_iaload i_L_paint_59 s2 (by decide) w_0 g3.1 (lt_gn n1 g3.2) rfl).trans ?_
  refine (tq_aload_n i_L_paint_60 rfl (isA_ref _) rfl).trans ?_
  refine (tq_iconst i_L_paint_61 rfl).trans ?_
  refine (tq_iaload i_L_paint_62 s2 (by decide) w_1 g4.1 (lt_gn n1 g4.2) rfl).trans ?_
  refine (tq_aload_n i_L_paint_63 rfl (isA_ref _) rfl).trans ?_
  refine (tq_iconst i_L_paint_64 rfl).trans ?_
  refine (tq_iaload i_L_paint_65 s2 (by decide) w_2 g5.1 (lt_gn n1 g5.2) rfl).trans ?_
  exact c_X11_slope i_L_paint_66 (K9_s k6) (ltd d_L_paint (by decide)) stOk_0 rfl
theorem i_L_paint_69 : am_i m_L_paint 69 = some (69, .ireturn, 1, [], 0) := rfl
theorem b_L_paint_69 {v0 v1 v2 v3 : Value} {xs0 : Int} {h : am_H} : rn m_L_paint 69 [v0, v1, v2, v3] [.int (mI xs0)] h = some (.inl (some (.int (mI xs0))), h) := by
  exact tq_ireturn i_L_paint_69 r_L_paint rfl
theorem i_L_paint_70 : am_i m_L_paint 70 = some (70, .aload_n 0, 1, [], 0) := rfl
theorem i_L_paint_71 : am_i m_L_paint 71 = some (71, .aload_n 2, 1, [], 0) := rfl
theorem i_L_paint_72 : am_i m_L_paint 72 = some (72, .iconst 0, 1, [], 0) := rfl
theorem i_L_paint_73 : am_i m_L_paint 73 = some (73, .iaload, 1, [], 0) := rfl
theorem i_L_paint_74 : am_i m_L_paint 74 = some (74, .aload_n 2, 1, [], 0) := rfl
theorem i_L_paint_75 : am_i m_L_paint 75 = some (75, .iconst 1, 1, [], 1) := rfl
theorem i_L_paint_76 : am_i m_L_paint 76 = some (76, .iaload, 1, [], 0) := rfl
theorem i_L_paint_77 : am_i m_L_paint 77 = some (77, .invokevirtual 111, 3, [109, 9], 0) := rfl
theorem b_L_paint_70 {a0 a2 n_a2 : Nat} {v1 v3 : Value} {h : am_H} (n1 : gn h a2 = n_a2) (s2 : sh h a2 = (1, 0)) (g3 : (0 : Int) ≤ 0 ∧ 0 < (n_a2 : Int)) (g4 : (0 : Int) ≤ 1 ∧ 1 < (n_a2 : Int)) (k5 : K9 h a0) : rn m_L_paint 70 [.ref a0, v1, .ref a2, v3] [] h = cl m_L_paint 80 [.ref a0, v1, .ref a2, v3] [] (rn m_X11_grain 0 [.ref a0, .int (mI (gZ h a2 0)), .int (mI (gZ h a2 1)), am_J, am_J, am_J] [] h) := by
  refine (tq_aload_n i_L_paint_70 rfl (isA_ref _) rfl).trans ?_
  refine (tq_aload_n i_L_paint_71 rfl (isA_ref _) rfl).trans ?_
  refine (tq_iconst i_L_paint_72 rfl).trans ?_
  refine (tq_iaload i_L_paint_73 s2 (by decide) w_0 g3.1 (lt_gn n1 g3.2) rfl).trans ?_
  refine (tq_aload_n i_L_paint_74 rfl (isA_ref _) rfl).trans ?_
  refine (tq_iconst i_L_paint_75 rfl).trans ?_
  refine (tq_iaload i_L_paint_76 s2 (by decide) w_1 g4.1 (lt_gn n1 g4.2) rfl).trans ?_
  exact c_X11_grain i_L_paint_77 (K9_s k5) (ltd d_L_paint (by decide)) stOk_0 rfl
theorem i_L_paint_80 : am_i m_L_paint 80 = some (80, .ireturn, 1, [], 0) := rfl
theorem b_L_paint_80 {v0 v1 v2 v3 : Value} {xs0 : Int} {h : am_H} : rn m_L_paint 80 [v0, v1, v2, v3] [.int (mI xs0)] h = some (.inl (some (.int (mI xs0))), h) := by
  exact tq_ireturn i_L_paint_80 r_L_paint rfl
theorem i_L_paint_81 : am_i m_L_paint 81 = some (81, .aload_n 0, 1, [], 0) := rfl
theorem i_L_paint_82 : am_i m_L_paint 82 = some (82, .aload_n 2, 1, [], 0) := rfl
theorem i_L_paint_83 : am_i m_L_paint 83 = some (83, .iconst 0, 1, [], 0) := rfl
theorem i_L_paint_84 : am_i m_L_paint 84 = some (84, .iaload, 1, [], 0) := rfl
theorem i_L_paint_85 : am_i m_L_paint 85 = some (85, .aload_n 2, 1, [], 0) := rfl
theorem i_L_paint_86 : am_i m_L_paint 86 = some (86, .iconst 1, 1, [], 1) := rfl
theorem i_L_paint_87 : am_i m_L_paint 87 = some (87, .iaload, 1, [], 0) := rfl
theorem i_L_paint_88 : am_i m_L_paint 88 = some (88, .invokevirtual 114, 3, [112, 9], 0) := rfl
theorem b_L_paint_81 {a0 a2 n_a2 : Nat} {v1 v3 : Value} {h : am_H} (n1 : gn h a2 = n_a2) (s2 : sh h a2 = (1, 0)) (g3 : (0 : Int) ≤ 0 ∧ 0 < (n_a2 : Int)) (g4 : (0 : Int) ≤ 1 ∧ 1 < (n_a2 : Int)) (k5 : K9 h a0) : rn m_L_paint 81 [.ref a0, v1, .ref a2, v3] [] h = cl m_L_paint 91 [.ref a0, v1, .ref a2, v3] [] (rn m_X11_move 0 [.ref a0, .int (mI (gZ h a2 0)), .int (mI (gZ h a2 1)), am_J, am_J, am_J] [] h) := by
  refine (tq_aload_n i_L_paint_81 rfl (isA_ref _) rfl).trans ?_
  refine (tq_aload_n i_L_paint_82 rfl (isA_ref _) rfl).trans ?_
  refine (tq_iconst i_L_paint_83 rfl).trans ?_
  refine (tq_iaload i_L_paint_84 s2 (by decide) w_0 g3.1 (lt_gn n1 g3.2) rfl).trans ?_
  refine (tq_aload_n i_L_paint_85 rfl (isA_ref _) rfl).trans ?_
  refine (tq_iconst i_L_paint_86 rfl).trans ?_
  refine (tq_iaload i_L_paint_87 s2 (by decide) w_1 g4.1 (lt_gn n1 g4.2) rfl).trans ?_
  exact c_X11_move i_L_paint_88 (K9_s k5) (ltd d_L_paint (by decide)) stOk_0 rfl
theorem i_L_paint_91 : am_i m_L_paint 91 = some (91, .ireturn, 1, [], 0) := rfl
theorem b_L_paint_91 {v0 v1 v2 v3 : Value} {xs0 : Int} {h : am_H} : rn m_L_paint 91 [v0, v1, v2, v3] [.int (mI xs0)] h = some (.inl (some (.int (mI xs0))), h) := by
  exact tq_ireturn i_L_paint_91 r_L_paint rfl
theorem i_L_paint_93 : am_i m_L_paint 93 = some (93, .ldc 117, 2, [], -2147000002) := rfl
theorem i_L_paint_95 : am_i m_L_paint 95 = some (95, .ireturn, 1, [], 0) := rfl
theorem b_L_paint_93 {v0 v1 v2 v3 : Value} {h : am_H} : rn m_L_paint 93 [v0, v1, v2, v3] [] h = some (.inl (some (.int (mI (-2147000002)))), h) := by
  refine (tq_ldc i_L_paint_93 rfl).trans ?_
  exact tq_ireturn i_L_paint_95 r_L_paint rfl
theorem i_L_ask_0 : am_i m_L_ask 0 = some (0, .iload_n 1, 1, [], 0) := rfl
theorem i_L_ask_1 : am_i m_L_ask 1 = some (1, .tableswitch 181 99 119 #[141, 123, 181, 163, 181, 147, 135, 117, 129, 168, 153, 181, 181, 181, 99, 181, 111, 105, 181, 181, 158], 99, [], 0) := rfl
theorem b_L_ask_0 {a0 : Nat} {x1 x2 x1' : Int} {h : am_H} (w1 : wr x1 = x1') : rn m_L_ask 0 [.ref a0, .int (mI x1), .int (mI x2), am_J] [] h = sw x1' (fun p => rn m_L_ask p [.ref a0, .int (mI x1), .int (mI x2), am_J] [] h) 182 99 [142, 124, 182, 164, 182, 148, 136, 118, 130, 169, 154, 182, 182, 182, 100, 182, 112, 106, 182, 182, 159] := by
  refine (tq_iload_n i_L_ask_0 rfl rfl).trans ?_
  exact tq_switch (dt := 182) (ts := [142, 124, 182, 164, 182, 148, 136, 118, 130, 169, 154, 182, 182, 182, 100, 182, 112, 106, 182, 182, 159]) i_L_ask_1 w1 (by decide) (by decide) (by decide)
theorem i_L_ask_100 : am_i m_L_ask 100 = some (100, .aload_n 0, 1, [], 0) := rfl
theorem i_L_ask_101 : am_i m_L_ask 101 = some (101, .iload_n 2, 1, [], 0) := rfl
theorem i_L_ask_102 : am_i m_L_ask 102 = some (102, .invokevirtual 7, 3, [117, 9], 0) := rfl
theorem b_L_ask_100 {a0 : Nat} {v1 v3 : Value} {x2 : Int} {h : am_H} (k1 : K9 h a0) : rn m_L_ask 100 [.ref a0, v1, .int (mI x2), v3] [] h = cl m_L_ask 105 [.ref a0, v1, .int (mI x2), v3] [] (rn m_X11_setCoarseness 0 [.ref a0, .int (mI x2), am_J] [] h) := by
  refine (tq_aload_n i_L_ask_100 rfl (isA_ref _) rfl).trans ?_
  refine (tq_iload_n i_L_ask_101 rfl rfl).trans ?_
  exact c_X11_setCoarseness i_L_ask_102 (K9_s k1) (ltd d_L_ask (by decide)) stOk_0 rfl
theorem i_L_ask_105 : am_i m_L_ask 105 = some (105, .ireturn, 1, [], 0) := rfl
theorem b_L_ask_105 {v0 v1 v2 v3 : Value} {xs0 : Int} {h : am_H} : rn m_L_ask 105 [v0, v1, v2, v3] [.int (mI xs0)] h = some (.inl (some (.int (mI xs0))), h) := by
  exact tq_ireturn i_L_ask_105 r_L_ask rfl
theorem i_L_ask_106 : am_i m_L_ask 106 = some (106, .aload_n 0, 1, [], 0) := rfl
theorem i_L_ask_107 : am_i m_L_ask 107 = some (107, .iload_n 2, 1, [], 0) := rfl
theorem i_L_ask_108 : am_i m_L_ask 108 = some (108, .invokevirtual 13, 3, [119, 9], 0) := rfl
theorem b_L_ask_106 {a0 : Nat} {v1 v3 : Value} {x2 : Int} {h : am_H} (k1 : K9 h a0) : rn m_L_ask 106 [.ref a0, v1, .int (mI x2), v3] [] h = cl m_L_ask 111 [.ref a0, v1, .int (mI x2), v3] [] (rn m_X11_setTools 0 [.ref a0, .int (mI x2), am_J] [] h) := by
  refine (tq_aload_n i_L_ask_106 rfl (isA_ref _) rfl).trans ?_
  refine (tq_iload_n i_L_ask_107 rfl rfl).trans ?_
  exact c_X11_setTools i_L_ask_108 (K9_s k1) (ltd d_L_ask (by decide)) stOk_0 rfl
theorem i_L_ask_111 : am_i m_L_ask 111 = some (111, .ireturn, 1, [], 0) := rfl
theorem b_L_ask_111 {v0 v1 v2 v3 : Value} {xs0 : Int} {h : am_H} : rn m_L_ask 111 [v0, v1, v2, v3] [.int (mI xs0)] h = some (.inl (some (.int (mI xs0))), h) := by
  exact tq_ireturn i_L_ask_111 r_L_ask rfl
theorem i_L_ask_112 : am_i m_L_ask 112 = some (112, .aload_n 0, 1, [], 0) := rfl
theorem i_L_ask_113 : am_i m_L_ask 113 = some (113, .iload_n 2, 1, [], 0) := rfl
theorem i_L_ask_114 : am_i m_L_ask 114 = some (114, .invokevirtual 16, 3, [118, 9], 0) := rfl
theorem b_L_ask_112 {a0 : Nat} {v1 v3 : Value} {x2 : Int} {h : am_H} (k1 : K9 h a0) : rn m_L_ask 112 [.ref a0, v1, .int (mI x2), v3] [] h = cl m_L_ask 117 [.ref a0, v1, .int (mI x2), v3] [] (rn m_X11_setSlices 0 [.ref a0, .int (mI x2), am_J] [] h) := by
  refine (tq_aload_n i_L_ask_112 rfl (isA_ref _) rfl).trans ?_
  refine (tq_iload_n i_L_ask_113 rfl rfl).trans ?_
  exact c_X11_setSlices i_L_ask_114 (K9_s k1) (ltd d_L_ask (by decide)) stOk_0 rfl
theorem i_L_ask_117 : am_i m_L_ask 117 = some (117, .ireturn, 1, [], 0) := rfl
theorem b_L_ask_117 {v0 v1 v2 v3 : Value} {xs0 : Int} {h : am_H} : rn m_L_ask 117 [v0, v1, v2, v3] [.int (mI xs0)] h = some (.inl (some (.int (mI xs0))), h) := by
  exact tq_ireturn i_L_ask_117 r_L_ask rfl
theorem i_L_ask_118 : am_i m_L_ask 118 = some (118, .aload_n 0, 1, [], 0) := rfl
theorem i_L_ask_119 : am_i m_L_ask 119 = some (119, .iload_n 2, 1, [], 0) := rfl
theorem i_L_ask_120 : am_i m_L_ask 120 = some (120, .invokevirtual 19, 3, [110, 9], 0) := rfl
theorem b_L_ask_118 {a0 : Nat} {v1 v3 : Value} {x2 : Int} {h : am_H} (k1 : K9 h a0) : rn m_L_ask 118 [.ref a0, v1, .int (mI x2), v3] [] h = cl m_L_ask 123 [.ref a0, v1, .int (mI x2), v3] [] (rn m_X11_join 0 [.ref a0, .int (mI x2), am_J] [] h) := by
  refine (tq_aload_n i_L_ask_118 rfl (isA_ref _) rfl).trans ?_
  refine (tq_iload_n i_L_ask_119 rfl rfl).trans ?_
  exact c_X11_join i_L_ask_120 (K9_s k1) (ltd d_L_ask (by decide)) stOk_0 rfl
theorem i_L_ask_123 : am_i m_L_ask 123 = some (123, .ireturn, 1, [], 0) := rfl
theorem b_L_ask_123 {v0 v1 v2 v3 : Value} {xs0 : Int} {h : am_H} : rn m_L_ask 123 [v0, v1, v2, v3] [.int (mI xs0)] h = some (.inl (some (.int (mI xs0))), h) := by
  exact tq_ireturn i_L_ask_123 r_L_ask rfl
theorem i_L_ask_124 : am_i m_L_ask 124 = some (124, .aload_n 0, 1, [], 0) := rfl
theorem i_L_ask_125 : am_i m_L_ask 125 = some (125, .iload_n 2, 1, [], 0) := rfl
theorem i_L_ask_126 : am_i m_L_ask 126 = some (126, .invokevirtual 22, 3, [136, 9], 0) := rfl
theorem b_L_ask_124 {a0 : Nat} {v1 v3 : Value} {x2 : Int} {h : am_H} (k1 : K9 h a0) : rn m_L_ask 124 [.ref a0, v1, .int (mI x2), v3] [] h = cl m_L_ask 129 [.ref a0, v1, .int (mI x2), v3] [] (rn m_X11_send 0 [.ref a0, .int (mI x2), am_J] [] h) := by
  refine (tq_aload_n i_L_ask_124 rfl (isA_ref _) rfl).trans ?_
  refine (tq_iload_n i_L_ask_125 rfl rfl).trans ?_
  exact c_X11_send i_L_ask_126 (K9_s k1) (ltd d_L_ask (by decide)) stOk_0 rfl
theorem i_L_ask_129 : am_i m_L_ask 129 = some (129, .ireturn, 1, [], 0) := rfl
theorem b_L_ask_129 {v0 v1 v2 v3 : Value} {xs0 : Int} {h : am_H} : rn m_L_ask 129 [v0, v1, v2, v3] [.int (mI xs0)] h = some (.inl (some (.int (mI xs0))), h) := by
  exact tq_ireturn i_L_ask_129 r_L_ask rfl
theorem i_L_ask_130 : am_i m_L_ask 130 = some (130, .aload_n 0, 1, [], 0) := rfl
theorem i_L_ask_131 : am_i m_L_ask 131 = some (131, .iload_n 2, 1, [], 0) := rfl
theorem i_L_ask_132 : am_i m_L_ask 132 = some (132, .invokevirtual 26, 3, [111, 9], 0) := rfl
theorem b_L_ask_130 {a0 : Nat} {v1 v3 : Value} {x2 : Int} {h : am_H} (k1 : K9 h a0) : rn m_L_ask 130 [.ref a0, v1, .int (mI x2), v3] [] h = cl m_L_ask 135 [.ref a0, v1, .int (mI x2), v3] [] (rn m_X11_keptAt 0 [.ref a0, .int (mI x2)] [] h) := by
  refine (tq_aload_n i_L_ask_130 rfl (isA_ref _) rfl).trans ?_
  refine (tq_iload_n i_L_ask_131 rfl rfl).trans ?_
  exact c_X11_keptAt i_L_ask_132 (K9_s k1) (ltd d_L_ask (by decide)) stOk_0 rfl
theorem i_L_ask_135 : am_i m_L_ask 135 = some (135, .ireturn, 1, [], 0) := rfl
theorem b_L_ask_135 {v0 v1 v2 v3 : Value} {xs0 : Int} {h : am_H} : rn m_L_ask 135 [v0, v1, v2, v3] [.int (mI xs0)] h = some (.inl (some (.int (mI xs0))), h) := by
  exact tq_ireturn i_L_ask_135 r_L_ask rfl
theorem i_L_ask_136 : am_i m_L_ask 136 = some (136, .aload_n 0, 1, [], 0) := rfl
theorem i_L_ask_137 : am_i m_L_ask 137 = some (137, .iload_n 2, 1, [], 0) := rfl
theorem i_L_ask_138 : am_i m_L_ask 138 = some (138, .invokevirtual 29, 3, [130, 9], 0) := rfl
theorem b_L_ask_136 {a0 : Nat} {v1 v3 : Value} {x2 : Int} {h : am_H} (k1 : K9 h a0) : rn m_L_ask 136 [.ref a0, v1, .int (mI x2), v3] [] h = cl m_L_ask 141 [.ref a0, v1, .int (mI x2), v3] [] (rn m_X11_kindOf 0 [.ref a0, .int (mI x2)] [] h) := by
  refine (tq_aload_n i_L_ask_136 rfl (isA_ref _) rfl).trans ?_
  refine (tq_iload_n i_L_ask_137 rfl rfl).trans ?_
  exact c_X11_kindOf i_L_ask_138 (K9_s k1) (ltd d_L_ask (by decide)) stOk_0 rfl
theorem i_L_ask_141 : am_i m_L_ask 141 = some (141, .ireturn, 1, [], 0) := rfl
theorem b_L_ask_141 {v0 v1 v2 v3 : Value} {xs0 : Int} {h : am_H} : rn m_L_ask 141 [v0, v1, v2, v3] [.int (mI xs0)] h = some (.inl (some (.int (mI xs0))), h) := by
  exact tq_ireturn i_L_ask_141 r_L_ask rfl
theorem i_L_ask_142 : am_i m_L_ask 142 = some (142, .aload_n 0, 1, [], 0) := rfl
theorem i_L_ask_143 : am_i m_L_ask 143 = some (143, .iload_n 2, 1, [], 0) := rfl
theorem i_L_ask_144 : am_i m_L_ask 144 = some (144, .invokevirtual 32, 3, [124, 9], 0) := rfl
theorem b_L_ask_142 {a0 : Nat} {v1 v3 : Value} {x2 : Int} {h : am_H} (k1 : K9 h a0) : rn m_L_ask 142 [.ref a0, v1, .int (mI x2), v3] [] h = cl m_L_ask 147 [.ref a0, v1, .int (mI x2), v3] [] (rn m_X11_coarsenessOf 0 [.ref a0, .int (mI x2)] [] h) := by
  refine (tq_aload_n i_L_ask_142 rfl (isA_ref _) rfl).trans ?_
  refine (tq_iload_n i_L_ask_143 rfl rfl).trans ?_
  exact c_X11_coarsenessOf i_L_ask_144 (K9_s k1) (ltd d_L_ask (by decide)) stOk_0 rfl
theorem i_L_ask_147 : am_i m_L_ask 147 = some (147, .ireturn, 1, [], 0) := rfl
theorem b_L_ask_147 {v0 v1 v2 v3 : Value} {xs0 : Int} {h : am_H} : rn m_L_ask 147 [v0, v1, v2, v3] [.int (mI xs0)] h = some (.inl (some (.int (mI xs0))), h) := by
  exact tq_ireturn i_L_ask_147 r_L_ask rfl
theorem i_L_ask_148 : am_i m_L_ask 148 = some (148, .aload_n 0, 1, [], 0) := rfl
theorem i_L_ask_149 : am_i m_L_ask 149 = some (149, .iload_n 2, 1, [], 0) := rfl
theorem i_L_ask_150 : am_i m_L_ask 150 = some (150, .invokevirtual 35, 3, [143, 9], 0) := rfl
theorem b_L_ask_148 {a0 : Nat} {v1 v3 : Value} {x2 : Int} {h : am_H} (k1 : K9 h a0) : rn m_L_ask 148 [.ref a0, v1, .int (mI x2), v3] [] h = cl m_L_ask 153 [.ref a0, v1, .int (mI x2), v3] [] (rn m_X11_heaviest 0 [.ref a0, .int (mI x2), am_J, am_J] [] h) := by
  refine (tq_aload_n i_L_ask_148 rfl (isA_ref _) rfl).trans ?_
  refine (tq_iload_n i_L_ask_149 rfl rfl).trans ?_
  exact c_X11_heaviest i_L_ask_150 (K9_s k1) (ltd d_L_ask (by decide)) stOk_0 rfl
theorem i_L_ask_153 : am_i m_L_ask 153 = some (153, .ireturn, 1, [], 0) := rfl
theorem b_L_ask_153 {v0 v1 v2 v3 : Value} {xs0 : Int} {h : am_H} : rn m_L_ask 153 [v0, v1, v2, v3] [.int (mI xs0)] h = some (.inl (some (.int (mI xs0))), h) := by
  exact tq_ireturn i_L_ask_153 r_L_ask rfl
theorem i_L_ask_154 : am_i m_L_ask 154 = some (154, .aload_n 0, 1, [], 0) := rfl
theorem i_L_ask_155 : am_i m_L_ask 155 = some (155, .invokevirtual 38, 3, [125, 9], 0) := rfl
theorem b_L_ask_154 {a0 : Nat} {v1 v2 v3 : Value} {h : am_H} (k1 : K9 h a0) : rn m_L_ask 154 [.ref a0, v1, v2, v3] [] h = cl m_L_ask 158 [.ref a0, v1, v2, v3] [] (rn m_X11_commonest 0 [.ref a0, am_J, am_J, am_J, am_J, am_J] [] h) := by
  refine (tq_aload_n i_L_ask_154 rfl (isA_ref _) rfl).trans ?_
  exact c_X11_commonest i_L_ask_155 (K9_s k1) (ltd d_L_ask (by decide)) stOk_0 rfl
theorem i_L_ask_158 : am_i m_L_ask 158 = some (158, .ireturn, 1, [], 0) := rfl
theorem b_L_ask_158 {v0 v1 v2 v3 : Value} {xs0 : Int} {h : am_H} : rn m_L_ask 158 [v0, v1, v2, v3] [.int (mI xs0)] h = some (.inl (some (.int (mI xs0))), h) := by
  exact tq_ireturn i_L_ask_158 r_L_ask rfl
theorem i_L_ask_159 : am_i m_L_ask 159 = some (159, .aload_n 0, 1, [], 0) := rfl
theorem i_L_ask_160 : am_i m_L_ask 160 = some (160, .invokevirtual 42, 3, [137, 9], 0) := rfl
theorem b_L_ask_159 {a0 : Nat} {v1 v2 v3 : Value} {h : am_H} (k1 : K9 h a0) : rn m_L_ask 159 [.ref a0, v1, v2, v3] [] h = cl m_L_ask 163 [.ref a0, v1, v2, v3] [] (rn m_X11_shown 0 [.ref a0] [] h) := by
  refine (tq_aload_n i_L_ask_159 rfl (isA_ref _) rfl).trans ?_
  exact c_X11_shown i_L_ask_160 (K9_s k1) (ltd d_L_ask (by decide)) stOk_0 rfl
theorem i_L_ask_163 : am_i m_L_ask 163 = some (163, .ireturn, 1, [], 0) := rfl
theorem b_L_ask_163 {v0 v1 v2 v3 : Value} {xs0 : Int} {h : am_H} : rn m_L_ask 163 [v0, v1, v2, v3] [.int (mI xs0)] h = some (.inl (some (.int (mI xs0))), h) := by
  exact tq_ireturn i_L_ask_163 r_L_ask rfl
theorem i_L_ask_164 : am_i m_L_ask 164 = some (164, .aload_n 0, 1, [], 0) := rfl
theorem i_L_ask_165 : am_i m_L_ask 165 = some (165, .invokevirtual 45, 3, [126, 9], 0) := rfl
theorem b_L_ask_164 {a0 : Nat} {v1 v2 v3 : Value} {h : am_H} (k1 : K9 h a0) : rn m_L_ask 164 [.ref a0, v1, v2, v3] [] h = cl m_L_ask 168 [.ref a0, v1, v2, v3] [] (rn m_X11_drift 0 [.ref a0, am_J, am_J, am_J] [] h) := by
  refine (tq_aload_n i_L_ask_164 rfl (isA_ref _) rfl).trans ?_
  exact c_X11_drift i_L_ask_165 (K9_s k1) (ltd d_L_ask (by decide)) stOk_0 rfl
theorem i_L_ask_168 : am_i m_L_ask 168 = some (168, .ireturn, 1, [], 0) := rfl
theorem b_L_ask_168 {v0 v1 v2 v3 : Value} {xs0 : Int} {h : am_H} : rn m_L_ask 168 [v0, v1, v2, v3] [.int (mI xs0)] h = some (.inl (some (.int (mI xs0))), h) := by
  exact tq_ireturn i_L_ask_168 r_L_ask rfl
theorem i_L_ask_169 : am_i m_L_ask 169 = some (169, .aload_n 0, 1, [], 0) := rfl
theorem i_L_ask_170 : am_i m_L_ask 170 = some (170, .invokevirtual 48, 3, [128, 9], 0) := rfl
theorem b_L_ask_169 {a0 : Nat} {v1 v2 v3 : Value} {h : am_H} (k1 : K9 h a0) : rn m_L_ask 169 [.ref a0, v1, v2, v3] [] h = cl m_L_ask 173 [.ref a0, v1, v2, v3] [] (rn m_X11_isClean 0 [.ref a0] [] h) := by
  refine (tq_aload_n i_L_ask_169 rfl (isA_ref _) rfl).trans ?_
  exact c_X11_isClean i_L_ask_170 (K9_s k1) (ltd d_L_ask (by decide)) stOk_0 rfl
theorem i_L_ask_173 : am_i m_L_ask 173 = some (173, .ifCond .eq 7, 3, [], 0) := rfl
theorem i_L_ask_176 : am_i m_L_ask 176 = some (176, .iconst 1, 1, [], 1) := rfl
theorem i_L_ask_177 : am_i m_L_ask 177 = some (177, .goto 4, 3, [], 0) := rfl
theorem i_L_ask_180 : am_i m_L_ask 180 = some (180, .iconst 0, 1, [], 0) := rfl
theorem i_L_ask_181 : am_i m_L_ask 181 = some (181, .ireturn, 1, [], 0) := rfl
theorem b_L_ask_173 {v0 v1 v2 v3 : Value} {xs0 xs0' : Int} {h : am_H} (ws0 : wr xs0 = xs0') : rn m_L_ask 173 [v0, v1, v2, v3] [.int (mI xs0)] h = some (.inl (some (.int (mI (bZ (¬ (xs0' = 0)))))), h) := by
  refine (tq_if_eq (pt := 180) i_L_ask_173 ws0 (by decide) rfl).trans ?_
  refine Eq.trans (b := if xs0' = 0 then rn m_L_ask 181 [v0, v1, v2, v3] [.int (mI 0)] h else rn m_L_ask 181 [v0, v1, v2, v3] [.int (mI 1)] h) (ite_congr rfl (fun c1 => ?_) (fun c1 => ?_)) ?_
  · refine (tq_iconst i_L_ask_180 rfl).trans ?_
    rfl
  · refine (tq_iconst i_L_ask_176 rfl).trans ?_
    refine (tq_goto (pc' := 181) i_L_ask_177 (by decide)).trans ?_
    rfl
  refine Eq.trans ite_b01 ?_
  exact tq_ireturn i_L_ask_181 r_L_ask rfl
theorem i_L_ask_182 : am_i m_L_ask 182 = some (182, .aload_n 0, 1, [], 0) := rfl
theorem i_L_ask_183 : am_i m_L_ask 183 = some (183, .invokevirtual 52, 3, [106, 9], 0) := rfl
theorem b_L_ask_182 {a0 : Nat} {v1 v2 v3 : Value} {h : am_H} (k1 : K9 h a0) : rn m_L_ask 182 [.ref a0, v1, v2, v3] [] h = cl m_L_ask 186 [.ref a0, v1, v2, v3] [] (rn m_X11_bucket 0 [.ref a0] [] h) := by
  refine (tq_aload_n i_L_ask_182 rfl (isA_ref _) rfl).trans ?_
  exact c_X11_bucket i_L_ask_183 (K9_s k1) (ltd d_L_ask (by decide)) stOk_0 rfl
theorem i_L_ask_186 : am_i m_L_ask 186 = some (186, .ireturn, 1, [], 0) := rfl
theorem b_L_ask_186 {v0 v1 v2 v3 : Value} {xs0 : Int} {h : am_H} : rn m_L_ask 186 [v0, v1, v2, v3] [.int (mI xs0)] h = some (.inl (some (.int (mI xs0))), h) := by
  exact tq_ireturn i_L_ask_186 r_L_ask rfl
theorem i_L_ask_188 : am_i m_L_ask 188 = some (188, .sipush (-1001), 3, [], -1001) := rfl
theorem i_L_ask_191 : am_i m_L_ask 191 = some (191, .ireturn, 1, [], 0) := rfl
theorem b_L_ask_188 {v0 v1 v2 v3 : Value} {h : am_H} : rn m_L_ask 188 [v0, v1, v2, v3] [] h = some (.inl (some (.int (mI (-1001)))), h) := by
  refine (tq_sipush i_L_ask_188 rfl).trans ?_
  exact tq_ireturn i_L_ask_191 r_L_ask rfl
theorem i_L_ask_193 : am_i m_L_ask 193 = some (193, .sipush (-1002), 3, [], -1002) := rfl
theorem i_L_ask_196 : am_i m_L_ask 196 = some (196, .ireturn, 1, [], 0) := rfl
theorem b_L_ask_193 {v0 v1 v2 v3 : Value} {h : am_H} : rn m_L_ask 193 [v0, v1, v2, v3] [] h = some (.inl (some (.int (mI (-1002)))), h) := by
  refine (tq_sipush i_L_ask_193 rfl).trans ?_
  exact tq_ireturn i_L_ask_196 r_L_ask rfl
theorem i_L_ask_198 : am_i m_L_ask 198 = some (198, .sipush (-1005), 3, [], -1005) := rfl
theorem i_L_ask_201 : am_i m_L_ask 201 = some (201, .ireturn, 1, [], 0) := rfl
theorem b_L_ask_198 {v0 v1 v2 v3 : Value} {h : am_H} : rn m_L_ask 198 [v0, v1, v2, v3] [] h = some (.inl (some (.int (mI (-1005)))), h) := by
  refine (tq_sipush i_L_ask_198 rfl).trans ?_
  exact tq_ireturn i_L_ask_201 r_L_ask rfl
theorem A_code {x1 x2 x3 : Int} {h h' : am_H} {v : Int} (k : K9 h 2) (e : rn m_X11_code 0 [.ref 2, .int (mI x1), .int (mI x2), .int (mI x3), am_J] [] h = some (.inl (some (.int (mI v))), h')) : rn m_L_code 0 [.ref 2, .int (mI x1), .int (mI x2), .int (mI x3), am_J] [] h = some (.inl (some (.int (mI v))), h') := by
  refine (b_L_code_0 k).trans ?_
  rw [e, cl_v]
  exact b_L_code_7
theorem A_code_x1 {x1 x2 x3 : Int} {h h' : am_H} (k : K9 h 2) (e : rn m_X11_code 0 [.ref 2, .int (mI x1), .int (mI x2), .int (mI x3), am_J] [] h = some (.inr 1, h')) : rn m_L_code 0 [.ref 2, .int (mI x1), .int (mI x2), .int (mI x3), am_J] [] h = some (.inl (some (.int (mI (-1001)))), h') := by
  refine (b_L_code_0 k).trans ?_
  rw [e, cl_h (pc' := 10) (i := 4) rfl]
  exact b_L_code_10
theorem A_code_x0 {x1 x2 x3 : Int} {h h' : am_H} (k : K9 h 2) (e : rn m_X11_code 0 [.ref 2, .int (mI x1), .int (mI x2), .int (mI x3), am_J] [] h = some (.inr 0, h')) : rn m_L_code 0 [.ref 2, .int (mI x1), .int (mI x2), .int (mI x3), am_J] [] h = some (.inl (some (.int (mI (-1002)))), h') := by
  refine (b_L_code_0 k).trans ?_
  rw [e, cl_h (pc' := 16) (i := 4) rfl]
  exact b_L_code_16
theorem A_code_x2 {x1 x2 x3 : Int} {h h' : am_H} (k : K9 h 2) (e : rn m_X11_code 0 [.ref 2, .int (mI x1), .int (mI x2), .int (mI x3), am_J] [] h = some (.inr 2, h')) : rn m_L_code 0 [.ref 2, .int (mI x1), .int (mI x2), .int (mI x3), am_J] [] h = some (.inl (some (.int (mI (-1003)))), h') := by
  refine (b_L_code_0 k).trans ?_
  rw [e, cl_h (pc' := 22) (i := 4) rfl]
  exact b_L_code_22
theorem A_code_x3 {x1 x2 x3 : Int} {h h' : am_H} (k : K9 h 2) (e : rn m_X11_code 0 [.ref 2, .int (mI x1), .int (mI x2), .int (mI x3), am_J] [] h = some (.inr 3, h')) : rn m_L_code 0 [.ref 2, .int (mI x1), .int (mI x2), .int (mI x3), am_J] [] h = some (.inl (some (.int (mI (-1004)))), h') := by
  refine (b_L_code_0 k).trans ?_
  rw [e, cl_h (pc' := 28) (i := 4) rfl]
  exact b_L_code_28
theorem A_setBucket_x0 {x1 x2 : Int} {h h' : am_H} (k : K9 h 2) (e : rn m_X11_setBucket 0 [.ref 2, .int (mI x1), .int (mI x2), am_J] [] h = some (.inr 0, h')) : rn m_L_bucket 0 [.ref 2, .int (mI x1), .int (mI x2), am_J] [] h = some (.inl (some (.int (mI (-1002)))), h') := by
  refine (b_L_bucket_0 k).trans ?_
  rw [e, cl_h (pc' := 8) (i := 3) rfl]
  exact b_L_bucket_8
theorem A_mean_x5 {h h' : am_H} (k : K9 h 2) (e : rn m_X11_meanBits 0 [.ref 2, am_J, am_J] [] h = some (.inr 5, h')) : rn m_L_figure 0 [.ref 2, .int (mI 1), am_J] [] h = some (.inl (some (.double (UInt64.ofNat (13841813454723219456 : Int).toNat))), h') := by
  refine (b_L_figure_0 (x1' := 1) (wr_id (by decide) (by decide)) k).trans ((if_neg (by decide)).trans ?_)
  rw [e, cl_h (pc' := 18) (i := 2) rfl]
  exact b_L_figure_18
theorem A_share_x5 {h h' : am_H} (k : K9 h 2) (e : rn m_X11_cleanShare 0 [.ref 2] [] h = some (.inr 5, h')) : rn m_L_figure 0 [.ref 2, .int (mI 0), am_J] [] h = some (.inl (some (.double (UInt64.ofNat (13841813454723219456 : Int).toNat))), h') := by
  refine (b_L_figure_0 (x1' := 0) (wr_id (by decide) (by decide)) k).trans ((if_pos rfl).trans ?_)
  rw [e, cl_h (pc' := 18) (i := 2) rfl]
  exact b_L_figure_18
theorem A_setCoarseness {x2 : Int} {h h' : am_H} {v : Int} (k : K9 h 2) (e : rn m_X11_setCoarseness 0 [.ref 2, .int (mI x2), am_J] [] h = some (.inl (some (.int (mI v))), h')) : rn m_L_ask 0 [.ref 2, .int (mI 113), .int (mI x2), am_J] [] h = some (.inl (some (.int (mI v))), h') := by
  refine (b_L_ask_0 (x1' := 113) (wr_id (by decide) (by decide))).trans ?_
  refine (sw_at (x := 113) _ _ _ _ 14 100 rfl rfl).trans ?_
  refine (b_L_ask_100 k).trans ?_
  rw [e, cl_v]
  exact b_L_ask_105
theorem A_setCoarseness_x1 {x2 : Int} {h h' : am_H} (k : K9 h 2) (e : rn m_X11_setCoarseness 0 [.ref 2, .int (mI x2), am_J] [] h = some (.inr 1, h')) : rn m_L_ask 0 [.ref 2, .int (mI 113), .int (mI x2), am_J] [] h = some (.inl (some (.int (mI (-1001)))), h') := by
  refine (b_L_ask_0 (x1' := 113) (wr_id (by decide) (by decide))).trans ?_
  refine (sw_at (x := 113) _ _ _ _ 14 100 rfl rfl).trans ?_
  refine (b_L_ask_100 k).trans ?_
  rw [e, cl_h (pc' := 188) (i := 3) rfl]
  exact b_L_ask_188
theorem A_setCoarseness_x0 {x2 : Int} {h h' : am_H} (k : K9 h 2) (e : rn m_X11_setCoarseness 0 [.ref 2, .int (mI x2), am_J] [] h = some (.inr 0, h')) : rn m_L_ask 0 [.ref 2, .int (mI 113), .int (mI x2), am_J] [] h = some (.inl (some (.int (mI (-1002)))), h') := by
  refine (b_L_ask_0 (x1' := 113) (wr_id (by decide) (by decide))).trans ?_
  refine (sw_at (x := 113) _ _ _ _ 14 100 rfl rfl).trans ?_
  refine (b_L_ask_100 k).trans ?_
  rw [e, cl_h (pc' := 193) (i := 3) rfl]
  exact b_L_ask_193
theorem A_setCoarseness_x4 {x2 : Int} {h h' : am_H} (k : K9 h 2) (e : rn m_X11_setCoarseness 0 [.ref 2, .int (mI x2), am_J] [] h = some (.inr 4, h')) : rn m_L_ask 0 [.ref 2, .int (mI 113), .int (mI x2), am_J] [] h = some (.inl (some (.int (mI (-1005)))), h') := by
  refine (b_L_ask_0 (x1' := 113) (wr_id (by decide) (by decide))).trans ?_
  refine (sw_at (x := 113) _ _ _ _ 14 100 rfl rfl).trans ?_
  refine (b_L_ask_100 k).trans ?_
  rw [e, cl_h (pc' := 198) (i := 3) rfl]
  exact b_L_ask_198
theorem A_setTools {x2 : Int} {h h' : am_H} {v : Int} (k : K9 h 2) (e : rn m_X11_setTools 0 [.ref 2, .int (mI x2), am_J] [] h = some (.inl (some (.int (mI v))), h')) : rn m_L_ask 0 [.ref 2, .int (mI 116), .int (mI x2), am_J] [] h = some (.inl (some (.int (mI v))), h') := by
  refine (b_L_ask_0 (x1' := 116) (wr_id (by decide) (by decide))).trans ?_
  refine (sw_at (x := 116) _ _ _ _ 17 106 rfl rfl).trans ?_
  refine (b_L_ask_106 k).trans ?_
  rw [e, cl_v]
  exact b_L_ask_111
theorem A_setTools_x1 {x2 : Int} {h h' : am_H} (k : K9 h 2) (e : rn m_X11_setTools 0 [.ref 2, .int (mI x2), am_J] [] h = some (.inr 1, h')) : rn m_L_ask 0 [.ref 2, .int (mI 116), .int (mI x2), am_J] [] h = some (.inl (some (.int (mI (-1001)))), h') := by
  refine (b_L_ask_0 (x1' := 116) (wr_id (by decide) (by decide))).trans ?_
  refine (sw_at (x := 116) _ _ _ _ 17 106 rfl rfl).trans ?_
  refine (b_L_ask_106 k).trans ?_
  rw [e, cl_h (pc' := 188) (i := 3) rfl]
  exact b_L_ask_188
theorem A_setTools_x0 {x2 : Int} {h h' : am_H} (k : K9 h 2) (e : rn m_X11_setTools 0 [.ref 2, .int (mI x2), am_J] [] h = some (.inr 0, h')) : rn m_L_ask 0 [.ref 2, .int (mI 116), .int (mI x2), am_J] [] h = some (.inl (some (.int (mI (-1002)))), h') := by
  refine (b_L_ask_0 (x1' := 116) (wr_id (by decide) (by decide))).trans ?_
  refine (sw_at (x := 116) _ _ _ _ 17 106 rfl rfl).trans ?_
  refine (b_L_ask_106 k).trans ?_
  rw [e, cl_h (pc' := 193) (i := 3) rfl]
  exact b_L_ask_193
theorem A_setTools_x4 {x2 : Int} {h h' : am_H} (k : K9 h 2) (e : rn m_X11_setTools 0 [.ref 2, .int (mI x2), am_J] [] h = some (.inr 4, h')) : rn m_L_ask 0 [.ref 2, .int (mI 116), .int (mI x2), am_J] [] h = some (.inl (some (.int (mI (-1005)))), h') := by
  refine (b_L_ask_0 (x1' := 116) (wr_id (by decide) (by decide))).trans ?_
  refine (sw_at (x := 116) _ _ _ _ 17 106 rfl rfl).trans ?_
  refine (b_L_ask_106 k).trans ?_
  rw [e, cl_h (pc' := 198) (i := 3) rfl]
  exact b_L_ask_198
theorem A_setSlices {x2 : Int} {h h' : am_H} {v : Int} (k : K9 h 2) (e : rn m_X11_setSlices 0 [.ref 2, .int (mI x2), am_J] [] h = some (.inl (some (.int (mI v))), h')) : rn m_L_ask 0 [.ref 2, .int (mI 115), .int (mI x2), am_J] [] h = some (.inl (some (.int (mI v))), h') := by
  refine (b_L_ask_0 (x1' := 115) (wr_id (by decide) (by decide))).trans ?_
  refine (sw_at (x := 115) _ _ _ _ 16 112 rfl rfl).trans ?_
  refine (b_L_ask_112 k).trans ?_
  rw [e, cl_v]
  exact b_L_ask_117
theorem A_setSlices_x1 {x2 : Int} {h h' : am_H} (k : K9 h 2) (e : rn m_X11_setSlices 0 [.ref 2, .int (mI x2), am_J] [] h = some (.inr 1, h')) : rn m_L_ask 0 [.ref 2, .int (mI 115), .int (mI x2), am_J] [] h = some (.inl (some (.int (mI (-1001)))), h') := by
  refine (b_L_ask_0 (x1' := 115) (wr_id (by decide) (by decide))).trans ?_
  refine (sw_at (x := 115) _ _ _ _ 16 112 rfl rfl).trans ?_
  refine (b_L_ask_112 k).trans ?_
  rw [e, cl_h (pc' := 188) (i := 3) rfl]
  exact b_L_ask_188
theorem A_setSlices_x0 {x2 : Int} {h h' : am_H} (k : K9 h 2) (e : rn m_X11_setSlices 0 [.ref 2, .int (mI x2), am_J] [] h = some (.inr 0, h')) : rn m_L_ask 0 [.ref 2, .int (mI 115), .int (mI x2), am_J] [] h = some (.inl (some (.int (mI (-1002)))), h') := by
  refine (b_L_ask_0 (x1' := 115) (wr_id (by decide) (by decide))).trans ?_
  refine (sw_at (x := 115) _ _ _ _ 16 112 rfl rfl).trans ?_
  refine (b_L_ask_112 k).trans ?_
  rw [e, cl_h (pc' := 193) (i := 3) rfl]
  exact b_L_ask_193
theorem A_setSlices_x4 {x2 : Int} {h h' : am_H} (k : K9 h 2) (e : rn m_X11_setSlices 0 [.ref 2, .int (mI x2), am_J] [] h = some (.inr 4, h')) : rn m_L_ask 0 [.ref 2, .int (mI 115), .int (mI x2), am_J] [] h = some (.inl (some (.int (mI (-1005)))), h') := by
  refine (b_L_ask_0 (x1' := 115) (wr_id (by decide) (by decide))).trans ?_
  refine (sw_at (x := 115) _ _ _ _ 16 112 rfl rfl).trans ?_
  refine (b_L_ask_112 k).trans ?_
  rw [e, cl_h (pc' := 198) (i := 3) rfl]
  exact b_L_ask_198
theorem A_join {x2 : Int} {h h' : am_H} {v : Int} (k : K9 h 2) (e : rn m_X11_join 0 [.ref 2, .int (mI x2), am_J] [] h = some (.inl (some (.int (mI v))), h')) : rn m_L_ask 0 [.ref 2, .int (mI 106), .int (mI x2), am_J] [] h = some (.inl (some (.int (mI v))), h') := by
  refine (b_L_ask_0 (x1' := 106) (wr_id (by decide) (by decide))).trans ?_
  refine (sw_at (x := 106) _ _ _ _ 7 118 rfl rfl).trans ?_
  refine (b_L_ask_118 k).trans ?_
  rw [e, cl_v]
  exact b_L_ask_123
theorem A_join_x1 {x2 : Int} {h h' : am_H} (k : K9 h 2) (e : rn m_X11_join 0 [.ref 2, .int (mI x2), am_J] [] h = some (.inr 1, h')) : rn m_L_ask 0 [.ref 2, .int (mI 106), .int (mI x2), am_J] [] h = some (.inl (some (.int (mI (-1001)))), h') := by
  refine (b_L_ask_0 (x1' := 106) (wr_id (by decide) (by decide))).trans ?_
  refine (sw_at (x := 106) _ _ _ _ 7 118 rfl rfl).trans ?_
  refine (b_L_ask_118 k).trans ?_
  rw [e, cl_h (pc' := 188) (i := 3) rfl]
  exact b_L_ask_188
theorem A_join_x0 {x2 : Int} {h h' : am_H} (k : K9 h 2) (e : rn m_X11_join 0 [.ref 2, .int (mI x2), am_J] [] h = some (.inr 0, h')) : rn m_L_ask 0 [.ref 2, .int (mI 106), .int (mI x2), am_J] [] h = some (.inl (some (.int (mI (-1002)))), h') := by
  refine (b_L_ask_0 (x1' := 106) (wr_id (by decide) (by decide))).trans ?_
  refine (sw_at (x := 106) _ _ _ _ 7 118 rfl rfl).trans ?_
  refine (b_L_ask_118 k).trans ?_
  rw [e, cl_h (pc' := 193) (i := 3) rfl]
  exact b_L_ask_193
theorem A_join_x4 {x2 : Int} {h h' : am_H} (k : K9 h 2) (e : rn m_X11_join 0 [.ref 2, .int (mI x2), am_J] [] h = some (.inr 4, h')) : rn m_L_ask 0 [.ref 2, .int (mI 106), .int (mI x2), am_J] [] h = some (.inl (some (.int (mI (-1005)))), h') := by
  refine (b_L_ask_0 (x1' := 106) (wr_id (by decide) (by decide))).trans ?_
  refine (sw_at (x := 106) _ _ _ _ 7 118 rfl rfl).trans ?_
  refine (b_L_ask_118 k).trans ?_
  rw [e, cl_h (pc' := 198) (i := 3) rfl]
  exact b_L_ask_198
theorem A_send {x2 : Int} {h h' : am_H} {v : Int} (k : K9 h 2) (e : rn m_X11_send 0 [.ref 2, .int (mI x2), am_J] [] h = some (.inl (some (.int (mI v))), h')) : rn m_L_ask 0 [.ref 2, .int (mI 100), .int (mI x2), am_J] [] h = some (.inl (some (.int (mI v))), h') := by
  refine (b_L_ask_0 (x1' := 100) (wr_id (by decide) (by decide))).trans ?_
  refine (sw_at (x := 100) _ _ _ _ 1 124 rfl rfl).trans ?_
  refine (b_L_ask_124 k).trans ?_
  rw [e, cl_v]
  exact b_L_ask_129
theorem A_send_x1 {x2 : Int} {h h' : am_H} (k : K9 h 2) (e : rn m_X11_send 0 [.ref 2, .int (mI x2), am_J] [] h = some (.inr 1, h')) : rn m_L_ask 0 [.ref 2, .int (mI 100), .int (mI x2), am_J] [] h = some (.inl (some (.int (mI (-1001)))), h') := by
  refine (b_L_ask_0 (x1' := 100) (wr_id (by decide) (by decide))).trans ?_
  refine (sw_at (x := 100) _ _ _ _ 1 124 rfl rfl).trans ?_
  refine (b_L_ask_124 k).trans ?_
  rw [e, cl_h (pc' := 188) (i := 3) rfl]
  exact b_L_ask_188
theorem A_send_x0 {x2 : Int} {h h' : am_H} (k : K9 h 2) (e : rn m_X11_send 0 [.ref 2, .int (mI x2), am_J] [] h = some (.inr 0, h')) : rn m_L_ask 0 [.ref 2, .int (mI 100), .int (mI x2), am_J] [] h = some (.inl (some (.int (mI (-1002)))), h') := by
  refine (b_L_ask_0 (x1' := 100) (wr_id (by decide) (by decide))).trans ?_
  refine (sw_at (x := 100) _ _ _ _ 1 124 rfl rfl).trans ?_
  refine (b_L_ask_124 k).trans ?_
  rw [e, cl_h (pc' := 193) (i := 3) rfl]
  exact b_L_ask_193
theorem A_send_x4 {x2 : Int} {h h' : am_H} (k : K9 h 2) (e : rn m_X11_send 0 [.ref 2, .int (mI x2), am_J] [] h = some (.inr 4, h')) : rn m_L_ask 0 [.ref 2, .int (mI 100), .int (mI x2), am_J] [] h = some (.inl (some (.int (mI (-1005)))), h') := by
  refine (b_L_ask_0 (x1' := 100) (wr_id (by decide) (by decide))).trans ?_
  refine (sw_at (x := 100) _ _ _ _ 1 124 rfl rfl).trans ?_
  refine (b_L_ask_124 k).trans ?_
  rw [e, cl_h (pc' := 198) (i := 3) rfl]
  exact b_L_ask_198
theorem A_kindOf {x2 : Int} {h h' : am_H} {v : Int} (k : K9 h 2) (e : rn m_X11_kindOf 0 [.ref 2, .int (mI x2)] [] h = some (.inl (some (.int (mI v))), h')) : rn m_L_ask 0 [.ref 2, .int (mI 105), .int (mI x2), am_J] [] h = some (.inl (some (.int (mI v))), h') := by
  refine (b_L_ask_0 (x1' := 105) (wr_id (by decide) (by decide))).trans ?_
  refine (sw_at (x := 105) _ _ _ _ 6 136 rfl rfl).trans ?_
  refine (b_L_ask_136 k).trans ?_
  rw [e, cl_v]
  exact b_L_ask_141
theorem A_kindOf_x1 {x2 : Int} {h h' : am_H} (k : K9 h 2) (e : rn m_X11_kindOf 0 [.ref 2, .int (mI x2)] [] h = some (.inr 1, h')) : rn m_L_ask 0 [.ref 2, .int (mI 105), .int (mI x2), am_J] [] h = some (.inl (some (.int (mI (-1001)))), h') := by
  refine (b_L_ask_0 (x1' := 105) (wr_id (by decide) (by decide))).trans ?_
  refine (sw_at (x := 105) _ _ _ _ 6 136 rfl rfl).trans ?_
  refine (b_L_ask_136 k).trans ?_
  rw [e, cl_h (pc' := 188) (i := 3) rfl]
  exact b_L_ask_188
theorem A_kindOf_x0 {x2 : Int} {h h' : am_H} (k : K9 h 2) (e : rn m_X11_kindOf 0 [.ref 2, .int (mI x2)] [] h = some (.inr 0, h')) : rn m_L_ask 0 [.ref 2, .int (mI 105), .int (mI x2), am_J] [] h = some (.inl (some (.int (mI (-1002)))), h') := by
  refine (b_L_ask_0 (x1' := 105) (wr_id (by decide) (by decide))).trans ?_
  refine (sw_at (x := 105) _ _ _ _ 6 136 rfl rfl).trans ?_
  refine (b_L_ask_136 k).trans ?_
  rw [e, cl_h (pc' := 193) (i := 3) rfl]
  exact b_L_ask_193
theorem A_kindOf_x4 {x2 : Int} {h h' : am_H} (k : K9 h 2) (e : rn m_X11_kindOf 0 [.ref 2, .int (mI x2)] [] h = some (.inr 4, h')) : rn m_L_ask 0 [.ref 2, .int (mI 105), .int (mI x2), am_J] [] h = some (.inl (some (.int (mI (-1005)))), h') := by
  refine (b_L_ask_0 (x1' := 105) (wr_id (by decide) (by decide))).trans ?_
  refine (sw_at (x := 105) _ _ _ _ 6 136 rfl rfl).trans ?_
  refine (b_L_ask_136 k).trans ?_
  rw [e, cl_h (pc' := 198) (i := 3) rfl]
  exact b_L_ask_198
theorem A_coarsenessOf {x2 : Int} {h h' : am_H} {v : Int} (k : K9 h 2) (e : rn m_X11_coarsenessOf 0 [.ref 2, .int (mI x2)] [] h = some (.inl (some (.int (mI v))), h')) : rn m_L_ask 0 [.ref 2, .int (mI 99), .int (mI x2), am_J] [] h = some (.inl (some (.int (mI v))), h') := by
  refine (b_L_ask_0 (x1' := 99) (wr_id (by decide) (by decide))).trans ?_
  refine (sw_at (x := 99) _ _ _ _ 0 142 rfl rfl).trans ?_
  refine (b_L_ask_142 k).trans ?_
  rw [e, cl_v]
  exact b_L_ask_147
theorem A_coarsenessOf_x1 {x2 : Int} {h h' : am_H} (k : K9 h 2) (e : rn m_X11_coarsenessOf 0 [.ref 2, .int (mI x2)] [] h = some (.inr 1, h')) : rn m_L_ask 0 [.ref 2, .int (mI 99), .int (mI x2), am_J] [] h = some (.inl (some (.int (mI (-1001)))), h') := by
  refine (b_L_ask_0 (x1' := 99) (wr_id (by decide) (by decide))).trans ?_
  refine (sw_at (x := 99) _ _ _ _ 0 142 rfl rfl).trans ?_
  refine (b_L_ask_142 k).trans ?_
  rw [e, cl_h (pc' := 188) (i := 3) rfl]
  exact b_L_ask_188
theorem A_coarsenessOf_x0 {x2 : Int} {h h' : am_H} (k : K9 h 2) (e : rn m_X11_coarsenessOf 0 [.ref 2, .int (mI x2)] [] h = some (.inr 0, h')) : rn m_L_ask 0 [.ref 2, .int (mI 99), .int (mI x2), am_J] [] h = some (.inl (some (.int (mI (-1002)))), h') := by
  refine (b_L_ask_0 (x1' := 99) (wr_id (by decide) (by decide))).trans ?_
  refine (sw_at (x := 99) _ _ _ _ 0 142 rfl rfl).trans ?_
  refine (b_L_ask_142 k).trans ?_
  rw [e, cl_h (pc' := 193) (i := 3) rfl]
  exact b_L_ask_193
theorem A_coarsenessOf_x4 {x2 : Int} {h h' : am_H} (k : K9 h 2) (e : rn m_X11_coarsenessOf 0 [.ref 2, .int (mI x2)] [] h = some (.inr 4, h')) : rn m_L_ask 0 [.ref 2, .int (mI 99), .int (mI x2), am_J] [] h = some (.inl (some (.int (mI (-1005)))), h') := by
  refine (b_L_ask_0 (x1' := 99) (wr_id (by decide) (by decide))).trans ?_
  refine (sw_at (x := 99) _ _ _ _ 0 142 rfl rfl).trans ?_
  refine (b_L_ask_142 k).trans ?_
  rw [e, cl_h (pc' := 198) (i := 3) rfl]
  exact b_L_ask_198
theorem A_heaviest {x2 : Int} {h h' : am_H} {v : Int} (k : K9 h 2) (e : rn m_X11_heaviest 0 [.ref 2, .int (mI x2), am_J, am_J] [] h = some (.inl (some (.int (mI v))), h')) : rn m_L_ask 0 [.ref 2, .int (mI 104), .int (mI x2), am_J] [] h = some (.inl (some (.int (mI v))), h') := by
  refine (b_L_ask_0 (x1' := 104) (wr_id (by decide) (by decide))).trans ?_
  refine (sw_at (x := 104) _ _ _ _ 5 148 rfl rfl).trans ?_
  refine (b_L_ask_148 k).trans ?_
  rw [e, cl_v]
  exact b_L_ask_153
theorem A_heaviest_x1 {x2 : Int} {h h' : am_H} (k : K9 h 2) (e : rn m_X11_heaviest 0 [.ref 2, .int (mI x2), am_J, am_J] [] h = some (.inr 1, h')) : rn m_L_ask 0 [.ref 2, .int (mI 104), .int (mI x2), am_J] [] h = some (.inl (some (.int (mI (-1001)))), h') := by
  refine (b_L_ask_0 (x1' := 104) (wr_id (by decide) (by decide))).trans ?_
  refine (sw_at (x := 104) _ _ _ _ 5 148 rfl rfl).trans ?_
  refine (b_L_ask_148 k).trans ?_
  rw [e, cl_h (pc' := 188) (i := 3) rfl]
  exact b_L_ask_188
theorem A_heaviest_x0 {x2 : Int} {h h' : am_H} (k : K9 h 2) (e : rn m_X11_heaviest 0 [.ref 2, .int (mI x2), am_J, am_J] [] h = some (.inr 0, h')) : rn m_L_ask 0 [.ref 2, .int (mI 104), .int (mI x2), am_J] [] h = some (.inl (some (.int (mI (-1002)))), h') := by
  refine (b_L_ask_0 (x1' := 104) (wr_id (by decide) (by decide))).trans ?_
  refine (sw_at (x := 104) _ _ _ _ 5 148 rfl rfl).trans ?_
  refine (b_L_ask_148 k).trans ?_
  rw [e, cl_h (pc' := 193) (i := 3) rfl]
  exact b_L_ask_193
theorem A_heaviest_x4 {x2 : Int} {h h' : am_H} (k : K9 h 2) (e : rn m_X11_heaviest 0 [.ref 2, .int (mI x2), am_J, am_J] [] h = some (.inr 4, h')) : rn m_L_ask 0 [.ref 2, .int (mI 104), .int (mI x2), am_J] [] h = some (.inl (some (.int (mI (-1005)))), h') := by
  refine (b_L_ask_0 (x1' := 104) (wr_id (by decide) (by decide))).trans ?_
  refine (sw_at (x := 104) _ _ _ _ 5 148 rfl rfl).trans ?_
  refine (b_L_ask_148 k).trans ?_
  rw [e, cl_h (pc' := 198) (i := 3) rfl]
  exact b_L_ask_198
theorem A_commonest {x2 : Int} {h h' : am_H} {v : Int} (k : K9 h 2) (e : rn m_X11_commonest 0 [.ref 2, am_J, am_J, am_J, am_J, am_J] [] h = some (.inl (some (.int (mI v))), h')) : rn m_L_ask 0 [.ref 2, .int (mI 109), .int (mI x2), am_J] [] h = some (.inl (some (.int (mI v))), h') := by
  refine (b_L_ask_0 (x1' := 109) (wr_id (by decide) (by decide))).trans ?_
  refine (sw_at (x := 109) _ _ _ _ 10 154 rfl rfl).trans ?_
  refine (b_L_ask_154 k).trans ?_
  rw [e, cl_v]
  exact b_L_ask_158
theorem A_commonest_x1 {x2 : Int} {h h' : am_H} (k : K9 h 2) (e : rn m_X11_commonest 0 [.ref 2, am_J, am_J, am_J, am_J, am_J] [] h = some (.inr 1, h')) : rn m_L_ask 0 [.ref 2, .int (mI 109), .int (mI x2), am_J] [] h = some (.inl (some (.int (mI (-1001)))), h') := by
  refine (b_L_ask_0 (x1' := 109) (wr_id (by decide) (by decide))).trans ?_
  refine (sw_at (x := 109) _ _ _ _ 10 154 rfl rfl).trans ?_
  refine (b_L_ask_154 k).trans ?_
  rw [e, cl_h (pc' := 188) (i := 3) rfl]
  exact b_L_ask_188
theorem A_commonest_x0 {x2 : Int} {h h' : am_H} (k : K9 h 2) (e : rn m_X11_commonest 0 [.ref 2, am_J, am_J, am_J, am_J, am_J] [] h = some (.inr 0, h')) : rn m_L_ask 0 [.ref 2, .int (mI 109), .int (mI x2), am_J] [] h = some (.inl (some (.int (mI (-1002)))), h') := by
  refine (b_L_ask_0 (x1' := 109) (wr_id (by decide) (by decide))).trans ?_
  refine (sw_at (x := 109) _ _ _ _ 10 154 rfl rfl).trans ?_
  refine (b_L_ask_154 k).trans ?_
  rw [e, cl_h (pc' := 193) (i := 3) rfl]
  exact b_L_ask_193
theorem A_commonest_x4 {x2 : Int} {h h' : am_H} (k : K9 h 2) (e : rn m_X11_commonest 0 [.ref 2, am_J, am_J, am_J, am_J, am_J] [] h = some (.inr 4, h')) : rn m_L_ask 0 [.ref 2, .int (mI 109), .int (mI x2), am_J] [] h = some (.inl (some (.int (mI (-1005)))), h') := by
  refine (b_L_ask_0 (x1' := 109) (wr_id (by decide) (by decide))).trans ?_
  refine (sw_at (x := 109) _ _ _ _ 10 154 rfl rfl).trans ?_
  refine (b_L_ask_154 k).trans ?_
  rw [e, cl_h (pc' := 198) (i := 3) rfl]
  exact b_L_ask_198
theorem A_shown {x2 : Int} {h h' : am_H} {v : Int} (k : K9 h 2) (e : rn m_X11_shown 0 [.ref 2] [] h = some (.inl (some (.int (mI v))), h')) : rn m_L_ask 0 [.ref 2, .int (mI 119), .int (mI x2), am_J] [] h = some (.inl (some (.int (mI v))), h') := by
  refine (b_L_ask_0 (x1' := 119) (wr_id (by decide) (by decide))).trans ?_
  refine (sw_at (x := 119) _ _ _ _ 20 159 rfl rfl).trans ?_
  refine (b_L_ask_159 k).trans ?_
  rw [e, cl_v]
  exact b_L_ask_163
theorem A_shown_x1 {x2 : Int} {h h' : am_H} (k : K9 h 2) (e : rn m_X11_shown 0 [.ref 2] [] h = some (.inr 1, h')) : rn m_L_ask 0 [.ref 2, .int (mI 119), .int (mI x2), am_J] [] h = some (.inl (some (.int (mI (-1001)))), h') := by
  refine (b_L_ask_0 (x1' := 119) (wr_id (by decide) (by decide))).trans ?_
  refine (sw_at (x := 119) _ _ _ _ 20 159 rfl rfl).trans ?_
  refine (b_L_ask_159 k).trans ?_
  rw [e, cl_h (pc' := 188) (i := 3) rfl]
  exact b_L_ask_188
theorem A_shown_x0 {x2 : Int} {h h' : am_H} (k : K9 h 2) (e : rn m_X11_shown 0 [.ref 2] [] h = some (.inr 0, h')) : rn m_L_ask 0 [.ref 2, .int (mI 119), .int (mI x2), am_J] [] h = some (.inl (some (.int (mI (-1002)))), h') := by
  refine (b_L_ask_0 (x1' := 119) (wr_id (by decide) (by decide))).trans ?_
  refine (sw_at (x := 119) _ _ _ _ 20 159 rfl rfl).trans ?_
  refine (b_L_ask_159 k).trans ?_
  rw [e, cl_h (pc' := 193) (i := 3) rfl]
  exact b_L_ask_193
theorem A_shown_x4 {x2 : Int} {h h' : am_H} (k : K9 h 2) (e : rn m_X11_shown 0 [.ref 2] [] h = some (.inr 4, h')) : rn m_L_ask 0 [.ref 2, .int (mI 119), .int (mI x2), am_J] [] h = some (.inl (some (.int (mI (-1005)))), h') := by
  refine (b_L_ask_0 (x1' := 119) (wr_id (by decide) (by decide))).trans ?_
  refine (sw_at (x := 119) _ _ _ _ 20 159 rfl rfl).trans ?_
  refine (b_L_ask_159 k).trans ?_
  rw [e, cl_h (pc' := 198) (i := 3) rfl]
  exact b_L_ask_198
theorem A_drift {x2 : Int} {h h' : am_H} {v : Int} (k : K9 h 2) (e : rn m_X11_drift 0 [.ref 2, am_J, am_J, am_J] [] h = some (.inl (some (.int (mI v))), h')) : rn m_L_ask 0 [.ref 2, .int (mI 102), .int (mI x2), am_J] [] h = some (.inl (some (.int (mI v))), h') := by
  refine (b_L_ask_0 (x1' := 102) (wr_id (by decide) (by decide))).trans ?_
  refine (sw_at (x := 102) _ _ _ _ 3 164 rfl rfl).trans ?_
  refine (b_L_ask_164 k).trans ?_
  rw [e, cl_v]
  exact b_L_ask_168
theorem A_drift_x1 {x2 : Int} {h h' : am_H} (k : K9 h 2) (e : rn m_X11_drift 0 [.ref 2, am_J, am_J, am_J] [] h = some (.inr 1, h')) : rn m_L_ask 0 [.ref 2, .int (mI 102), .int (mI x2), am_J] [] h = some (.inl (some (.int (mI (-1001)))), h') := by
  refine (b_L_ask_0 (x1' := 102) (wr_id (by decide) (by decide))).trans ?_
  refine (sw_at (x := 102) _ _ _ _ 3 164 rfl rfl).trans ?_
  refine (b_L_ask_164 k).trans ?_
  rw [e, cl_h (pc' := 188) (i := 3) rfl]
  exact b_L_ask_188
theorem A_drift_x0 {x2 : Int} {h h' : am_H} (k : K9 h 2) (e : rn m_X11_drift 0 [.ref 2, am_J, am_J, am_J] [] h = some (.inr 0, h')) : rn m_L_ask 0 [.ref 2, .int (mI 102), .int (mI x2), am_J] [] h = some (.inl (some (.int (mI (-1002)))), h') := by
  refine (b_L_ask_0 (x1' := 102) (wr_id (by decide) (by decide))).trans ?_
  refine (sw_at (x := 102) _ _ _ _ 3 164 rfl rfl).trans ?_
  refine (b_L_ask_164 k).trans ?_
  rw [e, cl_h (pc' := 193) (i := 3) rfl]
  exact b_L_ask_193
theorem A_drift_x4 {x2 : Int} {h h' : am_H} (k : K9 h 2) (e : rn m_X11_drift 0 [.ref 2, am_J, am_J, am_J] [] h = some (.inr 4, h')) : rn m_L_ask 0 [.ref 2, .int (mI 102), .int (mI x2), am_J] [] h = some (.inl (some (.int (mI (-1005)))), h') := by
  refine (b_L_ask_0 (x1' := 102) (wr_id (by decide) (by decide))).trans ?_
  refine (sw_at (x := 102) _ _ _ _ 3 164 rfl rfl).trans ?_
  refine (b_L_ask_164 k).trans ?_
  rw [e, cl_h (pc' := 198) (i := 3) rfl]
  exact b_L_ask_198
theorem A_isClean_x1 {x2 : Int} {h h' : am_H} (k : K9 h 2) (e : rn m_X11_isClean 0 [.ref 2] [] h = some (.inr 1, h')) : rn m_L_ask 0 [.ref 2, .int (mI 108), .int (mI x2), am_J] [] h = some (.inl (some (.int (mI (-1001)))), h') := by
  refine (b_L_ask_0 (x1' := 108) (wr_id (by decide) (by decide))).trans ?_
  refine (sw_at (x := 108) _ _ _ _ 9 169 rfl rfl).trans ?_
  refine (b_L_ask_169 k).trans ?_
  rw [e, cl_h (pc' := 188) (i := 3) rfl]
  exact b_L_ask_188
theorem A_isClean_x0 {x2 : Int} {h h' : am_H} (k : K9 h 2) (e : rn m_X11_isClean 0 [.ref 2] [] h = some (.inr 0, h')) : rn m_L_ask 0 [.ref 2, .int (mI 108), .int (mI x2), am_J] [] h = some (.inl (some (.int (mI (-1002)))), h') := by
  refine (b_L_ask_0 (x1' := 108) (wr_id (by decide) (by decide))).trans ?_
  refine (sw_at (x := 108) _ _ _ _ 9 169 rfl rfl).trans ?_
  refine (b_L_ask_169 k).trans ?_
  rw [e, cl_h (pc' := 193) (i := 3) rfl]
  exact b_L_ask_193
theorem A_isClean_x4 {x2 : Int} {h h' : am_H} (k : K9 h 2) (e : rn m_X11_isClean 0 [.ref 2] [] h = some (.inr 4, h')) : rn m_L_ask 0 [.ref 2, .int (mI 108), .int (mI x2), am_J] [] h = some (.inl (some (.int (mI (-1005)))), h') := by
  refine (b_L_ask_0 (x1' := 108) (wr_id (by decide) (by decide))).trans ?_
  refine (sw_at (x := 108) _ _ _ _ 9 169 rfl rfl).trans ?_
  refine (b_L_ask_169 k).trans ?_
  rw [e, cl_h (pc' := 198) (i := 3) rfl]
  exact b_L_ask_198
theorem A_bucket {x2 : Int} {h h' : am_H} {v : Int} (k : K9 h 2) (e : rn m_X11_bucket 0 [.ref 2] [] h = some (.inl (some (.int (mI v))), h')) : rn m_L_ask 0 [.ref 2, .int (mI 98), .int (mI x2), am_J] [] h = some (.inl (some (.int (mI v))), h') := by
  refine (b_L_ask_0 (x1' := 98) (wr_id (by decide) (by decide))).trans ?_
  refine (sw_df (x := 98) _ _ _ _ (by decide)).trans ?_
  refine (b_L_ask_182 k).trans ?_
  rw [e, cl_v]
  exact b_L_ask_186
theorem A_bucket_x1 {x2 : Int} {h h' : am_H} (k : K9 h 2) (e : rn m_X11_bucket 0 [.ref 2] [] h = some (.inr 1, h')) : rn m_L_ask 0 [.ref 2, .int (mI 98), .int (mI x2), am_J] [] h = some (.inl (some (.int (mI (-1001)))), h') := by
  refine (b_L_ask_0 (x1' := 98) (wr_id (by decide) (by decide))).trans ?_
  refine (sw_df (x := 98) _ _ _ _ (by decide)).trans ?_
  refine (b_L_ask_182 k).trans ?_
  rw [e, cl_h (pc' := 188) (i := 3) rfl]
  exact b_L_ask_188
theorem A_bucket_x0 {x2 : Int} {h h' : am_H} (k : K9 h 2) (e : rn m_X11_bucket 0 [.ref 2] [] h = some (.inr 0, h')) : rn m_L_ask 0 [.ref 2, .int (mI 98), .int (mI x2), am_J] [] h = some (.inl (some (.int (mI (-1002)))), h') := by
  refine (b_L_ask_0 (x1' := 98) (wr_id (by decide) (by decide))).trans ?_
  refine (sw_df (x := 98) _ _ _ _ (by decide)).trans ?_
  refine (b_L_ask_182 k).trans ?_
  rw [e, cl_h (pc' := 193) (i := 3) rfl]
  exact b_L_ask_193
theorem A_bucket_x4 {x2 : Int} {h h' : am_H} (k : K9 h 2) (e : rn m_X11_bucket 0 [.ref 2] [] h = some (.inr 4, h')) : rn m_L_ask 0 [.ref 2, .int (mI 98), .int (mI x2), am_J] [] h = some (.inl (some (.int (mI (-1005)))), h') := by
  refine (b_L_ask_0 (x1' := 98) (wr_id (by decide) (by decide))).trans ?_
  refine (sw_df (x := 98) _ _ _ _ (by decide)).trans ?_
  refine (b_L_ask_182 k).trans ?_
  rw [e, cl_h (pc' := 198) (i := 3) rfl]
  exact b_L_ask_198
theorem A_pixel {x2 x3 x4 : Int} {h h' : am_H} {v : Int} (k : K9 h 2) (e : rn m_X11_pixel 0 [.ref 2, .int (mI x3), .int (mI x4)] [] h = some (.inl (some (.int (mI v))), h')) : rn m_L_pixel 0 [.ref 2, .int (mI 99), .int (mI x2), .int (mI x3), .int (mI x4), am_J] [] h = some (.inl (some (.int (mI v))), h') := by
  refine (b_L_pixel_0 (x1' := 99) (wr_id (by decide) (by decide))).trans ?_
  refine (sw_at (x := 99) _ _ _ _ 1 104 rfl rfl).trans ?_
  refine (b_L_pixel_104 k).trans ?_
  rw [e, cl_v]
  exact b_L_pixel_111
theorem A_pixel_x1 {x2 x3 x4 : Int} {h h' : am_H} (k : K9 h 2) (e : rn m_X11_pixel 0 [.ref 2, .int (mI x3), .int (mI x4)] [] h = some (.inr 1, h')) : rn m_L_pixel 0 [.ref 2, .int (mI 99), .int (mI x2), .int (mI x3), .int (mI x4), am_J] [] h = some (.inl (some (.int (mI (-100001)))), h') := by
  refine (b_L_pixel_0 (x1' := 99) (wr_id (by decide) (by decide))).trans ?_
  refine (sw_at (x := 99) _ _ _ _ 1 104 rfl rfl).trans ?_
  refine (b_L_pixel_104 k).trans ?_
  rw [e, cl_h (pc' := 178) (i := 5) rfl]
  exact b_L_pixel_178
theorem A_pixel_x4 {x2 x3 x4 : Int} {h h' : am_H} (k : K9 h 2) (e : rn m_X11_pixel 0 [.ref 2, .int (mI x3), .int (mI x4)] [] h = some (.inr 4, h')) : rn m_L_pixel 0 [.ref 2, .int (mI 99), .int (mI x2), .int (mI x3), .int (mI x4), am_J] [] h = some (.inl (some (.int (mI (-100005)))), h') := by
  refine (b_L_pixel_0 (x1' := 99) (wr_id (by decide) (by decide))).trans ?_
  refine (sw_at (x := 99) _ _ _ _ 1 104 rfl rfl).trans ?_
  refine (b_L_pixel_104 k).trans ?_
  rw [e, cl_h (pc' := 183) (i := 5) rfl]
  exact b_L_pixel_183
theorem A_shownAt {x2 x3 x4 : Int} {h h' : am_H} {v : Int} (k : K9 h 2) (e : rn m_X11_shownAt 0 [.ref 2, .int (mI x3), .int (mI x4)] [] h = some (.inl (some (.int (mI v))), h')) : rn m_L_pixel 0 [.ref 2, .int (mI 119), .int (mI x2), .int (mI x3), .int (mI x4), am_J] [] h = some (.inl (some (.int (mI v))), h') := by
  refine (b_L_pixel_0 (x1' := 119) (wr_id (by decide) (by decide))).trans ?_
  refine (sw_at (x := 119) _ _ _ _ 21 112 rfl rfl).trans ?_
  refine (b_L_pixel_112 k).trans ?_
  rw [e, cl_v]
  exact b_L_pixel_119
theorem A_shownAt_x1 {x2 x3 x4 : Int} {h h' : am_H} (k : K9 h 2) (e : rn m_X11_shownAt 0 [.ref 2, .int (mI x3), .int (mI x4)] [] h = some (.inr 1, h')) : rn m_L_pixel 0 [.ref 2, .int (mI 119), .int (mI x2), .int (mI x3), .int (mI x4), am_J] [] h = some (.inl (some (.int (mI (-100001)))), h') := by
  refine (b_L_pixel_0 (x1' := 119) (wr_id (by decide) (by decide))).trans ?_
  refine (sw_at (x := 119) _ _ _ _ 21 112 rfl rfl).trans ?_
  refine (b_L_pixel_112 k).trans ?_
  rw [e, cl_h (pc' := 178) (i := 5) rfl]
  exact b_L_pixel_178
theorem A_shownAt_x4 {x2 x3 x4 : Int} {h h' : am_H} (k : K9 h 2) (e : rn m_X11_shownAt 0 [.ref 2, .int (mI x3), .int (mI x4)] [] h = some (.inr 4, h')) : rn m_L_pixel 0 [.ref 2, .int (mI 119), .int (mI x2), .int (mI x3), .int (mI x4), am_J] [] h = some (.inl (some (.int (mI (-100005)))), h') := by
  refine (b_L_pixel_0 (x1' := 119) (wr_id (by decide) (by decide))).trans ?_
  refine (sw_at (x := 119) _ _ _ _ 21 112 rfl rfl).trans ?_
  refine (b_L_pixel_112 k).trans ?_
  rw [e, cl_h (pc' := 183) (i := 5) rfl]
  exact b_L_pixel_183
theorem A_built {x2 x3 x4 : Int} {h h' : am_H} {v : Int} (k : K9 h 2) (e : rn m_X11_built 0 [.ref 2, .int (mI x2), .int (mI x3), .int (mI x4), am_J] [] h = some (.inl (some (.int (mI v))), h')) : rn m_L_pixel 0 [.ref 2, .int (mI 98), .int (mI x2), .int (mI x3), .int (mI x4), am_J] [] h = some (.inl (some (.int (mI v))), h') := by
  refine (b_L_pixel_0 (x1' := 98) (wr_id (by decide) (by decide))).trans ?_
  refine (sw_at (x := 98) _ _ _ _ 0 120 rfl rfl).trans ?_
  refine (b_L_pixel_120 k).trans ?_
  rw [e, cl_v]
  exact b_L_pixel_128
theorem A_built_x1 {x2 x3 x4 : Int} {h h' : am_H} (k : K9 h 2) (e : rn m_X11_built 0 [.ref 2, .int (mI x2), .int (mI x3), .int (mI x4), am_J] [] h = some (.inr 1, h')) : rn m_L_pixel 0 [.ref 2, .int (mI 98), .int (mI x2), .int (mI x3), .int (mI x4), am_J] [] h = some (.inl (some (.int (mI (-100001)))), h') := by
  refine (b_L_pixel_0 (x1' := 98) (wr_id (by decide) (by decide))).trans ?_
  refine (sw_at (x := 98) _ _ _ _ 0 120 rfl rfl).trans ?_
  refine (b_L_pixel_120 k).trans ?_
  rw [e, cl_h (pc' := 178) (i := 5) rfl]
  exact b_L_pixel_178
theorem A_built_x4 {x2 x3 x4 : Int} {h h' : am_H} (k : K9 h 2) (e : rn m_X11_built 0 [.ref 2, .int (mI x2), .int (mI x3), .int (mI x4), am_J] [] h = some (.inr 4, h')) : rn m_L_pixel 0 [.ref 2, .int (mI 98), .int (mI x2), .int (mI x3), .int (mI x4), am_J] [] h = some (.inl (some (.int (mI (-100005)))), h') := by
  refine (b_L_pixel_0 (x1' := 98) (wr_id (by decide) (by decide))).trans ?_
  refine (sw_at (x := 98) _ _ _ _ 0 120 rfl rfl).trans ?_
  refine (b_L_pixel_120 k).trans ?_
  rw [e, cl_h (pc' := 183) (i := 5) rfl]
  exact b_L_pixel_183
theorem A_partAt {x2 x3 x4 : Int} {h h' : am_H} {v : Int} (k : K9 h 2) (e : rn m_X11_partAt 0 [.ref 2, .int (mI x2), .int (mI x3), .int (mI x4), am_J] [] h = some (.inl (some (.int (mI v))), h')) : rn m_L_pixel 0 [.ref 2, .int (mI 112), .int (mI x2), .int (mI x3), .int (mI x4), am_J] [] h = some (.inl (some (.int (mI v))), h') := by
  refine (b_L_pixel_0 (x1' := 112) (wr_id (by decide) (by decide))).trans ?_
  refine (sw_at (x := 112) _ _ _ _ 14 138 rfl rfl).trans ?_
  refine (b_L_pixel_138 k).trans ?_
  rw [e, cl_v]
  exact b_L_pixel_146
theorem A_partAt_x1 {x2 x3 x4 : Int} {h h' : am_H} (k : K9 h 2) (e : rn m_X11_partAt 0 [.ref 2, .int (mI x2), .int (mI x3), .int (mI x4), am_J] [] h = some (.inr 1, h')) : rn m_L_pixel 0 [.ref 2, .int (mI 112), .int (mI x2), .int (mI x3), .int (mI x4), am_J] [] h = some (.inl (some (.int (mI (-100001)))), h') := by
  refine (b_L_pixel_0 (x1' := 112) (wr_id (by decide) (by decide))).trans ?_
  refine (sw_at (x := 112) _ _ _ _ 14 138 rfl rfl).trans ?_
  refine (b_L_pixel_138 k).trans ?_
  rw [e, cl_h (pc' := 178) (i := 5) rfl]
  exact b_L_pixel_178
theorem A_partAt_x4 {x2 x3 x4 : Int} {h h' : am_H} (k : K9 h 2) (e : rn m_X11_partAt 0 [.ref 2, .int (mI x2), .int (mI x3), .int (mI x4), am_J] [] h = some (.inr 4, h')) : rn m_L_pixel 0 [.ref 2, .int (mI 112), .int (mI x2), .int (mI x3), .int (mI x4), am_J] [] h = some (.inl (some (.int (mI (-100005)))), h') := by
  refine (b_L_pixel_0 (x1' := 112) (wr_id (by decide) (by decide))).trans ?_
  refine (sw_at (x := 112) _ _ _ _ 14 138 rfl rfl).trans ?_
  refine (b_L_pixel_138 k).trans ?_
  rw [e, cl_h (pc' := 183) (i := 5) rfl]
  exact b_L_pixel_183
theorem A_modeAt {x2 x3 x4 : Int} {h h' : am_H} {v : Int} (k : K9 h 2) (e : rn m_X11_modeAt 0 [.ref 2, .int (mI x2), .int (mI x3), .int (mI x4), am_J] [] h = some (.inl (some (.int (mI v))), h')) : rn m_L_pixel 0 [.ref 2, .int (mI 109), .int (mI x2), .int (mI x3), .int (mI x4), am_J] [] h = some (.inl (some (.int (mI v))), h') := by
  refine (b_L_pixel_0 (x1' := 109) (wr_id (by decide) (by decide))).trans ?_
  refine (sw_at (x := 109) _ _ _ _ 11 147 rfl rfl).trans ?_
  refine (b_L_pixel_147 k).trans ?_
  rw [e, cl_v]
  exact b_L_pixel_155
theorem A_modeAt_x1 {x2 x3 x4 : Int} {h h' : am_H} (k : K9 h 2) (e : rn m_X11_modeAt 0 [.ref 2, .int (mI x2), .int (mI x3), .int (mI x4), am_J] [] h = some (.inr 1, h')) : rn m_L_pixel 0 [.ref 2, .int (mI 109), .int (mI x2), .int (mI x3), .int (mI x4), am_J] [] h = some (.inl (some (.int (mI (-100001)))), h') := by
  refine (b_L_pixel_0 (x1' := 109) (wr_id (by decide) (by decide))).trans ?_
  refine (sw_at (x := 109) _ _ _ _ 11 147 rfl rfl).trans ?_
  refine (b_L_pixel_147 k).trans ?_
  rw [e, cl_h (pc' := 178) (i := 5) rfl]
  exact b_L_pixel_178
theorem A_modeAt_x4 {x2 x3 x4 : Int} {h h' : am_H} (k : K9 h 2) (e : rn m_X11_modeAt 0 [.ref 2, .int (mI x2), .int (mI x3), .int (mI x4), am_J] [] h = some (.inr 4, h')) : rn m_L_pixel 0 [.ref 2, .int (mI 109), .int (mI x2), .int (mI x3), .int (mI x4), am_J] [] h = some (.inl (some (.int (mI (-100005)))), h') := by
  refine (b_L_pixel_0 (x1' := 109) (wr_id (by decide) (by decide))).trans ?_
  refine (sw_at (x := 109) _ _ _ _ 11 147 rfl rfl).trans ?_
  refine (b_L_pixel_147 k).trans ?_
  rw [e, cl_h (pc' := 183) (i := 5) rfl]
  exact b_L_pixel_183
theorem A_fill {z0 z1 z2 z3 z4 : Int} {h h' : am_H} {v : Int} (k : K9 h 2) {A : Nat} (n : gn h A = 5) (s : sh h A = (1, 0)) (e0 : gZ h A 0 = z0) (e1 : gZ h A 1 = z1) (e2 : gZ h A 2 = z2) (e3 : gZ h A 3 = z3) (e4 : gZ h A 4 = z4) (e : rn m_X11_fill 0 [.ref 2, .int (mI z0), .int (mI z1), .int (mI z2), .int (mI z3), .int (mI z4), am_J, am_J, am_J, am_J] [] h = some (.inl (some (.int (mI v))), h')) : rn m_L_paint 0 [.ref 2, .int (mI 102), .ref A, am_J] [] h = some (.inl (some (.int (mI v))), h') := by
  refine (b_L_paint_0 (x1' := 102) (wr_id (by decide) (by decide))).trans ?_
  refine (show lks (102 : Int) (fun p => rn m_L_paint p [.ref 2, .int (mI 102), .ref A, am_J] [] h) 81 [(102, 36), (103, 70), (115, 56)] = rn m_L_paint 36 [.ref 2, .int (mI 102), .ref A, am_J] [] h from rfl).trans ?_
  refine (b_L_paint_36 (n_a2 := 5) n s (by omega) (by omega) (by omega) (by omega) (by omega) k).trans ?_
  rw [e0, e1, e2, e3, e4]
  rw [e, cl_v]
  exact b_L_paint_55
theorem A_fill_x0 {z0 z1 z2 z3 z4 : Int} {h h' : am_H} (k : K9 h 2) {A : Nat} (n : gn h A = 5) (s : sh h A = (1, 0)) (e0 : gZ h A 0 = z0) (e1 : gZ h A 1 = z1) (e2 : gZ h A 2 = z2) (e3 : gZ h A 3 = z3) (e4 : gZ h A 4 = z4) (e : rn m_X11_fill 0 [.ref 2, .int (mI z0), .int (mI z1), .int (mI z2), .int (mI z3), .int (mI z4), am_J, am_J, am_J, am_J] [] h = some (.inr 0, h')) : rn m_L_paint 0 [.ref 2, .int (mI 102), .ref A, am_J] [] h = some (.inl (some (.int (mI (-2147000002)))), h') := by
  refine (b_L_paint_0 (x1' := 102) (wr_id (by decide) (by decide))).trans ?_
  refine (show lks (102 : Int) (fun p => rn m_L_paint p [.ref 2, .int (mI 102), .ref A, am_J] [] h) 81 [(102, 36), (103, 70), (115, 56)] = rn m_L_paint 36 [.ref 2, .int (mI 102), .ref A, am_J] [] h from rfl).trans ?_
  refine (b_L_paint_36 (n_a2 := 5) n s (by omega) (by omega) (by omega) (by omega) (by omega) k).trans ?_
  rw [e0, e1, e2, e3, e4]
  rw [e, cl_h (pc' := 93) (i := 3) rfl]
  exact b_L_paint_93
theorem A_slope {z0 z1 z2 : Int} {h h' : am_H} {v : Int} (k : K9 h 2) {A : Nat} (n : gn h A = 3) (s : sh h A = (1, 0)) (e0 : gZ h A 0 = z0) (e1 : gZ h A 1 = z1) (e2 : gZ h A 2 = z2) (e : rn m_X11_slope 0 [.ref 2, .int (mI z0), .int (mI z1), .int (mI z2), am_J, am_J] [] h = some (.inl (some (.int (mI v))), h')) : rn m_L_paint 0 [.ref 2, .int (mI 115), .ref A, am_J] [] h = some (.inl (some (.int (mI v))), h') := by
  refine (b_L_paint_0 (x1' := 115) (wr_id (by decide) (by decide))).trans ?_
  refine (show lks (115 : Int) (fun p => rn m_L_paint p [.ref 2, .int (mI 115), .ref A, am_J] [] h) 81 [(102, 36), (103, 70), (115, 56)] = rn m_L_paint 56 [.ref 2, .int (mI 115), .ref A, am_J] [] h from rfl).trans ?_
  refine (b_L_paint_56 (n_a2 := 3) n s (by omega) (by omega) (by omega) k).trans ?_
  rw [e0, e1, e2]
  rw [e, cl_v]
  exact b_L_paint_69
theorem A_slope_x0 {z0 z1 z2 : Int} {h h' : am_H} (k : K9 h 2) {A : Nat} (n : gn h A = 3) (s : sh h A = (1, 0)) (e0 : gZ h A 0 = z0) (e1 : gZ h A 1 = z1) (e2 : gZ h A 2 = z2) (e : rn m_X11_slope 0 [.ref 2, .int (mI z0), .int (mI z1), .int (mI z2), am_J, am_J] [] h = some (.inr 0, h')) : rn m_L_paint 0 [.ref 2, .int (mI 115), .ref A, am_J] [] h = some (.inl (some (.int (mI (-2147000002)))), h') := by
  refine (b_L_paint_0 (x1' := 115) (wr_id (by decide) (by decide))).trans ?_
  refine (show lks (115 : Int) (fun p => rn m_L_paint p [.ref 2, .int (mI 115), .ref A, am_J] [] h) 81 [(102, 36), (103, 70), (115, 56)] = rn m_L_paint 56 [.ref 2, .int (mI 115), .ref A, am_J] [] h from rfl).trans ?_
  refine (b_L_paint_56 (n_a2 := 3) n s (by omega) (by omega) (by omega) k).trans ?_
  rw [e0, e1, e2]
  rw [e, cl_h (pc' := 93) (i := 3) rfl]
  exact b_L_paint_93
theorem A_grain {z0 z1 : Int} {h h' : am_H} {v : Int} (k : K9 h 2) {A : Nat} (n : gn h A = 2) (s : sh h A = (1, 0)) (e0 : gZ h A 0 = z0) (e1 : gZ h A 1 = z1) (e : rn m_X11_grain 0 [.ref 2, .int (mI z0), .int (mI z1), am_J, am_J, am_J] [] h = some (.inl (some (.int (mI v))), h')) : rn m_L_paint 0 [.ref 2, .int (mI 103), .ref A, am_J] [] h = some (.inl (some (.int (mI v))), h') := by
  refine (b_L_paint_0 (x1' := 103) (wr_id (by decide) (by decide))).trans ?_
  refine (show lks (103 : Int) (fun p => rn m_L_paint p [.ref 2, .int (mI 103), .ref A, am_J] [] h) 81 [(102, 36), (103, 70), (115, 56)] = rn m_L_paint 70 [.ref 2, .int (mI 103), .ref A, am_J] [] h from rfl).trans ?_
  refine (b_L_paint_70 (n_a2 := 2) n s (by omega) (by omega) k).trans ?_
  rw [e0, e1]
  rw [e, cl_v]
  exact b_L_paint_80
theorem A_grain_x0 {z0 z1 : Int} {h h' : am_H} (k : K9 h 2) {A : Nat} (n : gn h A = 2) (s : sh h A = (1, 0)) (e0 : gZ h A 0 = z0) (e1 : gZ h A 1 = z1) (e : rn m_X11_grain 0 [.ref 2, .int (mI z0), .int (mI z1), am_J, am_J, am_J] [] h = some (.inr 0, h')) : rn m_L_paint 0 [.ref 2, .int (mI 103), .ref A, am_J] [] h = some (.inl (some (.int (mI (-2147000002)))), h') := by
  refine (b_L_paint_0 (x1' := 103) (wr_id (by decide) (by decide))).trans ?_
  refine (show lks (103 : Int) (fun p => rn m_L_paint p [.ref 2, .int (mI 103), .ref A, am_J] [] h) 81 [(102, 36), (103, 70), (115, 56)] = rn m_L_paint 70 [.ref 2, .int (mI 103), .ref A, am_J] [] h from rfl).trans ?_
  refine (b_L_paint_70 (n_a2 := 2) n s (by omega) (by omega) k).trans ?_
  rw [e0, e1]
  rw [e, cl_h (pc' := 93) (i := 3) rfl]
  exact b_L_paint_93
theorem A_move {z0 z1 : Int} {h h' : am_H} {v : Int} (k : K9 h 2) {A : Nat} (n : gn h A = 2) (s : sh h A = (1, 0)) (e0 : gZ h A 0 = z0) (e1 : gZ h A 1 = z1) (e : rn m_X11_move 0 [.ref 2, .int (mI z0), .int (mI z1), am_J, am_J, am_J] [] h = some (.inl (some (.int (mI v))), h')) : rn m_L_paint 0 [.ref 2, .int (mI 109), .ref A, am_J] [] h = some (.inl (some (.int (mI v))), h') := by
  refine (b_L_paint_0 (x1' := 109) (wr_id (by decide) (by decide))).trans ?_
  refine (show lks (109 : Int) (fun p => rn m_L_paint p [.ref 2, .int (mI 109), .ref A, am_J] [] h) 81 [(102, 36), (103, 70), (115, 56)] = rn m_L_paint 81 [.ref 2, .int (mI 109), .ref A, am_J] [] h from rfl).trans ?_
  refine (b_L_paint_81 (n_a2 := 2) n s (by omega) (by omega) k).trans ?_
  rw [e0, e1]
  rw [e, cl_v]
  exact b_L_paint_91
theorem A_move_x0 {z0 z1 : Int} {h h' : am_H} (k : K9 h 2) {A : Nat} (n : gn h A = 2) (s : sh h A = (1, 0)) (e0 : gZ h A 0 = z0) (e1 : gZ h A 1 = z1) (e : rn m_X11_move 0 [.ref 2, .int (mI z0), .int (mI z1), am_J, am_J, am_J] [] h = some (.inr 0, h')) : rn m_L_paint 0 [.ref 2, .int (mI 109), .ref A, am_J] [] h = some (.inl (some (.int (mI (-2147000002)))), h') := by
  refine (b_L_paint_0 (x1' := 109) (wr_id (by decide) (by decide))).trans ?_
  refine (show lks (109 : Int) (fun p => rn m_L_paint p [.ref 2, .int (mI 109), .ref A, am_J] [] h) 81 [(102, 36), (103, 70), (115, 56)] = rn m_L_paint 81 [.ref 2, .int (mI 109), .ref A, am_J] [] h from rfl).trans ?_
  refine (b_L_paint_81 (n_a2 := 2) n s (by omega) (by omega) k).trans ?_
  rw [e0, e1]
  rw [e, cl_h (pc' := 93) (i := 3) rfl]
  exact b_L_paint_93
