/-! ===== the law's calls of the class ===== -/
theorem cl_h {m x pc' i : Nat} (q : am_hd m x = some (pc', i)) (pc : Nat) (L st : List Value) (h : am_H) : cl m pc L st (some (.inr x, h)) = rn m pc' (am_st L i am_J) [] h := by
  simp only [cl, q]
theorem i_L_bucket_0 : am_i m_L_bucket 0 = some (0, .aload_n 1, 1, [], 0) := rfl
theorem i_L_bucket_1 : am_i m_L_bucket 1 = some (1, .iconst 0, 1, [], 0) := rfl
theorem i_L_bucket_2 : am_i m_L_bucket 2 = some (2, .aload_n 0, 1, [], 0) := rfl
theorem i_L_bucket_3 : am_i m_L_bucket 3 = some (3, .invokevirtual 55, 3, [188, 9], 0) := rfl
theorem b_L_bucket_0 {a0 a1 : Nat} {h : am_H} (k1 : K9 h a0) : rn m_L_bucket 0 [.ref a0, .ref a1, am_J] [] h = cl m_L_bucket 6 [.ref a0, .ref a1, am_J] [.int (mI 0), .ref a1] (rn m_X11_bucket 0 [.ref a0] [] h) := by
  refine (tq_aload_n i_L_bucket_0 rfl (isA_ref _) rfl).trans ?_
  refine (tq_iconst i_L_bucket_1 rfl).trans ?_
  refine (tq_aload_n i_L_bucket_2 rfl (isA_ref _) rfl).trans ?_
  exact c_X11_bucket i_L_bucket_3 (K9_s k1) (ltd d_L_bucket (by decide)) (stOk_2 _ _) rfl
theorem i_L_bucket_6 : am_i m_L_bucket 6 = some (6, .i2l, 1, [], 0) := rfl
theorem i_L_bucket_7 : am_i m_L_bucket 7 = some (7, .lastore, 1, [], 0) := rfl
theorem i_L_bucket_8 : am_i m_L_bucket 8 = some (8, .goto 6, 3, [], 0) := rfl
theorem i_L_bucket_14 : am_i m_L_bucket 14 = some (14, .iconst 0, 1, [], 0) := rfl
theorem i_L_bucket_15 : am_i m_L_bucket 15 = some (15, .ireturn, 1, [], 0) := rfl
theorem b_L_bucket_6 {v0 v1 v2 : Value} {xs0 xs1 xs0' xs1' : Int} {as2 n_as2 : Nat} {h : am_H} (ws0 : wr xs0 = xs0') (ws1 : wr xs1 = xs1') (n1 : gn h as2 = n_as2) (s2 : sh h as2 = (2, 3)) (g3 : 0 ≤ xs1' ∧ xs1' < (n_as2 : Int)) : rn m_L_bucket 6 [v0, v1, v2] [.int (mI xs0), .int (mI xs1), .ref as2] h = some (.inl (some (.int (mI 0))), uJ h as2 xs1' xs0') := by
  refine (tq_i2l i_L_bucket_6 ws0 rfl).trans ?_
  refine (tq_lastore i_L_bucket_7 s2 ws1 g3.1 (lt_gn n1 g3.2) rfl).trans ?_
  refine (tq_goto (pc' := 14) i_L_bucket_8 (by decide)).trans ?_
  refine (tq_iconst i_L_bucket_14 rfl).trans ?_
  exact tq_ireturn i_L_bucket_15 r_L_bucket rfl
theorem i_L_bucket_12 : am_i m_L_bucket 12 = some (12, .iconst 1, 1, [], 1) := rfl
theorem i_L_bucket_13 : am_i m_L_bucket 13 = some (13, .ireturn, 1, [], 0) := rfl
theorem b_L_bucket_12 {v0 v1 v2 : Value} {h : am_H} : rn m_L_bucket 12 [v0, v1, v2] [] h = some (.inl (some (.int (mI 1))), h) := by
  refine (tq_iconst i_L_bucket_12 rfl).trans ?_
  exact tq_ireturn i_L_bucket_13 r_L_bucket rfl
theorem W_bucket {h h' : am_H} {v : Int} (k : K9 h 2) (o : OUT h') (w : wr v = v) (e : rn m_X11_bucket 0 [.ref 2] [] h = some (.inl (some (.int (mI v))), h')) : rn m_L_bucket 0 [.ref 2, .ref 74, am_J] [] h = some (.inl (some (.int (mI 0))), uJ h' 74 0 v) := by
  have st := b_L_bucket_0 (a0 := 2) (a1 := 74) (h := h) k
  rw [e, cl_v, b_L_bucket_6 w (wr_id (by decide) (by decide)) o.1.2 o.1.1 (by decide)] at st
  exact st
theorem W_bucket_x4 {h h' : am_H} (k : K9 h 2) (e : rn m_X11_bucket 0 [.ref 2] [] h = some (.inr 4, h')) : rn m_L_bucket 0 [.ref 2, .ref 74, am_J] [] h = some (.inl (some (.int (mI 1))), h') := by
  have st := b_L_bucket_0 (a0 := 2) (a1 := 74) (h := h) k
  rw [e, cl_h (pc' := 12) (i := 2) rfl] at st
  exact st.trans b_L_bucket_12
theorem i_L_cleanShare_0 : am_i m_L_cleanShare 0 = some (0, .aload_n 1, 1, [], 0) := rfl
theorem i_L_cleanShare_1 : am_i m_L_cleanShare 1 = some (1, .iconst 0, 1, [], 0) := rfl
theorem i_L_cleanShare_2 : am_i m_L_cleanShare 2 = some (2, .aload_n 0, 1, [], 0) := rfl
theorem i_L_cleanShare_3 : am_i m_L_cleanShare 3 = some (3, .invokevirtual 125, 3, [189, 9], 0) := rfl
theorem b_L_cleanShare_0 {a0 a1 : Nat} {h : am_H} (k1 : K9 h a0) : rn m_L_cleanShare 0 [.ref a0, .ref a1, am_J] [] h = cl m_L_cleanShare 6 [.ref a0, .ref a1, am_J] [.int (mI 0), .ref a1] (rn m_X11_cleanShare 0 [.ref a0] [] h) := by
  refine (tq_aload_n i_L_cleanShare_0 rfl (isA_ref _) rfl).trans ?_
  refine (tq_iconst i_L_cleanShare_1 rfl).trans ?_
  refine (tq_aload_n i_L_cleanShare_2 rfl (isA_ref _) rfl).trans ?_
  exact c_X11_cleanShare i_L_cleanShare_3 (K9_s k1) (ltd d_L_cleanShare (by decide)) (stOk_2 _ _) rfl
theorem i_L_cleanShare_6 : am_i m_L_cleanShare 6 = some (6, .f2d, 1, [], 0) := rfl
theorem i_L_cleanShare_7 : am_i m_L_cleanShare 7 = some (7, .dastore, 1, [], 0) := rfl
theorem i_L_cleanShare_8 : am_i m_L_cleanShare 8 = some (8, .goto 6, 3, [], 0) := rfl
theorem i_L_cleanShare_14 : am_i m_L_cleanShare 14 = some (14, .iconst 0, 1, [], 0) := rfl
theorem i_L_cleanShare_15 : am_i m_L_cleanShare 15 = some (15, .ireturn, 1, [], 0) := rfl
theorem b_L_cleanShare_6 {v0 v1 v2 : Value} {fs0 : UInt32} {xs1 xs1' : Int} {as2 n_as2 : Nat} {h : am_H} (ws1 : wr xs1 = xs1') (g1 : decide (FP.f2d fs0 &&& 0x7fffffffffffffff ≤ 0x7ff0000000000000) = true) (n2 : gn h as2 = n_as2) (s3 : sh h as2 = (3, 4)) (g4 : 0 ≤ xs1' ∧ xs1' < (n_as2 : Int)) : rn m_L_cleanShare 6 [v0, v1, v2] [.float fs0, .int (mI xs1), .ref as2] h = some (.inl (some (.int (mI 0))), uD h as2 xs1' (FP.f2d fs0)) := by
  refine (tq_f2d i_L_cleanShare_6 g1 rfl).trans ?_
  refine (tq_dastore i_L_cleanShare_7 s3 ws1 g4.1 (lt_gn n2 g4.2) rfl).trans ?_
  refine (tq_goto (pc' := 14) i_L_cleanShare_8 (by decide)).trans ?_
  refine (tq_iconst i_L_cleanShare_14 rfl).trans ?_
  exact tq_ireturn i_L_cleanShare_15 r_L_cleanShare rfl
theorem i_L_cleanShare_12 : am_i m_L_cleanShare 12 = some (12, .iconst 1, 1, [], 1) := rfl
theorem i_L_cleanShare_13 : am_i m_L_cleanShare 13 = some (13, .ireturn, 1, [], 0) := rfl
theorem b_L_cleanShare_12 {v0 v1 v2 : Value} {h : am_H} : rn m_L_cleanShare 12 [v0, v1, v2] [] h = some (.inl (some (.int (mI 1))), h) := by
  refine (tq_iconst i_L_cleanShare_12 rfl).trans ?_
  exact tq_ireturn i_L_cleanShare_13 r_L_cleanShare rfl
theorem W_cleanShare_x5 {h h' : am_H} (k : K9 h 2) (e : rn m_X11_cleanShare 0 [.ref 2] [] h = some (.inr 5, h')) : rn m_L_cleanShare 0 [.ref 2, .ref 75, am_J] [] h = some (.inl (some (.int (mI 1))), h') := by
  have st := b_L_cleanShare_0 (a0 := 2) (a1 := 75) (h := h) k
  rw [e, cl_h (pc' := 12) (i := 2) rfl] at st
  exact st.trans b_L_cleanShare_12
theorem i_L_fill_0 : am_i m_L_fill 0 = some (0, .aload 6, 2, [], 0) := rfl
theorem i_L_fill_2 : am_i m_L_fill 2 = some (2, .iconst 0, 1, [], 0) := rfl
theorem i_L_fill_3 : am_i m_L_fill 3 = some (3, .aload_n 0, 1, [], 0) := rfl
theorem i_L_fill_4 : am_i m_L_fill 4 = some (4, .iload_n 1, 1, [], 0) := rfl
theorem i_L_fill_5 : am_i m_L_fill 5 = some (5, .iload_n 2, 1, [], 0) := rfl
theorem i_L_fill_6 : am_i m_L_fill 6 = some (6, .iload_n 3, 1, [], 0) := rfl
theorem i_L_fill_7 : am_i m_L_fill 7 = some (7, .iload 4, 2, [], 0) := rfl
theorem i_L_fill_9 : am_i m_L_fill 9 = some (9, .iload 5, 2, [], 0) := rfl
theorem i_L_fill_11 : am_i m_L_fill 11 = some (11, .invokevirtual 7, 3, [190, 9], 0) := rfl
theorem b_L_fill_0 {a0 a6 : Nat} {x1 x2 x3 x4 x5 : Int} {h : am_H} (k1 : K9 h a0) : rn m_L_fill 0 [.ref a0, .int (mI x1), .int (mI x2), .int (mI x3), .int (mI x4), .int (mI x5), .ref a6, am_J] [] h = cl m_L_fill 14 [.ref a0, .int (mI x1), .int (mI x2), .int (mI x3), .int (mI x4), .int (mI x5), .ref a6, am_J] [.int (mI 0), .ref a6] (rn m_X11_fill 0 [.ref a0, .int (mI x1), .int (mI x2), .int (mI x3), .int (mI x4), .int (mI x5), am_J, am_J, am_J, am_J] [] h) := by
  refine (tq_aload i_L_fill_0 rfl (isA_ref _) rfl).trans ?_
  refine (tq_iconst i_L_fill_2 rfl).trans ?_
  refine (tq_aload_n i_L_fill_3 rfl (isA_ref _) rfl).trans ?_
  refine (tq_iload_n i_L_fill_4 rfl rfl).trans ?_
  refine (tq_iload_n i_L_fill_5 rfl rfl).trans ?_
  refine (tq_iload_n i_L_fill_6 rfl rfl).trans ?_
  refine (tq_iload i_L_fill_7 rfl rfl).trans ?_
  refine (tq_iload i_L_fill_9 rfl rfl).trans ?_
  exact c_X11_fill i_L_fill_11 (K9_s k1) (ltd d_L_fill (by decide)) (stOk_2 _ _) rfl
theorem i_L_fill_14 : am_i m_L_fill 14 = some (14, .i2l, 1, [], 0) := rfl
theorem i_L_fill_15 : am_i m_L_fill 15 = some (15, .lastore, 1, [], 0) := rfl
theorem i_L_fill_16 : am_i m_L_fill 16 = some (16, .goto 7, 3, [], 0) := rfl
theorem i_L_fill_23 : am_i m_L_fill 23 = some (23, .iconst 0, 1, [], 0) := rfl
theorem i_L_fill_24 : am_i m_L_fill 24 = some (24, .ireturn, 1, [], 0) := rfl
theorem b_L_fill_14 {v0 v1 v2 v3 v4 v5 v6 v7 : Value} {xs0 xs1 xs0' xs1' : Int} {as2 n_as2 : Nat} {h : am_H} (ws0 : wr xs0 = xs0') (ws1 : wr xs1 = xs1') (n1 : gn h as2 = n_as2) (s2 : sh h as2 = (2, 3)) (g3 : 0 ≤ xs1' ∧ xs1' < (n_as2 : Int)) : rn m_L_fill 14 [v0, v1, v2, v3, v4, v5, v6, v7] [.int (mI xs0), .int (mI xs1), .ref as2] h = some (.inl (some (.int (mI 0))), uJ h as2 xs1' xs0') := by
  refine (tq_i2l i_L_fill_14 ws0 rfl).trans ?_
  refine (tq_lastore i_L_fill_15 s2 ws1 g3.1 (lt_gn n1 g3.2) rfl).trans ?_
  refine (tq_goto (pc' := 23) i_L_fill_16 (by decide)).trans ?_
  refine (tq_iconst i_L_fill_23 rfl).trans ?_
  exact tq_ireturn i_L_fill_24 r_L_fill rfl
theorem i_L_fill_21 : am_i m_L_fill 21 = some (21, .iconst 1, 1, [], 1) := rfl
theorem i_L_fill_22 : am_i m_L_fill 22 = some (22, .ireturn, 1, [], 0) := rfl
theorem b_L_fill_21 {v0 v1 v2 v3 v4 v5 v6 v7 : Value} {h : am_H} : rn m_L_fill 21 [v0, v1, v2, v3, v4, v5, v6, v7] [] h = some (.inl (some (.int (mI 1))), h) := by
  refine (tq_iconst i_L_fill_21 rfl).trans ?_
  exact tq_ireturn i_L_fill_22 r_L_fill rfl
theorem W_fill {x1 x2 x3 x4 x5 : Int} {h h' : am_H} {v : Int} (k : K9 h 2) (o : OUT h') (w : wr v = v) (e : rn m_X11_fill 0 [.ref 2, .int (mI x1), .int (mI x2), .int (mI x3), .int (mI x4), .int (mI x5), am_J, am_J, am_J, am_J] [] h = some (.inl (some (.int (mI v))), h')) : rn m_L_fill 0 [.ref 2, .int (mI x1), .int (mI x2), .int (mI x3), .int (mI x4), .int (mI x5), .ref 74, am_J] [] h = some (.inl (some (.int (mI 0))), uJ h' 74 0 v) := by
  have st := b_L_fill_0 (a0 := 2) (a6 := 74) (x1 := x1) (x2 := x2) (x3 := x3) (x4 := x4) (x5 := x5) (h := h) k
  rw [e, cl_v, b_L_fill_14 w (wr_id (by decide) (by decide)) o.1.2 o.1.1 (by decide)] at st
  exact st
theorem W_fill_x0 {x1 x2 x3 x4 x5 : Int} {h h' : am_H} (k : K9 h 2) (e : rn m_X11_fill 0 [.ref 2, .int (mI x1), .int (mI x2), .int (mI x3), .int (mI x4), .int (mI x5), am_J, am_J, am_J, am_J] [] h = some (.inr 0, h')) : rn m_L_fill 0 [.ref 2, .int (mI x1), .int (mI x2), .int (mI x3), .int (mI x4), .int (mI x5), .ref 74, am_J] [] h = some (.inl (some (.int (mI 1))), h') := by
  have st := b_L_fill_0 (a0 := 2) (a6 := 74) (x1 := x1) (x2 := x2) (x3 := x3) (x4 := x4) (x5 := x5) (h := h) k
  rw [e, cl_h (pc' := 21) (i := 7) rfl] at st
  exact st.trans b_L_fill_21
theorem i_L_grain_0 : am_i m_L_grain 0 = some (0, .aload_n 3, 1, [], 0) := rfl
theorem i_L_grain_1 : am_i m_L_grain 1 = some (1, .iconst 0, 1, [], 0) := rfl
theorem i_L_grain_2 : am_i m_L_grain 2 = some (2, .aload_n 0, 1, [], 0) := rfl
theorem i_L_grain_3 : am_i m_L_grain 3 = some (3, .iload_n 1, 1, [], 0) := rfl
theorem i_L_grain_4 : am_i m_L_grain 4 = some (4, .iload_n 2, 1, [], 0) := rfl
theorem i_L_grain_5 : am_i m_L_grain 5 = some (5, .invokevirtual 19, 3, [191, 9], 0) := rfl
theorem b_L_grain_0 {a0 a3 : Nat} {x1 x2 : Int} {h : am_H} (k1 : K9 h a0) : rn m_L_grain 0 [.ref a0, .int (mI x1), .int (mI x2), .ref a3, am_J] [] h = cl m_L_grain 8 [.ref a0, .int (mI x1), .int (mI x2), .ref a3, am_J] [.int (mI 0), .ref a3] (rn m_X11_grain 0 [.ref a0, .int (mI x1), .int (mI x2), am_J, am_J, am_J] [] h) := by
  refine (tq_aload_n i_L_grain_0 rfl (isA_ref _) rfl).trans ?_
  refine (tq_iconst i_L_grain_1 rfl).trans ?_
  refine (tq_aload_n i_L_grain_2 rfl (isA_ref _) rfl).trans ?_
  refine (tq_iload_n i_L_grain_3 rfl rfl).trans ?_
  refine (tq_iload_n i_L_grain_4 rfl rfl).trans ?_
  exact c_X11_grain i_L_grain_5 (K9_s k1) (ltd d_L_grain (by decide)) (stOk_2 _ _) rfl
theorem i_L_grain_8 : am_i m_L_grain 8 = some (8, .i2l, 1, [], 0) := rfl
theorem i_L_grain_9 : am_i m_L_grain 9 = some (9, .lastore, 1, [], 0) := rfl
theorem i_L_grain_10 : am_i m_L_grain 10 = some (10, .goto 7, 3, [], 0) := rfl
theorem i_L_grain_17 : am_i m_L_grain 17 = some (17, .iconst 0, 1, [], 0) := rfl
theorem i_L_grain_18 : am_i m_L_grain 18 = some (18, .ireturn, 1, [], 0) := rfl
theorem b_L_grain_8 {v0 v1 v2 v3 v4 : Value} {xs0 xs1 xs0' xs1' : Int} {as2 n_as2 : Nat} {h : am_H} (ws0 : wr xs0 = xs0') (ws1 : wr xs1 = xs1') (n1 : gn h as2 = n_as2) (s2 : sh h as2 = (2, 3)) (g3 : 0 ≤ xs1' ∧ xs1' < (n_as2 : Int)) : rn m_L_grain 8 [v0, v1, v2, v3, v4] [.int (mI xs0), .int (mI xs1), .ref as2] h = some (.inl (some (.int (mI 0))), uJ h as2 xs1' xs0') := by
  refine (tq_i2l i_L_grain_8 ws0 rfl).trans ?_
  refine (tq_lastore i_L_grain_9 s2 ws1 g3.1 (lt_gn n1 g3.2) rfl).trans ?_
  refine (tq_goto (pc' := 17) i_L_grain_10 (by decide)).trans ?_
  refine (tq_iconst i_L_grain_17 rfl).trans ?_
  exact tq_ireturn i_L_grain_18 r_L_grain rfl
theorem i_L_grain_15 : am_i m_L_grain 15 = some (15, .iconst 1, 1, [], 1) := rfl
theorem i_L_grain_16 : am_i m_L_grain 16 = some (16, .ireturn, 1, [], 0) := rfl
theorem b_L_grain_15 {v0 v1 v2 v3 v4 : Value} {h : am_H} : rn m_L_grain 15 [v0, v1, v2, v3, v4] [] h = some (.inl (some (.int (mI 1))), h) := by
  refine (tq_iconst i_L_grain_15 rfl).trans ?_
  exact tq_ireturn i_L_grain_16 r_L_grain rfl
theorem W_grain {x1 x2 : Int} {h h' : am_H} {v : Int} (k : K9 h 2) (o : OUT h') (w : wr v = v) (e : rn m_X11_grain 0 [.ref 2, .int (mI x1), .int (mI x2), am_J, am_J, am_J] [] h = some (.inl (some (.int (mI v))), h')) : rn m_L_grain 0 [.ref 2, .int (mI x1), .int (mI x2), .ref 74, am_J] [] h = some (.inl (some (.int (mI 0))), uJ h' 74 0 v) := by
  have st := b_L_grain_0 (a0 := 2) (a3 := 74) (x1 := x1) (x2 := x2) (h := h) k
  rw [e, cl_v, b_L_grain_8 w (wr_id (by decide) (by decide)) o.1.2 o.1.1 (by decide)] at st
  exact st
theorem W_grain_x0 {x1 x2 : Int} {h h' : am_H} (k : K9 h 2) (e : rn m_X11_grain 0 [.ref 2, .int (mI x1), .int (mI x2), am_J, am_J, am_J] [] h = some (.inr 0, h')) : rn m_L_grain 0 [.ref 2, .int (mI x1), .int (mI x2), .ref 74, am_J] [] h = some (.inl (some (.int (mI 1))), h') := by
  have st := b_L_grain_0 (a0 := 2) (a3 := 74) (x1 := x1) (x2 := x2) (h := h) k
  rw [e, cl_h (pc' := 15) (i := 4) rfl] at st
  exact st.trans b_L_grain_15
theorem i_L_join_0 : am_i m_L_join 0 = some (0, .aload_n 2, 1, [], 0) := rfl
theorem i_L_join_1 : am_i m_L_join 1 = some (1, .iconst 0, 1, [], 0) := rfl
theorem i_L_join_2 : am_i m_L_join 2 = some (2, .aload_n 0, 1, [], 0) := rfl
theorem i_L_join_3 : am_i m_L_join 3 = some (3, .iload_n 1, 1, [], 0) := rfl
theorem i_L_join_4 : am_i m_L_join 4 = some (4, .invokevirtual 103, 3, [192, 9], 0) := rfl
theorem b_L_join_0 {a0 a2 : Nat} {x1 : Int} {h : am_H} (k1 : K9 h a0) : rn m_L_join 0 [.ref a0, .int (mI x1), .ref a2, am_J] [] h = cl m_L_join 7 [.ref a0, .int (mI x1), .ref a2, am_J] [.int (mI 0), .ref a2] (rn m_X11_join 0 [.ref a0, .int (mI x1), am_J] [] h) := by
  refine (tq_aload_n i_L_join_0 rfl (isA_ref _) rfl).trans ?_
  refine (tq_iconst i_L_join_1 rfl).trans ?_
  refine (tq_aload_n i_L_join_2 rfl (isA_ref _) rfl).trans ?_
  refine (tq_iload_n i_L_join_3 rfl rfl).trans ?_
  exact c_X11_join i_L_join_4 (K9_s k1) (ltd d_L_join (by decide)) (stOk_2 _ _) rfl
theorem i_L_join_7 : am_i m_L_join 7 = some (7, .i2l, 1, [], 0) := rfl
theorem i_L_join_8 : am_i m_L_join 8 = some (8, .lastore, 1, [], 0) := rfl
theorem i_L_join_9 : am_i m_L_join 9 = some (9, .goto 6, 3, [], 0) := rfl
theorem i_L_join_15 : am_i m_L_join 15 = some (15, .iconst 0, 1, [], 0) := rfl
theorem i_L_join_16 : am_i m_L_join 16 = some (16, .ireturn, 1, [], 0) := rfl
theorem b_L_join_7 {v0 v1 v2 v3 : Value} {xs0 xs1 xs0' xs1' : Int} {as2 n_as2 : Nat} {h : am_H} (ws0 : wr xs0 = xs0') (ws1 : wr xs1 = xs1') (n1 : gn h as2 = n_as2) (s2 : sh h as2 = (2, 3)) (g3 : 0 ≤ xs1' ∧ xs1' < (n_as2 : Int)) : rn m_L_join 7 [v0, v1, v2, v3] [.int (mI xs0), .int (mI xs1), .ref as2] h = some (.inl (some (.int (mI 0))), uJ h as2 xs1' xs0') := by
  refine (tq_i2l i_L_join_7 ws0 rfl).trans ?_
  refine (tq_lastore i_L_join_8 s2 ws1 g3.1 (lt_gn n1 g3.2) rfl).trans ?_
  refine (tq_goto (pc' := 15) i_L_join_9 (by decide)).trans ?_
  refine (tq_iconst i_L_join_15 rfl).trans ?_
  exact tq_ireturn i_L_join_16 r_L_join rfl
theorem i_L_join_13 : am_i m_L_join 13 = some (13, .iconst 1, 1, [], 1) := rfl
theorem i_L_join_14 : am_i m_L_join 14 = some (14, .ireturn, 1, [], 0) := rfl
theorem b_L_join_13 {v0 v1 v2 v3 : Value} {h : am_H} : rn m_L_join 13 [v0, v1, v2, v3] [] h = some (.inl (some (.int (mI 1))), h) := by
  refine (tq_iconst i_L_join_13 rfl).trans ?_
  exact tq_ireturn i_L_join_14 r_L_join rfl
theorem W_join {x1 : Int} {h h' : am_H} {v : Int} (k : K9 h 2) (o : OUT h') (w : wr v = v) (e : rn m_X11_join 0 [.ref 2, .int (mI x1), am_J] [] h = some (.inl (some (.int (mI v))), h')) : rn m_L_join 0 [.ref 2, .int (mI x1), .ref 74, am_J] [] h = some (.inl (some (.int (mI 0))), uJ h' 74 0 v) := by
  have st := b_L_join_0 (a0 := 2) (a2 := 74) (x1 := x1) (h := h) k
  rw [e, cl_v, b_L_join_7 w (wr_id (by decide) (by decide)) o.1.2 o.1.1 (by decide)] at st
  exact st
theorem W_join_x1 {x1 : Int} {h h' : am_H} (k : K9 h 2) (e : rn m_X11_join 0 [.ref 2, .int (mI x1), am_J] [] h = some (.inr 1, h')) : rn m_L_join 0 [.ref 2, .int (mI x1), .ref 74, am_J] [] h = some (.inl (some (.int (mI 1))), h') := by
  have st := b_L_join_0 (a0 := 2) (a2 := 74) (x1 := x1) (h := h) k
  rw [e, cl_h (pc' := 13) (i := 3) rfl] at st
  exact st.trans b_L_join_13
theorem i_L_keptAt_0 : am_i m_L_keptAt 0 = some (0, .aload_n 2, 1, [], 0) := rfl
theorem i_L_keptAt_1 : am_i m_L_keptAt 1 = some (1, .iconst 0, 1, [], 0) := rfl
theorem i_L_keptAt_2 : am_i m_L_keptAt 2 = some (2, .aload_n 0, 1, [], 0) := rfl
theorem i_L_keptAt_3 : am_i m_L_keptAt 3 = some (3, .iload_n 1, 1, [], 0) := rfl
theorem i_L_keptAt_4 : am_i m_L_keptAt 4 = some (4, .invokevirtual 52, 3, [193, 9], 0) := rfl
theorem b_L_keptAt_0 {a0 a2 : Nat} {x1 : Int} {h : am_H} (k1 : K9 h a0) : rn m_L_keptAt 0 [.ref a0, .int (mI x1), .ref a2, am_J] [] h = cl m_L_keptAt 7 [.ref a0, .int (mI x1), .ref a2, am_J] [.int (mI 0), .ref a2] (rn m_X11_keptAt 0 [.ref a0, .int (mI x1)] [] h) := by
  refine (tq_aload_n i_L_keptAt_0 rfl (isA_ref _) rfl).trans ?_
  refine (tq_iconst i_L_keptAt_1 rfl).trans ?_
  refine (tq_aload_n i_L_keptAt_2 rfl (isA_ref _) rfl).trans ?_
  refine (tq_iload_n i_L_keptAt_3 rfl rfl).trans ?_
  exact c_X11_keptAt i_L_keptAt_4 (K9_s k1) (ltd d_L_keptAt (by decide)) (stOk_2 _ _) rfl
theorem i_L_keptAt_7 : am_i m_L_keptAt 7 = some (7, .i2l, 1, [], 0) := rfl
theorem i_L_keptAt_8 : am_i m_L_keptAt 8 = some (8, .lastore, 1, [], 0) := rfl
theorem i_L_keptAt_9 : am_i m_L_keptAt 9 = some (9, .goto 6, 3, [], 0) := rfl
theorem i_L_keptAt_15 : am_i m_L_keptAt 15 = some (15, .iconst 0, 1, [], 0) := rfl
theorem i_L_keptAt_16 : am_i m_L_keptAt 16 = some (16, .ireturn, 1, [], 0) := rfl
theorem b_L_keptAt_7 {v0 v1 v2 v3 : Value} {xs0 xs1 xs0' xs1' : Int} {as2 n_as2 : Nat} {h : am_H} (ws0 : wr xs0 = xs0') (ws1 : wr xs1 = xs1') (n1 : gn h as2 = n_as2) (s2 : sh h as2 = (2, 3)) (g3 : 0 ≤ xs1' ∧ xs1' < (n_as2 : Int)) : rn m_L_keptAt 7 [v0, v1, v2, v3] [.int (mI xs0), .int (mI xs1), .ref as2] h = some (.inl (some (.int (mI 0))), uJ h as2 xs1' xs0') := by
  refine (tq_i2l i_L_keptAt_7 ws0 rfl).trans ?_
  refine (tq_lastore i_L_keptAt_8 s2 ws1 g3.1 (lt_gn n1 g3.2) rfl).trans ?_
  refine (tq_goto (pc' := 15) i_L_keptAt_9 (by decide)).trans ?_
  refine (tq_iconst i_L_keptAt_15 rfl).trans ?_
  exact tq_ireturn i_L_keptAt_16 r_L_keptAt rfl
theorem i_L_keptAt_13 : am_i m_L_keptAt 13 = some (13, .iconst 1, 1, [], 1) := rfl
theorem i_L_keptAt_14 : am_i m_L_keptAt 14 = some (14, .ireturn, 1, [], 0) := rfl
theorem b_L_keptAt_13 {v0 v1 v2 v3 : Value} {h : am_H} : rn m_L_keptAt 13 [v0, v1, v2, v3] [] h = some (.inl (some (.int (mI 1))), h) := by
  refine (tq_iconst i_L_keptAt_13 rfl).trans ?_
  exact tq_ireturn i_L_keptAt_14 r_L_keptAt rfl
theorem W_keptAt {x1 : Int} {h h' : am_H} {v : Int} (k : K9 h 2) (o : OUT h') (w : wr v = v) (e : rn m_X11_keptAt 0 [.ref 2, .int (mI x1)] [] h = some (.inl (some (.int (mI v))), h')) : rn m_L_keptAt 0 [.ref 2, .int (mI x1), .ref 74, am_J] [] h = some (.inl (some (.int (mI 0))), uJ h' 74 0 v) := by
  have st := b_L_keptAt_0 (a0 := 2) (a2 := 74) (x1 := x1) (h := h) k
  rw [e, cl_v, b_L_keptAt_7 w (wr_id (by decide) (by decide)) o.1.2 o.1.1 (by decide)] at st
  exact st
theorem W_keptAt_x1 {x1 : Int} {h h' : am_H} (k : K9 h 2) (e : rn m_X11_keptAt 0 [.ref 2, .int (mI x1)] [] h = some (.inr 1, h')) : rn m_L_keptAt 0 [.ref 2, .int (mI x1), .ref 74, am_J] [] h = some (.inl (some (.int (mI 1))), h') := by
  have st := b_L_keptAt_0 (a0 := 2) (a2 := 74) (x1 := x1) (h := h) k
  rw [e, cl_h (pc' := 13) (i := 3) rfl] at st
  exact st.trans b_L_keptAt_13
theorem i_L_move_0 : am_i m_L_move 0 = some (0, .aload_n 3, 1, [], 0) := rfl
theorem i_L_move_1 : am_i m_L_move 1 = some (1, .iconst 0, 1, [], 0) := rfl
theorem i_L_move_2 : am_i m_L_move 2 = some (2, .aload_n 0, 1, [], 0) := rfl
theorem i_L_move_3 : am_i m_L_move 3 = some (3, .iload_n 1, 1, [], 0) := rfl
theorem i_L_move_4 : am_i m_L_move 4 = some (4, .iload_n 2, 1, [], 0) := rfl
theorem i_L_move_5 : am_i m_L_move 5 = some (5, .invokevirtual 23, 3, [194, 9], 0) := rfl
theorem b_L_move_0 {a0 a3 : Nat} {x1 x2 : Int} {h : am_H} (k1 : K9 h a0) : rn m_L_move 0 [.ref a0, .int (mI x1), .int (mI x2), .ref a3, am_J] [] h = cl m_L_move 8 [.ref a0, .int (mI x1), .int (mI x2), .ref a3, am_J] [.int (mI 0), .ref a3] (rn m_X11_move 0 [.ref a0, .int (mI x1), .int (mI x2), am_J, am_J, am_J] [] h) := by
  refine (tq_aload_n i_L_move_0 rfl (isA_ref _) rfl).trans ?_
  refine (tq_iconst i_L_move_1 rfl).trans ?_
  refine (tq_aload_n i_L_move_2 rfl (isA_ref _) rfl).trans ?_
  refine (tq_iload_n i_L_move_3 rfl rfl).trans ?_
  refine (tq_iload_n i_L_move_4 rfl rfl).trans ?_
  exact c_X11_move i_L_move_5 (K9_s k1) (ltd d_L_move (by decide)) (stOk_2 _ _) rfl
theorem i_L_move_8 : am_i m_L_move 8 = some (8, .i2l, 1, [], 0) := rfl
theorem i_L_move_9 : am_i m_L_move 9 = some (9, .lastore, 1, [], 0) := rfl
theorem i_L_move_10 : am_i m_L_move 10 = some (10, .goto 7, 3, [], 0) := rfl
theorem i_L_move_17 : am_i m_L_move 17 = some (17, .iconst 0, 1, [], 0) := rfl
theorem i_L_move_18 : am_i m_L_move 18 = some (18, .ireturn, 1, [], 0) := rfl
theorem b_L_move_8 {v0 v1 v2 v3 v4 : Value} {xs0 xs1 xs0' xs1' : Int} {as2 n_as2 : Nat} {h : am_H} (ws0 : wr xs0 = xs0') (ws1 : wr xs1 = xs1') (n1 : gn h as2 = n_as2) (s2 : sh h as2 = (2, 3)) (g3 : 0 ≤ xs1' ∧ xs1' < (n_as2 : Int)) : rn m_L_move 8 [v0, v1, v2, v3, v4] [.int (mI xs0), .int (mI xs1), .ref as2] h = some (.inl (some (.int (mI 0))), uJ h as2 xs1' xs0') := by
  refine (tq_i2l i_L_move_8 ws0 rfl).trans ?_
  refine (tq_lastore i_L_move_9 s2 ws1 g3.1 (lt_gn n1 g3.2) rfl).trans ?_
  refine (tq_goto (pc' := 17) i_L_move_10 (by decide)).trans ?_
  refine (tq_iconst i_L_move_17 rfl).trans ?_
  exact tq_ireturn i_L_move_18 r_L_move rfl
theorem i_L_move_15 : am_i m_L_move 15 = some (15, .iconst 1, 1, [], 1) := rfl
theorem i_L_move_16 : am_i m_L_move 16 = some (16, .ireturn, 1, [], 0) := rfl
theorem b_L_move_15 {v0 v1 v2 v3 v4 : Value} {h : am_H} : rn m_L_move 15 [v0, v1, v2, v3, v4] [] h = some (.inl (some (.int (mI 1))), h) := by
  refine (tq_iconst i_L_move_15 rfl).trans ?_
  exact tq_ireturn i_L_move_16 r_L_move rfl
theorem W_move {x1 x2 : Int} {h h' : am_H} {v : Int} (k : K9 h 2) (o : OUT h') (w : wr v = v) (e : rn m_X11_move 0 [.ref 2, .int (mI x1), .int (mI x2), am_J, am_J, am_J] [] h = some (.inl (some (.int (mI v))), h')) : rn m_L_move 0 [.ref 2, .int (mI x1), .int (mI x2), .ref 74, am_J] [] h = some (.inl (some (.int (mI 0))), uJ h' 74 0 v) := by
  have st := b_L_move_0 (a0 := 2) (a3 := 74) (x1 := x1) (x2 := x2) (h := h) k
  rw [e, cl_v, b_L_move_8 w (wr_id (by decide) (by decide)) o.1.2 o.1.1 (by decide)] at st
  exact st
theorem W_move_x0 {x1 x2 : Int} {h h' : am_H} (k : K9 h 2) (e : rn m_X11_move 0 [.ref 2, .int (mI x1), .int (mI x2), am_J, am_J, am_J] [] h = some (.inr 0, h')) : rn m_L_move 0 [.ref 2, .int (mI x1), .int (mI x2), .ref 74, am_J] [] h = some (.inl (some (.int (mI 1))), h') := by
  have st := b_L_move_0 (a0 := 2) (a3 := 74) (x1 := x1) (x2 := x2) (h := h) k
  rw [e, cl_h (pc' := 15) (i := 4) rfl] at st
  exact st.trans b_L_move_15
theorem i_L_setBucket_0 : am_i m_L_setBucket 0 = some (0, .aload_n 3, 1, [], 0) := rfl
theorem i_L_setBucket_1 : am_i m_L_setBucket 1 = some (1, .iconst 0, 1, [], 0) := rfl
theorem i_L_setBucket_2 : am_i m_L_setBucket 2 = some (2, .aload_n 0, 1, [], 0) := rfl
theorem i_L_setBucket_3 : am_i m_L_setBucket 3 = some (3, .iload_n 1, 1, [], 0) := rfl
theorem i_L_setBucket_4 : am_i m_L_setBucket 4 = some (4, .iload_n 2, 1, [], 0) := rfl
theorem i_L_setBucket_5 : am_i m_L_setBucket 5 = some (5, .invokevirtual 41, 3, [198, 9], 0) := rfl
theorem b_L_setBucket_0 {a0 a3 : Nat} {x1 x2 : Int} {h : am_H} (k1 : K9 h a0) : rn m_L_setBucket 0 [.ref a0, .int (mI x1), .int (mI x2), .ref a3, am_J] [] h = cl m_L_setBucket 8 [.ref a0, .int (mI x1), .int (mI x2), .ref a3, am_J] [.int (mI 0), .ref a3] (rn m_X11_setBucket 0 [.ref a0, .int (mI x1), .int (mI x2), am_J] [] h) := by
  refine (tq_aload_n i_L_setBucket_0 rfl (isA_ref _) rfl).trans ?_
  refine (tq_iconst i_L_setBucket_1 rfl).trans ?_
  refine (tq_aload_n i_L_setBucket_2 rfl (isA_ref _) rfl).trans ?_
  refine (tq_iload_n i_L_setBucket_3 rfl rfl).trans ?_
  refine (tq_iload_n i_L_setBucket_4 rfl rfl).trans ?_
  exact c_X11_setBucket i_L_setBucket_5 (K9_s k1) (ltd d_L_setBucket (by decide)) (stOk_2 _ _) rfl
theorem i_L_setBucket_8 : am_i m_L_setBucket 8 = some (8, .i2l, 1, [], 0) := rfl
theorem i_L_setBucket_9 : am_i m_L_setBucket 9 = some (9, .lastore, 1, [], 0) := rfl
theorem i_L_setBucket_10 : am_i m_L_setBucket 10 = some (10, .goto 7, 3, [], 0) := rfl
theorem i_L_setBucket_17 : am_i m_L_setBucket 17 = some (17, .iconst 0, 1, [], 0) := rfl
theorem i_L_setBucket_18 : am_i m_L_setBucket 18 = some (18, .ireturn, 1, [], 0) := rfl
theorem b_L_setBucket_8 {v0 v1 v2 v3 v4 : Value} {xs0 xs1 xs0' xs1' : Int} {as2 n_as2 : Nat} {h : am_H} (ws0 : wr xs0 = xs0') (ws1 : wr xs1 = xs1') (n1 : gn h as2 = n_as2) (s2 : sh h as2 = (2, 3)) (g3 : 0 ≤ xs1' ∧ xs1' < (n_as2 : Int)) : rn m_L_setBucket 8 [v0, v1, v2, v3, v4] [.int (mI xs0), .int (mI xs1), .ref as2] h = some (.inl (some (.int (mI 0))), uJ h as2 xs1' xs0') := by
  refine (tq_i2l i_L_setBucket_8 ws0 rfl).trans ?_
  refine (tq_lastore i_L_setBucket_9 s2 ws1 g3.1 (lt_gn n1 g3.2) rfl).trans ?_
  refine (tq_goto (pc' := 17) i_L_setBucket_10 (by decide)).trans ?_
  refine (tq_iconst i_L_setBucket_17 rfl).trans ?_
  exact tq_ireturn i_L_setBucket_18 r_L_setBucket rfl
theorem i_L_setBucket_15 : am_i m_L_setBucket 15 = some (15, .iconst 1, 1, [], 1) := rfl
theorem i_L_setBucket_16 : am_i m_L_setBucket 16 = some (16, .ireturn, 1, [], 0) := rfl
theorem b_L_setBucket_15 {v0 v1 v2 v3 v4 : Value} {h : am_H} : rn m_L_setBucket 15 [v0, v1, v2, v3, v4] [] h = some (.inl (some (.int (mI 1))), h) := by
  refine (tq_iconst i_L_setBucket_15 rfl).trans ?_
  exact tq_ireturn i_L_setBucket_16 r_L_setBucket rfl
theorem W_setBucket {x1 x2 : Int} {h h' : am_H} {v : Int} (k : K9 h 2) (o : OUT h') (w : wr v = v) (e : rn m_X11_setBucket 0 [.ref 2, .int (mI x1), .int (mI x2), am_J] [] h = some (.inl (some (.int (mI v))), h')) : rn m_L_setBucket 0 [.ref 2, .int (mI x1), .int (mI x2), .ref 74, am_J] [] h = some (.inl (some (.int (mI 0))), uJ h' 74 0 v) := by
  have st := b_L_setBucket_0 (a0 := 2) (a3 := 74) (x1 := x1) (x2 := x2) (h := h) k
  rw [e, cl_v, b_L_setBucket_8 w (wr_id (by decide) (by decide)) o.1.2 o.1.1 (by decide)] at st
  exact st
theorem W_setBucket_x0 {x1 x2 : Int} {h h' : am_H} (k : K9 h 2) (e : rn m_X11_setBucket 0 [.ref 2, .int (mI x1), .int (mI x2), am_J] [] h = some (.inr 0, h')) : rn m_L_setBucket 0 [.ref 2, .int (mI x1), .int (mI x2), .ref 74, am_J] [] h = some (.inl (some (.int (mI 1))), h') := by
  have st := b_L_setBucket_0 (a0 := 2) (a3 := 74) (x1 := x1) (x2 := x2) (h := h) k
  rw [e, cl_h (pc' := 15) (i := 4) rfl] at st
  exact st.trans b_L_setBucket_15
theorem i_L_setCoarseness_0 : am_i m_L_setCoarseness 0 = some (0, .aload_n 2, 1, [], 0) := rfl
theorem i_L_setCoarseness_1 : am_i m_L_setCoarseness 1 = some (1, .iconst 0, 1, [], 0) := rfl
theorem i_L_setCoarseness_2 : am_i m_L_setCoarseness 2 = some (2, .aload_n 0, 1, [], 0) := rfl
theorem i_L_setCoarseness_3 : am_i m_L_setCoarseness 3 = some (3, .iload_n 1, 1, [], 0) := rfl
theorem i_L_setCoarseness_4 : am_i m_L_setCoarseness 4 = some (4, .invokevirtual 31, 3, [199, 9], 0) := rfl
theorem b_L_setCoarseness_0 {a0 a2 : Nat} {x1 : Int} {h : am_H} (k1 : K9 h a0) : rn m_L_setCoarseness 0 [.ref a0, .int (mI x1), .ref a2, am_J] [] h = cl m_L_setCoarseness 7 [.ref a0, .int (mI x1), .ref a2, am_J] [.int (mI 0), .ref a2] (rn m_X11_setCoarseness 0 [.ref a0, .int (mI x1), am_J] [] h) := by
  refine (tq_aload_n i_L_setCoarseness_0 rfl (isA_ref _) rfl).trans ?_
  refine (tq_iconst i_L_setCoarseness_1 rfl).trans ?_
  refine (tq_aload_n i_L_setCoarseness_2 rfl (isA_ref _) rfl).trans ?_
  refine (tq_iload_n i_L_setCoarseness_3 rfl rfl).trans ?_
  exact c_X11_setCoarseness i_L_setCoarseness_4 (K9_s k1) (ltd d_L_setCoarseness (by decide)) (stOk_2 _ _) rfl
theorem i_L_setCoarseness_7 : am_i m_L_setCoarseness 7 = some (7, .i2l, 1, [], 0) := rfl
theorem i_L_setCoarseness_8 : am_i m_L_setCoarseness 8 = some (8, .lastore, 1, [], 0) := rfl
theorem i_L_setCoarseness_9 : am_i m_L_setCoarseness 9 = some (9, .goto 6, 3, [], 0) := rfl
theorem i_L_setCoarseness_15 : am_i m_L_setCoarseness 15 = some (15, .iconst 0, 1, [], 0) := rfl
theorem i_L_setCoarseness_16 : am_i m_L_setCoarseness 16 = some (16, .ireturn, 1, [], 0) := rfl
theorem b_L_setCoarseness_7 {v0 v1 v2 v3 : Value} {xs0 xs1 xs0' xs1' : Int} {as2 n_as2 : Nat} {h : am_H} (ws0 : wr xs0 = xs0') (ws1 : wr xs1 = xs1') (n1 : gn h as2 = n_as2) (s2 : sh h as2 = (2, 3)) (g3 : 0 ≤ xs1' ∧ xs1' < (n_as2 : Int)) : rn m_L_setCoarseness 7 [v0, v1, v2, v3] [.int (mI xs0), .int (mI xs1), .ref as2] h = some (.inl (some (.int (mI 0))), uJ h as2 xs1' xs0') := by
  refine (tq_i2l i_L_setCoarseness_7 ws0 rfl).trans ?_
  refine (tq_lastore i_L_setCoarseness_8 s2 ws1 g3.1 (lt_gn n1 g3.2) rfl).trans ?_
  refine (tq_goto (pc' := 15) i_L_setCoarseness_9 (by decide)).trans ?_
  refine (tq_iconst i_L_setCoarseness_15 rfl).trans ?_
  exact tq_ireturn i_L_setCoarseness_16 r_L_setCoarseness rfl
theorem i_L_setCoarseness_13 : am_i m_L_setCoarseness 13 = some (13, .iconst 1, 1, [], 1) := rfl
theorem i_L_setCoarseness_14 : am_i m_L_setCoarseness 14 = some (14, .ireturn, 1, [], 0) := rfl
theorem b_L_setCoarseness_13 {v0 v1 v2 v3 : Value} {h : am_H} : rn m_L_setCoarseness 13 [v0, v1, v2, v3] [] h = some (.inl (some (.int (mI 1))), h) := by
  refine (tq_iconst i_L_setCoarseness_13 rfl).trans ?_
  exact tq_ireturn i_L_setCoarseness_14 r_L_setCoarseness rfl
theorem W_setCoarseness {x1 : Int} {h h' : am_H} {v : Int} (k : K9 h 2) (o : OUT h') (w : wr v = v) (e : rn m_X11_setCoarseness 0 [.ref 2, .int (mI x1), am_J] [] h = some (.inl (some (.int (mI v))), h')) : rn m_L_setCoarseness 0 [.ref 2, .int (mI x1), .ref 74, am_J] [] h = some (.inl (some (.int (mI 0))), uJ h' 74 0 v) := by
  have st := b_L_setCoarseness_0 (a0 := 2) (a2 := 74) (x1 := x1) (h := h) k
  rw [e, cl_v, b_L_setCoarseness_7 w (wr_id (by decide) (by decide)) o.1.2 o.1.1 (by decide)] at st
  exact st
theorem W_setCoarseness_x0 {x1 : Int} {h h' : am_H} (k : K9 h 2) (e : rn m_X11_setCoarseness 0 [.ref 2, .int (mI x1), am_J] [] h = some (.inr 0, h')) : rn m_L_setCoarseness 0 [.ref 2, .int (mI x1), .ref 74, am_J] [] h = some (.inl (some (.int (mI 1))), h') := by
  have st := b_L_setCoarseness_0 (a0 := 2) (a2 := 74) (x1 := x1) (h := h) k
  rw [e, cl_h (pc' := 13) (i := 3) rfl] at st
  exact st.trans b_L_setCoarseness_13
theorem i_L_setSlices_0 : am_i m_L_setSlices 0 = some (0, .aload_n 2, 1, [], 0) := rfl
theorem i_L_setSlices_1 : am_i m_L_setSlices 1 = some (1, .iconst 0, 1, [], 0) := rfl
theorem i_L_setSlices_2 : am_i m_L_setSlices 2 = some (2, .aload_n 0, 1, [], 0) := rfl
theorem i_L_setSlices_3 : am_i m_L_setSlices 3 = some (3, .iload_n 1, 1, [], 0) := rfl
theorem i_L_setSlices_4 : am_i m_L_setSlices 4 = some (4, .invokevirtual 38, 3, [200, 9], 0) := rfl
theorem b_L_setSlices_0 {a0 a2 : Nat} {x1 : Int} {h : am_H} (k1 : K9 h a0) : rn m_L_setSlices 0 [.ref a0, .int (mI x1), .ref a2, am_J] [] h = cl m_L_setSlices 7 [.ref a0, .int (mI x1), .ref a2, am_J] [.int (mI 0), .ref a2] (rn m_X11_setSlices 0 [.ref a0, .int (mI x1), am_J] [] h) := by
  refine (tq_aload_n i_L_setSlices_0 rfl (isA_ref _) rfl).trans ?_
  refine (tq_iconst i_L_setSlices_1 rfl).trans ?_
  refine (tq_aload_n i_L_setSlices_2 rfl (isA_ref _) rfl).trans ?_
  refine (tq_iload_n i_L_setSlices_3 rfl rfl).trans ?_
  exact c_X11_setSlices i_L_setSlices_4 (K9_s k1) (ltd d_L_setSlices (by decide)) (stOk_2 _ _) rfl
theorem i_L_setSlices_7 : am_i m_L_setSlices 7 = some (7, .i2l, 1, [], 0) := rfl
theorem i_L_setSlices_8 : am_i m_L_setSlices 8 = some (8, .lastore, 1, [], 0) := rfl
theorem i_L_setSlices_9 : am_i m_L_setSlices 9 = some (9, .goto 6, 3, [], 0) := rfl
theorem i_L_setSlices_15 : am_i m_L_setSlices 15 = some (15, .iconst 0, 1, [], 0) := rfl
theorem i_L_setSlices_16 : am_i m_L_setSlices 16 = some (16, .ireturn, 1, [], 0) := rfl
theorem b_L_setSlices_7 {v0 v1 v2 v3 : Value} {xs0 xs1 xs0' xs1' : Int} {as2 n_as2 : Nat} {h : am_H} (ws0 : wr xs0 = xs0') (ws1 : wr xs1 = xs1') (n1 : gn h as2 = n_as2) (s2 : sh h as2 = (2, 3)) (g3 : 0 ≤ xs1' ∧ xs1' < (n_as2 : Int)) : rn m_L_setSlices 7 [v0, v1, v2, v3] [.int (mI xs0), .int (mI xs1), .ref as2] h = some (.inl (some (.int (mI 0))), uJ h as2 xs1' xs0') := by
  refine (tq_i2l i_L_setSlices_7 ws0 rfl).trans ?_
  refine (tq_lastore i_L_setSlices_8 s2 ws1 g3.1 (lt_gn n1 g3.2) rfl).trans ?_
  refine (tq_goto (pc' := 15) i_L_setSlices_9 (by decide)).trans ?_
  refine (tq_iconst i_L_setSlices_15 rfl).trans ?_
  exact tq_ireturn i_L_setSlices_16 r_L_setSlices rfl
theorem i_L_setSlices_13 : am_i m_L_setSlices 13 = some (13, .iconst 1, 1, [], 1) := rfl
theorem i_L_setSlices_14 : am_i m_L_setSlices 14 = some (14, .ireturn, 1, [], 0) := rfl
theorem b_L_setSlices_13 {v0 v1 v2 v3 : Value} {h : am_H} : rn m_L_setSlices 13 [v0, v1, v2, v3] [] h = some (.inl (some (.int (mI 1))), h) := by
  refine (tq_iconst i_L_setSlices_13 rfl).trans ?_
  exact tq_ireturn i_L_setSlices_14 r_L_setSlices rfl
theorem W_setSlices {x1 : Int} {h h' : am_H} {v : Int} (k : K9 h 2) (o : OUT h') (w : wr v = v) (e : rn m_X11_setSlices 0 [.ref 2, .int (mI x1), am_J] [] h = some (.inl (some (.int (mI v))), h')) : rn m_L_setSlices 0 [.ref 2, .int (mI x1), .ref 74, am_J] [] h = some (.inl (some (.int (mI 0))), uJ h' 74 0 v) := by
  have st := b_L_setSlices_0 (a0 := 2) (a2 := 74) (x1 := x1) (h := h) k
  rw [e, cl_v, b_L_setSlices_7 w (wr_id (by decide) (by decide)) o.1.2 o.1.1 (by decide)] at st
  exact st
theorem W_setSlices_x0 {x1 : Int} {h h' : am_H} (k : K9 h 2) (e : rn m_X11_setSlices 0 [.ref 2, .int (mI x1), am_J] [] h = some (.inr 0, h')) : rn m_L_setSlices 0 [.ref 2, .int (mI x1), .ref 74, am_J] [] h = some (.inl (some (.int (mI 1))), h') := by
  have st := b_L_setSlices_0 (a0 := 2) (a2 := 74) (x1 := x1) (h := h) k
  rw [e, cl_h (pc' := 13) (i := 3) rfl] at st
  exact st.trans b_L_setSlices_13
theorem i_L_setTools_0 : am_i m_L_setTools 0 = some (0, .aload_n 2, 1, [], 0) := rfl
theorem i_L_setTools_1 : am_i m_L_setTools 1 = some (1, .iconst 0, 1, [], 0) := rfl
theorem i_L_setTools_2 : am_i m_L_setTools 2 = some (2, .aload_n 0, 1, [], 0) := rfl
theorem i_L_setTools_3 : am_i m_L_setTools 3 = some (3, .iload_n 1, 1, [], 0) := rfl
theorem i_L_setTools_4 : am_i m_L_setTools 4 = some (4, .invokevirtual 35, 3, [201, 9], 0) := rfl
theorem b_L_setTools_0 {a0 a2 : Nat} {x1 : Int} {h : am_H} (k1 : K9 h a0) : rn m_L_setTools 0 [.ref a0, .int (mI x1), .ref a2, am_J] [] h = cl m_L_setTools 7 [.ref a0, .int (mI x1), .ref a2, am_J] [.int (mI 0), .ref a2] (rn m_X11_setTools 0 [.ref a0, .int (mI x1), am_J] [] h) := by
  refine (tq_aload_n i_L_setTools_0 rfl (isA_ref _) rfl).trans ?_
  refine (tq_iconst i_L_setTools_1 rfl).trans ?_
  refine (tq_aload_n i_L_setTools_2 rfl (isA_ref _) rfl).trans ?_
  refine (tq_iload_n i_L_setTools_3 rfl rfl).trans ?_
  exact c_X11_setTools i_L_setTools_4 (K9_s k1) (ltd d_L_setTools (by decide)) (stOk_2 _ _) rfl
theorem i_L_setTools_7 : am_i m_L_setTools 7 = some (7, .i2l, 1, [], 0) := rfl
theorem i_L_setTools_8 : am_i m_L_setTools 8 = some (8, .lastore, 1, [], 0) := rfl
theorem i_L_setTools_9 : am_i m_L_setTools 9 = some (9, .goto 6, 3, [], 0) := rfl
theorem i_L_setTools_15 : am_i m_L_setTools 15 = some (15, .iconst 0, 1, [], 0) := rfl
theorem i_L_setTools_16 : am_i m_L_setTools 16 = some (16, .ireturn, 1, [], 0) := rfl
theorem b_L_setTools_7 {v0 v1 v2 v3 : Value} {xs0 xs1 xs0' xs1' : Int} {as2 n_as2 : Nat} {h : am_H} (ws0 : wr xs0 = xs0') (ws1 : wr xs1 = xs1') (n1 : gn h as2 = n_as2) (s2 : sh h as2 = (2, 3)) (g3 : 0 ≤ xs1' ∧ xs1' < (n_as2 : Int)) : rn m_L_setTools 7 [v0, v1, v2, v3] [.int (mI xs0), .int (mI xs1), .ref as2] h = some (.inl (some (.int (mI 0))), uJ h as2 xs1' xs0') := by
  refine (tq_i2l i_L_setTools_7 ws0 rfl).trans ?_
  refine (tq_lastore i_L_setTools_8 s2 ws1 g3.1 (lt_gn n1 g3.2) rfl).trans ?_
  refine (tq_goto (pc' := 15) i_L_setTools_9 (by decide)).trans ?_
  refine (tq_iconst i_L_setTools_15 rfl).trans ?_
  exact tq_ireturn i_L_setTools_16 r_L_setTools rfl
theorem i_L_setTools_13 : am_i m_L_setTools 13 = some (13, .iconst 1, 1, [], 1) := rfl
theorem i_L_setTools_14 : am_i m_L_setTools 14 = some (14, .ireturn, 1, [], 0) := rfl
theorem b_L_setTools_13 {v0 v1 v2 v3 : Value} {h : am_H} : rn m_L_setTools 13 [v0, v1, v2, v3] [] h = some (.inl (some (.int (mI 1))), h) := by
  refine (tq_iconst i_L_setTools_13 rfl).trans ?_
  exact tq_ireturn i_L_setTools_14 r_L_setTools rfl
theorem W_setTools {x1 : Int} {h h' : am_H} {v : Int} (k : K9 h 2) (o : OUT h') (w : wr v = v) (e : rn m_X11_setTools 0 [.ref 2, .int (mI x1), am_J] [] h = some (.inl (some (.int (mI v))), h')) : rn m_L_setTools 0 [.ref 2, .int (mI x1), .ref 74, am_J] [] h = some (.inl (some (.int (mI 0))), uJ h' 74 0 v) := by
  have st := b_L_setTools_0 (a0 := 2) (a2 := 74) (x1 := x1) (h := h) k
  rw [e, cl_v, b_L_setTools_7 w (wr_id (by decide) (by decide)) o.1.2 o.1.1 (by decide)] at st
  exact st
theorem W_setTools_x0 {x1 : Int} {h h' : am_H} (k : K9 h 2) (e : rn m_X11_setTools 0 [.ref 2, .int (mI x1), am_J] [] h = some (.inr 0, h')) : rn m_L_setTools 0 [.ref 2, .int (mI x1), .ref 74, am_J] [] h = some (.inl (some (.int (mI 1))), h') := by
  have st := b_L_setTools_0 (a0 := 2) (a2 := 74) (x1 := x1) (h := h) k
  rw [e, cl_h (pc' := 13) (i := 3) rfl] at st
  exact st.trans b_L_setTools_13
theorem i_L_slope_0 : am_i m_L_slope 0 = some (0, .aload 4, 2, [], 0) := rfl
theorem i_L_slope_2 : am_i m_L_slope 2 = some (2, .iconst 0, 1, [], 0) := rfl
theorem i_L_slope_3 : am_i m_L_slope 3 = some (3, .aload_n 0, 1, [], 0) := rfl
theorem i_L_slope_4 : am_i m_L_slope 4 = some (4, .iload_n 1, 1, [], 0) := rfl
theorem i_L_slope_5 : am_i m_L_slope 5 = some (5, .iload_n 2, 1, [], 0) := rfl
theorem i_L_slope_6 : am_i m_L_slope 6 = some (6, .iload_n 3, 1, [], 0) := rfl
theorem i_L_slope_7 : am_i m_L_slope 7 = some (7, .invokevirtual 15, 3, [202, 9], 0) := rfl
theorem b_L_slope_0 {a0 a4 : Nat} {x1 x2 x3 : Int} {h : am_H} (k1 : K9 h a0) : rn m_L_slope 0 [.ref a0, .int (mI x1), .int (mI x2), .int (mI x3), .ref a4, am_J] [] h = cl m_L_slope 10 [.ref a0, .int (mI x1), .int (mI x2), .int (mI x3), .ref a4, am_J] [.int (mI 0), .ref a4] (rn m_X11_slope 0 [.ref a0, .int (mI x1), .int (mI x2), .int (mI x3), am_J, am_J] [] h) := by
  refine (tq_aload i_L_slope_0 rfl (isA_ref _) rfl).trans ?_
  refine (tq_iconst i_L_slope_2 rfl).trans ?_
  refine (tq_aload_n i_L_slope_3 rfl (isA_ref _) rfl).trans ?_
  refine (tq_iload_n i_L_slope_4 rfl rfl).trans ?_
  refine (tq_iload_n i_L_slope_5 rfl rfl).trans ?_
  refine (tq_iload_n i_L_slope_6 rfl rfl).trans ?_
  exact c_X11_slope i_L_slope_7 (K9_s k1) (ltd d_L_slope (by decide)) (stOk_2 _ _) rfl
theorem i_L_slope_10 : am_i m_L_slope 10 = some (10, .i2l, 1, [], 0) := rfl
theorem i_L_slope_11 : am_i m_L_slope 11 = some (11, .lastore, 1, [], 0) := rfl
theorem i_L_slope_12 : am_i m_L_slope 12 = some (12, .goto 7, 3, [], 0) := rfl
theorem i_L_slope_19 : am_i m_L_slope 19 = some (19, .iconst 0, 1, [], 0) := rfl
theorem i_L_slope_20 : am_i m_L_slope 20 = some (20, .ireturn, 1, [], 0) := rfl
theorem b_L_slope_10 {v0 v1 v2 v3 v4 v5 : Value} {xs0 xs1 xs0' xs1' : Int} {as2 n_as2 : Nat} {h : am_H} (ws0 : wr xs0 = xs0') (ws1 : wr xs1 = xs1') (n1 : gn h as2 = n_as2) (s2 : sh h as2 = (2, 3)) (g3 : 0 ≤ xs1' ∧ xs1' < (n_as2 : Int)) : rn m_L_slope 10 [v0, v1, v2, v3, v4, v5] [.int (mI xs0), .int (mI xs1), .ref as2] h = some (.inl (some (.int (mI 0))), uJ h as2 xs1' xs0') := by
  refine (tq_i2l i_L_slope_10 ws0 rfl).trans ?_
  refine (tq_lastore i_L_slope_11 s2 ws1 g3.1 (lt_gn n1 g3.2) rfl).trans ?_
  refine (tq_goto (pc' := 19) i_L_slope_12 (by decide)).trans ?_
  refine (tq_iconst i_L_slope_19 rfl).trans ?_
  exact tq_ireturn i_L_slope_20 r_L_slope rfl
theorem i_L_slope_17 : am_i m_L_slope 17 = some (17, .iconst 1, 1, [], 1) := rfl
theorem i_L_slope_18 : am_i m_L_slope 18 = some (18, .ireturn, 1, [], 0) := rfl
theorem b_L_slope_17 {v0 v1 v2 v3 v4 v5 : Value} {h : am_H} : rn m_L_slope 17 [v0, v1, v2, v3, v4, v5] [] h = some (.inl (some (.int (mI 1))), h) := by
  refine (tq_iconst i_L_slope_17 rfl).trans ?_
  exact tq_ireturn i_L_slope_18 r_L_slope rfl
theorem W_slope {x1 x2 x3 : Int} {h h' : am_H} {v : Int} (k : K9 h 2) (o : OUT h') (w : wr v = v) (e : rn m_X11_slope 0 [.ref 2, .int (mI x1), .int (mI x2), .int (mI x3), am_J, am_J] [] h = some (.inl (some (.int (mI v))), h')) : rn m_L_slope 0 [.ref 2, .int (mI x1), .int (mI x2), .int (mI x3), .ref 74, am_J] [] h = some (.inl (some (.int (mI 0))), uJ h' 74 0 v) := by
  have st := b_L_slope_0 (a0 := 2) (a4 := 74) (x1 := x1) (x2 := x2) (x3 := x3) (h := h) k
  rw [e, cl_v, b_L_slope_10 w (wr_id (by decide) (by decide)) o.1.2 o.1.1 (by decide)] at st
  exact st
theorem W_slope_x0 {x1 x2 x3 : Int} {h h' : am_H} (k : K9 h 2) (e : rn m_X11_slope 0 [.ref 2, .int (mI x1), .int (mI x2), .int (mI x3), am_J, am_J] [] h = some (.inr 0, h')) : rn m_L_slope 0 [.ref 2, .int (mI x1), .int (mI x2), .int (mI x3), .ref 74, am_J] [] h = some (.inl (some (.int (mI 1))), h') := by
  have st := b_L_slope_0 (a0 := 2) (a4 := 74) (x1 := x1) (x2 := x2) (x3 := x3) (h := h) k
  rw [e, cl_h (pc' := 17) (i := 5) rfl] at st
  exact st.trans b_L_slope_17
theorem i_L_built_0 : am_i m_L_built 0 = some (0, .aload 4, 2, [], 0) := rfl
theorem i_L_built_2 : am_i m_L_built 2 = some (2, .iconst 0, 1, [], 0) := rfl
theorem i_L_built_3 : am_i m_L_built 3 = some (3, .aload_n 0, 1, [], 0) := rfl
theorem i_L_built_4 : am_i m_L_built 4 = some (4, .iload_n 1, 1, [], 0) := rfl
theorem i_L_built_5 : am_i m_L_built 5 = some (5, .iload_n 2, 1, [], 0) := rfl
theorem i_L_built_6 : am_i m_L_built 6 = some (6, .iload_n 3, 1, [], 0) := rfl
theorem i_L_built_7 : am_i m_L_built 7 = some (7, .invokevirtual 87, 3, [217, 9], 0) := rfl
theorem b_L_built_0 {a0 a4 : Nat} {x1 x2 x3 : Int} {h : am_H} (k1 : K9 h a0) : rn m_L_built 0 [.ref a0, .int (mI x1), .int (mI x2), .int (mI x3), .ref a4, am_J] [] h = cl m_L_built 10 [.ref a0, .int (mI x1), .int (mI x2), .int (mI x3), .ref a4, am_J] [.int (mI 0), .ref a4] (rn m_X11_built 0 [.ref a0, .int (mI x1), .int (mI x2), .int (mI x3), am_J] [] h) := by
  refine (tq_aload i_L_built_0 rfl (isA_ref _) rfl).trans ?_
  refine (tq_iconst i_L_built_2 rfl).trans ?_
  refine (tq_aload_n i_L_built_3 rfl (isA_ref _) rfl).trans ?_
  refine (tq_iload_n i_L_built_4 rfl rfl).trans ?_
  refine (tq_iload_n i_L_built_5 rfl rfl).trans ?_
  refine (tq_iload_n i_L_built_6 rfl rfl).trans ?_
  exact c_X11_built i_L_built_7 (K9_s k1) (ltd d_L_built (by decide)) (stOk_2 _ _) rfl
theorem i_L_built_10 : am_i m_L_built 10 = some (10, .i2l, 1, [], 0) := rfl
theorem i_L_built_11 : am_i m_L_built 11 = some (11, .lastore, 1, [], 0) := rfl
theorem i_L_built_12 : am_i m_L_built 12 = some (12, .goto 7, 3, [], 0) := rfl
theorem i_L_built_19 : am_i m_L_built 19 = some (19, .iconst 0, 1, [], 0) := rfl
theorem i_L_built_20 : am_i m_L_built 20 = some (20, .ireturn, 1, [], 0) := rfl
theorem b_L_built_10 {v0 v1 v2 v3 v4 v5 : Value} {xs0 xs1 xs0' xs1' : Int} {as2 n_as2 : Nat} {h : am_H} (ws0 : wr xs0 = xs0') (ws1 : wr xs1 = xs1') (n1 : gn h as2 = n_as2) (s2 : sh h as2 = (2, 3)) (g3 : 0 ≤ xs1' ∧ xs1' < (n_as2 : Int)) : rn m_L_built 10 [v0, v1, v2, v3, v4, v5] [.int (mI xs0), .int (mI xs1), .ref as2] h = some (.inl (some (.int (mI 0))), uJ h as2 xs1' xs0') := by
  refine (tq_i2l i_L_built_10 ws0 rfl).trans ?_
  refine (tq_lastore i_L_built_11 s2 ws1 g3.1 (lt_gn n1 g3.2) rfl).trans ?_
  refine (tq_goto (pc' := 19) i_L_built_12 (by decide)).trans ?_
  refine (tq_iconst i_L_built_19 rfl).trans ?_
  exact tq_ireturn i_L_built_20 r_L_built rfl
theorem i_L_built_17 : am_i m_L_built 17 = some (17, .iconst 1, 1, [], 1) := rfl
theorem i_L_built_18 : am_i m_L_built 18 = some (18, .ireturn, 1, [], 0) := rfl
theorem b_L_built_17 {v0 v1 v2 v3 v4 v5 : Value} {h : am_H} : rn m_L_built 17 [v0, v1, v2, v3, v4, v5] [] h = some (.inl (some (.int (mI 1))), h) := by
  refine (tq_iconst i_L_built_17 rfl).trans ?_
  exact tq_ireturn i_L_built_18 r_L_built rfl
theorem W_built {x1 x2 x3 : Int} {h h' : am_H} {v : Int} (k : K9 h 2) (o : OUT h') (w : wr v = v) (e : rn m_X11_built 0 [.ref 2, .int (mI x1), .int (mI x2), .int (mI x3), am_J] [] h = some (.inl (some (.int (mI v))), h')) : rn m_L_built 0 [.ref 2, .int (mI x1), .int (mI x2), .int (mI x3), .ref 74, am_J] [] h = some (.inl (some (.int (mI 0))), uJ h' 74 0 v) := by
  have st := b_L_built_0 (a0 := 2) (a4 := 74) (x1 := x1) (x2 := x2) (x3 := x3) (h := h) k
  rw [e, cl_v, b_L_built_10 w (wr_id (by decide) (by decide)) o.1.2 o.1.1 (by decide)] at st
  exact st
theorem W_built_x1 {x1 x2 x3 : Int} {h h' : am_H} (k : K9 h 2) (e : rn m_X11_built 0 [.ref 2, .int (mI x1), .int (mI x2), .int (mI x3), am_J] [] h = some (.inr 1, h')) : rn m_L_built 0 [.ref 2, .int (mI x1), .int (mI x2), .int (mI x3), .ref 74, am_J] [] h = some (.inl (some (.int (mI 1))), h') := by
  have st := b_L_built_0 (a0 := 2) (a4 := 74) (x1 := x1) (x2 := x2) (x3 := x3) (h := h) k
  rw [e, cl_h (pc' := 17) (i := 5) rfl] at st
  exact st.trans b_L_built_17
theorem i_L_coarsenessOf_0 : am_i m_L_coarsenessOf 0 = some (0, .aload_n 2, 1, [], 0) := rfl
theorem i_L_coarsenessOf_1 : am_i m_L_coarsenessOf 1 = some (1, .iconst 0, 1, [], 0) := rfl
theorem i_L_coarsenessOf_2 : am_i m_L_coarsenessOf 2 = some (2, .aload_n 0, 1, [], 0) := rfl
theorem i_L_coarsenessOf_3 : am_i m_L_coarsenessOf 3 = some (3, .iload_n 1, 1, [], 0) := rfl
theorem i_L_coarsenessOf_4 : am_i m_L_coarsenessOf 4 = some (4, .invokevirtual 65, 3, [218, 9], 0) := rfl
theorem b_L_coarsenessOf_0 {a0 a2 : Nat} {x1 : Int} {h : am_H} (k1 : K9 h a0) : rn m_L_coarsenessOf 0 [.ref a0, .int (mI x1), .ref a2, am_J] [] h = cl m_L_coarsenessOf 7 [.ref a0, .int (mI x1), .ref a2, am_J] [.int (mI 0), .ref a2] (rn m_X11_coarsenessOf 0 [.ref a0, .int (mI x1)] [] h) := by
  refine (tq_aload_n i_L_coarsenessOf_0 rfl (isA_ref _) rfl).trans ?_
  refine (tq_iconst i_L_coarsenessOf_1 rfl).trans ?_
  refine (tq_aload_n i_L_coarsenessOf_2 rfl (isA_ref _) rfl).trans ?_
  refine (tq_iload_n i_L_coarsenessOf_3 rfl rfl).trans ?_
  exact c_X11_coarsenessOf i_L_coarsenessOf_4 (K9_s k1) (ltd d_L_coarsenessOf (by decide)) (stOk_2 _ _) rfl
theorem i_L_coarsenessOf_7 : am_i m_L_coarsenessOf 7 = some (7, .i2l, 1, [], 0) := rfl
theorem i_L_coarsenessOf_8 : am_i m_L_coarsenessOf 8 = some (8, .lastore, 1, [], 0) := rfl
theorem i_L_coarsenessOf_9 : am_i m_L_coarsenessOf 9 = some (9, .goto 6, 3, [], 0) := rfl
theorem i_L_coarsenessOf_15 : am_i m_L_coarsenessOf 15 = some (15, .iconst 0, 1, [], 0) := rfl
theorem i_L_coarsenessOf_16 : am_i m_L_coarsenessOf 16 = some (16, .ireturn, 1, [], 0) := rfl
theorem b_L_coarsenessOf_7 {v0 v1 v2 v3 : Value} {xs0 xs1 xs0' xs1' : Int} {as2 n_as2 : Nat} {h : am_H} (ws0 : wr xs0 = xs0') (ws1 : wr xs1 = xs1') (n1 : gn h as2 = n_as2) (s2 : sh h as2 = (2, 3)) (g3 : 0 ≤ xs1' ∧ xs1' < (n_as2 : Int)) : rn m_L_coarsenessOf 7 [v0, v1, v2, v3] [.int (mI xs0), .int (mI xs1), .ref as2] h = some (.inl (some (.int (mI 0))), uJ h as2 xs1' xs0') := by
  refine (tq_i2l i_L_coarsenessOf_7 ws0 rfl).trans ?_
  refine (tq_lastore i_L_coarsenessOf_8 s2 ws1 g3.1 (lt_gn n1 g3.2) rfl).trans ?_
  refine (tq_goto (pc' := 15) i_L_coarsenessOf_9 (by decide)).trans ?_
  refine (tq_iconst i_L_coarsenessOf_15 rfl).trans ?_
  exact tq_ireturn i_L_coarsenessOf_16 r_L_coarsenessOf rfl
theorem i_L_coarsenessOf_13 : am_i m_L_coarsenessOf 13 = some (13, .iconst 1, 1, [], 1) := rfl
theorem i_L_coarsenessOf_14 : am_i m_L_coarsenessOf 14 = some (14, .ireturn, 1, [], 0) := rfl
theorem b_L_coarsenessOf_13 {v0 v1 v2 v3 : Value} {h : am_H} : rn m_L_coarsenessOf 13 [v0, v1, v2, v3] [] h = some (.inl (some (.int (mI 1))), h) := by
  refine (tq_iconst i_L_coarsenessOf_13 rfl).trans ?_
  exact tq_ireturn i_L_coarsenessOf_14 r_L_coarsenessOf rfl
theorem W_coarsenessOf {x1 : Int} {h h' : am_H} {v : Int} (k : K9 h 2) (o : OUT h') (w : wr v = v) (e : rn m_X11_coarsenessOf 0 [.ref 2, .int (mI x1)] [] h = some (.inl (some (.int (mI v))), h')) : rn m_L_coarsenessOf 0 [.ref 2, .int (mI x1), .ref 74, am_J] [] h = some (.inl (some (.int (mI 0))), uJ h' 74 0 v) := by
  have st := b_L_coarsenessOf_0 (a0 := 2) (a2 := 74) (x1 := x1) (h := h) k
  rw [e, cl_v, b_L_coarsenessOf_7 w (wr_id (by decide) (by decide)) o.1.2 o.1.1 (by decide)] at st
  exact st
theorem W_coarsenessOf_x1 {x1 : Int} {h h' : am_H} (k : K9 h 2) (e : rn m_X11_coarsenessOf 0 [.ref 2, .int (mI x1)] [] h = some (.inr 1, h')) : rn m_L_coarsenessOf 0 [.ref 2, .int (mI x1), .ref 74, am_J] [] h = some (.inl (some (.int (mI 1))), h') := by
  have st := b_L_coarsenessOf_0 (a0 := 2) (a2 := 74) (x1 := x1) (h := h) k
  rw [e, cl_h (pc' := 13) (i := 3) rfl] at st
  exact st.trans b_L_coarsenessOf_13
theorem i_L_commonest_0 : am_i m_L_commonest 0 = some (0, .aload_n 1, 1, [], 0) := rfl
theorem i_L_commonest_1 : am_i m_L_commonest 1 = some (1, .iconst 0, 1, [], 0) := rfl
theorem i_L_commonest_2 : am_i m_L_commonest 2 = some (2, .aload_n 0, 1, [], 0) := rfl
theorem i_L_commonest_3 : am_i m_L_commonest 3 = some (3, .invokevirtual 97, 3, [219, 9], 0) := rfl
theorem b_L_commonest_0 {a0 a1 : Nat} {h : am_H} (k1 : K9 h a0) : rn m_L_commonest 0 [.ref a0, .ref a1, am_J] [] h = cl m_L_commonest 6 [.ref a0, .ref a1, am_J] [.int (mI 0), .ref a1] (rn m_X11_commonest 0 [.ref a0, am_J, am_J, am_J, am_J, am_J] [] h) := by
  refine (tq_aload_n i_L_commonest_0 rfl (isA_ref _) rfl).trans ?_
  refine (tq_iconst i_L_commonest_1 rfl).trans ?_
  refine (tq_aload_n i_L_commonest_2 rfl (isA_ref _) rfl).trans ?_
  exact c_X11_commonest i_L_commonest_3 (K9_s k1) (ltd d_L_commonest (by decide)) (stOk_2 _ _) rfl
theorem i_L_commonest_6 : am_i m_L_commonest 6 = some (6, .i2l, 1, [], 0) := rfl
theorem i_L_commonest_7 : am_i m_L_commonest 7 = some (7, .lastore, 1, [], 0) := rfl
theorem i_L_commonest_8 : am_i m_L_commonest 8 = some (8, .goto 6, 3, [], 0) := rfl
theorem i_L_commonest_14 : am_i m_L_commonest 14 = some (14, .iconst 0, 1, [], 0) := rfl
theorem i_L_commonest_15 : am_i m_L_commonest 15 = some (15, .ireturn, 1, [], 0) := rfl
theorem b_L_commonest_6 {v0 v1 v2 : Value} {xs0 xs1 xs0' xs1' : Int} {as2 n_as2 : Nat} {h : am_H} (ws0 : wr xs0 = xs0') (ws1 : wr xs1 = xs1') (n1 : gn h as2 = n_as2) (s2 : sh h as2 = (2, 3)) (g3 : 0 ≤ xs1' ∧ xs1' < (n_as2 : Int)) : rn m_L_commonest 6 [v0, v1, v2] [.int (mI xs0), .int (mI xs1), .ref as2] h = some (.inl (some (.int (mI 0))), uJ h as2 xs1' xs0') := by
  refine (tq_i2l i_L_commonest_6 ws0 rfl).trans ?_
  refine (tq_lastore i_L_commonest_7 s2 ws1 g3.1 (lt_gn n1 g3.2) rfl).trans ?_
  refine (tq_goto (pc' := 14) i_L_commonest_8 (by decide)).trans ?_
  refine (tq_iconst i_L_commonest_14 rfl).trans ?_
  exact tq_ireturn i_L_commonest_15 r_L_commonest rfl
theorem i_L_commonest_12 : am_i m_L_commonest 12 = some (12, .iconst 1, 1, [], 1) := rfl
theorem i_L_commonest_13 : am_i m_L_commonest 13 = some (13, .ireturn, 1, [], 0) := rfl
theorem b_L_commonest_12 {v0 v1 v2 : Value} {h : am_H} : rn m_L_commonest 12 [v0, v1, v2] [] h = some (.inl (some (.int (mI 1))), h) := by
  refine (tq_iconst i_L_commonest_12 rfl).trans ?_
  exact tq_ireturn i_L_commonest_13 r_L_commonest rfl
theorem W_commonest {h h' : am_H} {v : Int} (k : K9 h 2) (o : OUT h') (w : wr v = v) (e : rn m_X11_commonest 0 [.ref 2, am_J, am_J, am_J, am_J, am_J] [] h = some (.inl (some (.int (mI v))), h')) : rn m_L_commonest 0 [.ref 2, .ref 74, am_J] [] h = some (.inl (some (.int (mI 0))), uJ h' 74 0 v) := by
  have st := b_L_commonest_0 (a0 := 2) (a1 := 74) (h := h) k
  rw [e, cl_v, b_L_commonest_6 w (wr_id (by decide) (by decide)) o.1.2 o.1.1 (by decide)] at st
  exact st
theorem W_commonest_x4 {h h' : am_H} (k : K9 h 2) (e : rn m_X11_commonest 0 [.ref 2, am_J, am_J, am_J, am_J, am_J] [] h = some (.inr 4, h')) : rn m_L_commonest 0 [.ref 2, .ref 74, am_J] [] h = some (.inl (some (.int (mI 1))), h') := by
  have st := b_L_commonest_0 (a0 := 2) (a1 := 74) (h := h) k
  rw [e, cl_h (pc' := 12) (i := 2) rfl] at st
  exact st.trans b_L_commonest_12
theorem i_L_drift_0 : am_i m_L_drift 0 = some (0, .aload_n 1, 1, [], 0) := rfl
theorem i_L_drift_1 : am_i m_L_drift 1 = some (1, .iconst 0, 1, [], 0) := rfl
theorem i_L_drift_2 : am_i m_L_drift 2 = some (2, .aload_n 0, 1, [], 0) := rfl
theorem i_L_drift_3 : am_i m_L_drift 3 = some (3, .invokevirtual 116, 3, [220, 9], 0) := rfl
theorem b_L_drift_0 {a0 a1 : Nat} {h : am_H} (k1 : K9 h a0) : rn m_L_drift 0 [.ref a0, .ref a1, am_J] [] h = cl m_L_drift 6 [.ref a0, .ref a1, am_J] [.int (mI 0), .ref a1] (rn m_X11_drift 0 [.ref a0, am_J, am_J, am_J] [] h) := by
  refine (tq_aload_n i_L_drift_0 rfl (isA_ref _) rfl).trans ?_
  refine (tq_iconst i_L_drift_1 rfl).trans ?_
  refine (tq_aload_n i_L_drift_2 rfl (isA_ref _) rfl).trans ?_
  exact c_X11_drift i_L_drift_3 (K9_s k1) (ltd d_L_drift (by decide)) (stOk_2 _ _) rfl
theorem i_L_drift_6 : am_i m_L_drift 6 = some (6, .i2l, 1, [], 0) := rfl
theorem i_L_drift_7 : am_i m_L_drift 7 = some (7, .lastore, 1, [], 0) := rfl
theorem i_L_drift_8 : am_i m_L_drift 8 = some (8, .goto 6, 3, [], 0) := rfl
theorem i_L_drift_14 : am_i m_L_drift 14 = some (14, .iconst 0, 1, [], 0) := rfl
theorem i_L_drift_15 : am_i m_L_drift 15 = some (15, .ireturn, 1, [], 0) := rfl
theorem b_L_drift_6 {v0 v1 v2 : Value} {xs0 xs1 xs0' xs1' : Int} {as2 n_as2 : Nat} {h : am_H} (ws0 : wr xs0 = xs0') (ws1 : wr xs1 = xs1') (n1 : gn h as2 = n_as2) (s2 : sh h as2 = (2, 3)) (g3 : 0 ≤ xs1' ∧ xs1' < (n_as2 : Int)) : rn m_L_drift 6 [v0, v1, v2] [.int (mI xs0), .int (mI xs1), .ref as2] h = some (.inl (some (.int (mI 0))), uJ h as2 xs1' xs0') := by
  refine (tq_i2l i_L_drift_6 ws0 rfl).trans ?_
  refine (tq_lastore i_L_drift_7 s2 ws1 g3.1 (lt_gn n1 g3.2) rfl).trans ?_
  refine (tq_goto (pc' := 14) i_L_drift_8 (by decide)).trans ?_
  refine (tq_iconst i_L_drift_14 rfl).trans ?_
  exact tq_ireturn i_L_drift_15 r_L_drift rfl
theorem i_L_drift_12 : am_i m_L_drift 12 = some (12, .iconst 1, 1, [], 1) := rfl
theorem i_L_drift_13 : am_i m_L_drift 13 = some (13, .ireturn, 1, [], 0) := rfl
theorem b_L_drift_12 {v0 v1 v2 : Value} {h : am_H} : rn m_L_drift 12 [v0, v1, v2] [] h = some (.inl (some (.int (mI 1))), h) := by
  refine (tq_iconst i_L_drift_12 rfl).trans ?_
  exact tq_ireturn i_L_drift_13 r_L_drift rfl
theorem W_drift {h h' : am_H} {v : Int} (k : K9 h 2) (o : OUT h') (w : wr v = v) (e : rn m_X11_drift 0 [.ref 2, am_J, am_J, am_J] [] h = some (.inl (some (.int (mI v))), h')) : rn m_L_drift 0 [.ref 2, .ref 74, am_J] [] h = some (.inl (some (.int (mI 0))), uJ h' 74 0 v) := by
  have st := b_L_drift_0 (a0 := 2) (a1 := 74) (h := h) k
  rw [e, cl_v, b_L_drift_6 w (wr_id (by decide) (by decide)) o.1.2 o.1.1 (by decide)] at st
  exact st
theorem W_drift_x4 {h h' : am_H} (k : K9 h 2) (e : rn m_X11_drift 0 [.ref 2, am_J, am_J, am_J] [] h = some (.inr 4, h')) : rn m_L_drift 0 [.ref 2, .ref 74, am_J] [] h = some (.inl (some (.int (mI 1))), h') := by
  have st := b_L_drift_0 (a0 := 2) (a1 := 74) (h := h) k
  rw [e, cl_h (pc' := 12) (i := 2) rfl] at st
  exact st.trans b_L_drift_12
theorem i_L_errorOf_0 : am_i m_L_errorOf 0 = some (0, .aload_n 2, 1, [], 0) := rfl
theorem i_L_errorOf_1 : am_i m_L_errorOf 1 = some (1, .iconst 0, 1, [], 0) := rfl
theorem i_L_errorOf_2 : am_i m_L_errorOf 2 = some (2, .aload_n 0, 1, [], 0) := rfl
theorem i_L_errorOf_3 : am_i m_L_errorOf 3 = some (3, .iload_n 1, 1, [], 0) := rfl
theorem i_L_errorOf_4 : am_i m_L_errorOf 4 = some (4, .invokevirtual 90, 3, [221, 9], 0) := rfl
theorem b_L_errorOf_0 {a0 a2 : Nat} {x1 : Int} {h : am_H} (k1 : K9 h a0) : rn m_L_errorOf 0 [.ref a0, .int (mI x1), .ref a2, am_J] [] h = cl m_L_errorOf 7 [.ref a0, .int (mI x1), .ref a2, am_J] [.int (mI 0), .ref a2] (rn m_X11_errorOf 0 [.ref a0, .int (mI x1)] [] h) := by
  refine (tq_aload_n i_L_errorOf_0 rfl (isA_ref _) rfl).trans ?_
  refine (tq_iconst i_L_errorOf_1 rfl).trans ?_
  refine (tq_aload_n i_L_errorOf_2 rfl (isA_ref _) rfl).trans ?_
  refine (tq_iload_n i_L_errorOf_3 rfl rfl).trans ?_
  exact c_X11_errorOf i_L_errorOf_4 (K9_s k1) (ltd d_L_errorOf (by decide)) (stOk_2 _ _) rfl
theorem i_L_errorOf_7 : am_i m_L_errorOf 7 = some (7, .lastore, 1, [], 0) := rfl
theorem i_L_errorOf_8 : am_i m_L_errorOf 8 = some (8, .goto 6, 3, [], 0) := rfl
theorem i_L_errorOf_14 : am_i m_L_errorOf 14 = some (14, .iconst 0, 1, [], 0) := rfl
theorem i_L_errorOf_15 : am_i m_L_errorOf 15 = some (15, .ireturn, 1, [], 0) := rfl
theorem b_L_errorOf_7 {v0 v1 v2 v3 : Value} {js0 xs1 xs1' : Int} {as2 n_as2 : Nat} {h : am_H} (ws1 : wr xs1 = xs1') (n1 : gn h as2 = n_as2) (s2 : sh h as2 = (2, 3)) (g3 : 0 ≤ xs1' ∧ xs1' < (n_as2 : Int)) : rn m_L_errorOf 7 [v0, v1, v2, v3] [.long (mL js0), .int (mI xs1), .ref as2] h = some (.inl (some (.int (mI 0))), uJ h as2 xs1' js0) := by
  refine (tq_lastore i_L_errorOf_7 s2 ws1 g3.1 (lt_gn n1 g3.2) rfl).trans ?_
  refine (tq_goto (pc' := 14) i_L_errorOf_8 (by decide)).trans ?_
  refine (tq_iconst i_L_errorOf_14 rfl).trans ?_
  exact tq_ireturn i_L_errorOf_15 r_L_errorOf rfl
theorem i_L_errorOf_12 : am_i m_L_errorOf 12 = some (12, .iconst 1, 1, [], 1) := rfl
theorem i_L_errorOf_13 : am_i m_L_errorOf 13 = some (13, .ireturn, 1, [], 0) := rfl
theorem b_L_errorOf_12 {v0 v1 v2 v3 : Value} {h : am_H} : rn m_L_errorOf 12 [v0, v1, v2, v3] [] h = some (.inl (some (.int (mI 1))), h) := by
  refine (tq_iconst i_L_errorOf_12 rfl).trans ?_
  exact tq_ireturn i_L_errorOf_13 r_L_errorOf rfl
theorem W_errorOf_x1 {x1 : Int} {h h' : am_H} (k : K9 h 2) (e : rn m_X11_errorOf 0 [.ref 2, .int (mI x1)] [] h = some (.inr 1, h')) : rn m_L_errorOf 0 [.ref 2, .int (mI x1), .ref 74, am_J] [] h = some (.inl (some (.int (mI 1))), h') := by
  have st := b_L_errorOf_0 (a0 := 2) (a2 := 74) (x1 := x1) (h := h) k
  rw [e, cl_h (pc' := 12) (i := 3) rfl] at st
  exact st.trans b_L_errorOf_12
theorem i_L_isClean_0 : am_i m_L_isClean 0 = some (0, .aload_n 1, 1, [], 0) := rfl
theorem i_L_isClean_1 : am_i m_L_isClean 1 = some (1, .iconst 0, 1, [], 0) := rfl
theorem i_L_isClean_2 : am_i m_L_isClean 2 = some (2, .aload_n 0, 1, [], 0) := rfl
theorem i_L_isClean_3 : am_i m_L_isClean 3 = some (3, .invokevirtual 112, 3, [223, 9], 0) := rfl
theorem b_L_isClean_0 {a0 a1 : Nat} {h : am_H} (k1 : K9 h a0) : rn m_L_isClean 0 [.ref a0, .ref a1, am_J] [] h = cl m_L_isClean 6 [.ref a0, .ref a1, am_J] [.int (mI 0), .ref a1] (rn m_X11_isClean 0 [.ref a0] [] h) := by
  refine (tq_aload_n i_L_isClean_0 rfl (isA_ref _) rfl).trans ?_
  refine (tq_iconst i_L_isClean_1 rfl).trans ?_
  refine (tq_aload_n i_L_isClean_2 rfl (isA_ref _) rfl).trans ?_
  exact c_X11_isClean i_L_isClean_3 (K9_s k1) (ltd d_L_isClean (by decide)) (stOk_2 _ _) rfl
theorem i_L_isClean_6 : am_i m_L_isClean 6 = some (6, .ifCond .eq 7, 3, [], 0) := rfl
theorem i_L_isClean_9 : am_i m_L_isClean 9 = some (9, .lconst 1, 1, [], 1) := rfl
theorem i_L_isClean_10 : am_i m_L_isClean 10 = some (10, .goto 4, 3, [], 0) := rfl
theorem i_L_isClean_13 : am_i m_L_isClean 13 = some (13, .lconst 0, 1, [], 0) := rfl
theorem i_L_isClean_14 : am_i m_L_isClean 14 = some (14, .lastore, 1, [], 0) := rfl
theorem i_L_isClean_15 : am_i m_L_isClean 15 = some (15, .goto 6, 3, [], 0) := rfl
theorem i_L_isClean_21 : am_i m_L_isClean 21 = some (21, .iconst 0, 1, [], 0) := rfl
theorem i_L_isClean_22 : am_i m_L_isClean 22 = some (22, .ireturn, 1, [], 0) := rfl
theorem b_L_isClean_6 {v0 v1 v2 : Value} {xs0 xs1 xs0' xs1' : Int} {as2 n_as2 : Nat} {h : am_H} (ws0 : wr xs0 = xs0') (ws1 : wr xs1 = xs1') (n1 : gn h as2 = n_as2) (s2 : sh h as2 = (2, 3)) (g3 : 0 ≤ xs1' ∧ xs1' < (n_as2 : Int)) : rn m_L_isClean 6 [v0, v1, v2] [.int (mI xs0), .int (mI xs1), .ref as2] h = some (.inl (some (.int (mI 0))), uJ h as2 xs1' (if xs0' = 0 then 0 else 1)) := by
  refine (tq_if_eq (pt := 13) i_L_isClean_6 ws0 (by decide) rfl).trans ?_
  refine Eq.trans (b := if xs0' = 0 then rn m_L_isClean 14 [v0, v1, v2] [.long (mL 0), .int (mI xs1), .ref as2] h else rn m_L_isClean 14 [v0, v1, v2] [.long (mL 1), .int (mI xs1), .ref as2] h) (ite_congr rfl (fun c1 => ?_) (fun c1 => ?_)) ?_
  · refine (tq_lconst i_L_isClean_13 rfl).trans ?_
    rfl
  · refine (tq_lconst i_L_isClean_9 rfl).trans ?_
    refine (tq_goto (pc' := 14) i_L_isClean_10 (by decide)).trans ?_
    rfl
  refine Eq.trans ite_J ?_
  refine (tq_lastore i_L_isClean_14 s2 ws1 g3.1 (lt_gn n1 g3.2) rfl).trans ?_
  refine (tq_goto (pc' := 21) i_L_isClean_15 (by decide)).trans ?_
  refine (tq_iconst i_L_isClean_21 rfl).trans ?_
  exact tq_ireturn i_L_isClean_22 r_L_isClean rfl
theorem i_L_isClean_19 : am_i m_L_isClean 19 = some (19, .iconst 1, 1, [], 1) := rfl
theorem i_L_isClean_20 : am_i m_L_isClean 20 = some (20, .ireturn, 1, [], 0) := rfl
theorem b_L_isClean_19 {v0 v1 v2 : Value} {h : am_H} : rn m_L_isClean 19 [v0, v1, v2] [] h = some (.inl (some (.int (mI 1))), h) := by
  refine (tq_iconst i_L_isClean_19 rfl).trans ?_
  exact tq_ireturn i_L_isClean_20 r_L_isClean rfl
theorem W_isClean_x4 {h h' : am_H} (k : K9 h 2) (e : rn m_X11_isClean 0 [.ref 2] [] h = some (.inr 4, h')) : rn m_L_isClean 0 [.ref 2, .ref 74, am_J] [] h = some (.inl (some (.int (mI 1))), h') := by
  have st := b_L_isClean_0 (a0 := 2) (a1 := 74) (h := h) k
  rw [e, cl_h (pc' := 19) (i := 2) rfl] at st
  exact st.trans b_L_isClean_19
theorem i_L_kindOf_0 : am_i m_L_kindOf 0 = some (0, .aload_n 2, 1, [], 0) := rfl
theorem i_L_kindOf_1 : am_i m_L_kindOf 1 = some (1, .iconst 0, 1, [], 0) := rfl
theorem i_L_kindOf_2 : am_i m_L_kindOf 2 = some (2, .aload_n 0, 1, [], 0) := rfl
theorem i_L_kindOf_3 : am_i m_L_kindOf 3 = some (3, .iload_n 1, 1, [], 0) := rfl
theorem i_L_kindOf_4 : am_i m_L_kindOf 4 = some (4, .invokevirtual 61, 3, [225, 9], 0) := rfl
theorem b_L_kindOf_0 {a0 a2 : Nat} {x1 : Int} {h : am_H} (k1 : K9 h a0) : rn m_L_kindOf 0 [.ref a0, .int (mI x1), .ref a2, am_J] [] h = cl m_L_kindOf 7 [.ref a0, .int (mI x1), .ref a2, am_J] [.int (mI 0), .ref a2] (rn m_X11_kindOf 0 [.ref a0, .int (mI x1)] [] h) := by
  refine (tq_aload_n i_L_kindOf_0 rfl (isA_ref _) rfl).trans ?_
  refine (tq_iconst i_L_kindOf_1 rfl).trans ?_
  refine (tq_aload_n i_L_kindOf_2 rfl (isA_ref _) rfl).trans ?_
  refine (tq_iload_n i_L_kindOf_3 rfl rfl).trans ?_
  exact c_X11_kindOf i_L_kindOf_4 (K9_s k1) (ltd d_L_kindOf (by decide)) (stOk_2 _ _) rfl
theorem i_L_kindOf_7 : am_i m_L_kindOf 7 = some (7, .i2l, 1, [], 0) := rfl
theorem i_L_kindOf_8 : am_i m_L_kindOf 8 = some (8, .lastore, 1, [], 0) := rfl
theorem i_L_kindOf_9 : am_i m_L_kindOf 9 = some (9, .goto 6, 3, [], 0) := rfl
theorem i_L_kindOf_15 : am_i m_L_kindOf 15 = some (15, .iconst 0, 1, [], 0) := rfl
theorem i_L_kindOf_16 : am_i m_L_kindOf 16 = some (16, .ireturn, 1, [], 0) := rfl
theorem b_L_kindOf_7 {v0 v1 v2 v3 : Value} {xs0 xs1 xs0' xs1' : Int} {as2 n_as2 : Nat} {h : am_H} (ws0 : wr xs0 = xs0') (ws1 : wr xs1 = xs1') (n1 : gn h as2 = n_as2) (s2 : sh h as2 = (2, 3)) (g3 : 0 ≤ xs1' ∧ xs1' < (n_as2 : Int)) : rn m_L_kindOf 7 [v0, v1, v2, v3] [.int (mI xs0), .int (mI xs1), .ref as2] h = some (.inl (some (.int (mI 0))), uJ h as2 xs1' xs0') := by
  refine (tq_i2l i_L_kindOf_7 ws0 rfl).trans ?_
  refine (tq_lastore i_L_kindOf_8 s2 ws1 g3.1 (lt_gn n1 g3.2) rfl).trans ?_
  refine (tq_goto (pc' := 15) i_L_kindOf_9 (by decide)).trans ?_
  refine (tq_iconst i_L_kindOf_15 rfl).trans ?_
  exact tq_ireturn i_L_kindOf_16 r_L_kindOf rfl
theorem i_L_kindOf_13 : am_i m_L_kindOf 13 = some (13, .iconst 1, 1, [], 1) := rfl
theorem i_L_kindOf_14 : am_i m_L_kindOf 14 = some (14, .ireturn, 1, [], 0) := rfl
theorem b_L_kindOf_13 {v0 v1 v2 v3 : Value} {h : am_H} : rn m_L_kindOf 13 [v0, v1, v2, v3] [] h = some (.inl (some (.int (mI 1))), h) := by
  refine (tq_iconst i_L_kindOf_13 rfl).trans ?_
  exact tq_ireturn i_L_kindOf_14 r_L_kindOf rfl
theorem W_kindOf {x1 : Int} {h h' : am_H} {v : Int} (k : K9 h 2) (o : OUT h') (w : wr v = v) (e : rn m_X11_kindOf 0 [.ref 2, .int (mI x1)] [] h = some (.inl (some (.int (mI v))), h')) : rn m_L_kindOf 0 [.ref 2, .int (mI x1), .ref 74, am_J] [] h = some (.inl (some (.int (mI 0))), uJ h' 74 0 v) := by
  have st := b_L_kindOf_0 (a0 := 2) (a2 := 74) (x1 := x1) (h := h) k
  rw [e, cl_v, b_L_kindOf_7 w (wr_id (by decide) (by decide)) o.1.2 o.1.1 (by decide)] at st
  exact st
theorem W_kindOf_x1 {x1 : Int} {h h' : am_H} (k : K9 h 2) (e : rn m_X11_kindOf 0 [.ref 2, .int (mI x1)] [] h = some (.inr 1, h')) : rn m_L_kindOf 0 [.ref 2, .int (mI x1), .ref 74, am_J] [] h = some (.inl (some (.int (mI 1))), h') := by
  have st := b_L_kindOf_0 (a0 := 2) (a2 := 74) (x1 := x1) (h := h) k
  rw [e, cl_h (pc' := 13) (i := 3) rfl] at st
  exact st.trans b_L_kindOf_13
theorem i_L_levelAt_0 : am_i m_L_levelAt 0 = some (0, .aload 4, 2, [], 0) := rfl
theorem i_L_levelAt_2 : am_i m_L_levelAt 2 = some (2, .iconst 0, 1, [], 0) := rfl
theorem i_L_levelAt_3 : am_i m_L_levelAt 3 = some (3, .aload_n 0, 1, [], 0) := rfl
theorem i_L_levelAt_4 : am_i m_L_levelAt 4 = some (4, .iload_n 1, 1, [], 0) := rfl
theorem i_L_levelAt_5 : am_i m_L_levelAt 5 = some (5, .iload_n 2, 1, [], 0) := rfl
theorem i_L_levelAt_6 : am_i m_L_levelAt 6 = some (6, .iload_n 3, 1, [], 0) := rfl
theorem i_L_levelAt_7 : am_i m_L_levelAt 7 = some (7, .invokevirtual 84, 3, [226, 9], 0) := rfl
theorem b_L_levelAt_0 {a0 a4 : Nat} {x1 x2 x3 : Int} {h : am_H} (k1 : K9 h a0) : rn m_L_levelAt 0 [.ref a0, .int (mI x1), .int (mI x2), .int (mI x3), .ref a4, am_J] [] h = cl m_L_levelAt 10 [.ref a0, .int (mI x1), .int (mI x2), .int (mI x3), .ref a4, am_J] [.int (mI 0), .ref a4] (rn m_X11_levelAt 0 [.ref a0, .int (mI x1), .int (mI x2), .int (mI x3), am_J] [] h) := by
  refine (tq_aload i_L_levelAt_0 rfl (isA_ref _) rfl).trans ?_
  refine (tq_iconst i_L_levelAt_2 rfl).trans ?_
  refine (tq_aload_n i_L_levelAt_3 rfl (isA_ref _) rfl).trans ?_
  refine (tq_iload_n i_L_levelAt_4 rfl rfl).trans ?_
  refine (tq_iload_n i_L_levelAt_5 rfl rfl).trans ?_
  refine (tq_iload_n i_L_levelAt_6 rfl rfl).trans ?_
  exact c_X11_levelAt i_L_levelAt_7 (K9_s k1) (ltd d_L_levelAt (by decide)) (stOk_2 _ _) rfl
theorem i_L_levelAt_10 : am_i m_L_levelAt 10 = some (10, .i2l, 1, [], 0) := rfl
theorem i_L_levelAt_11 : am_i m_L_levelAt 11 = some (11, .lastore, 1, [], 0) := rfl
theorem i_L_levelAt_12 : am_i m_L_levelAt 12 = some (12, .goto 7, 3, [], 0) := rfl
theorem i_L_levelAt_19 : am_i m_L_levelAt 19 = some (19, .iconst 0, 1, [], 0) := rfl
theorem i_L_levelAt_20 : am_i m_L_levelAt 20 = some (20, .ireturn, 1, [], 0) := rfl
theorem b_L_levelAt_10 {v0 v1 v2 v3 v4 v5 : Value} {xs0 xs1 xs0' xs1' : Int} {as2 n_as2 : Nat} {h : am_H} (ws0 : wr xs0 = xs0') (ws1 : wr xs1 = xs1') (n1 : gn h as2 = n_as2) (s2 : sh h as2 = (2, 3)) (g3 : 0 ≤ xs1' ∧ xs1' < (n_as2 : Int)) : rn m_L_levelAt 10 [v0, v1, v2, v3, v4, v5] [.int (mI xs0), .int (mI xs1), .ref as2] h = some (.inl (some (.int (mI 0))), uJ h as2 xs1' xs0') := by
  refine (tq_i2l i_L_levelAt_10 ws0 rfl).trans ?_
  refine (tq_lastore i_L_levelAt_11 s2 ws1 g3.1 (lt_gn n1 g3.2) rfl).trans ?_
  refine (tq_goto (pc' := 19) i_L_levelAt_12 (by decide)).trans ?_
  refine (tq_iconst i_L_levelAt_19 rfl).trans ?_
  exact tq_ireturn i_L_levelAt_20 r_L_levelAt rfl
theorem i_L_levelAt_17 : am_i m_L_levelAt 17 = some (17, .iconst 1, 1, [], 1) := rfl
theorem i_L_levelAt_18 : am_i m_L_levelAt 18 = some (18, .ireturn, 1, [], 0) := rfl
theorem b_L_levelAt_17 {v0 v1 v2 v3 v4 v5 : Value} {h : am_H} : rn m_L_levelAt 17 [v0, v1, v2, v3, v4, v5] [] h = some (.inl (some (.int (mI 1))), h) := by
  refine (tq_iconst i_L_levelAt_17 rfl).trans ?_
  exact tq_ireturn i_L_levelAt_18 r_L_levelAt rfl
theorem W_levelAt {x1 x2 x3 : Int} {h h' : am_H} {v : Int} (k : K9 h 2) (o : OUT h') (w : wr v = v) (e : rn m_X11_levelAt 0 [.ref 2, .int (mI x1), .int (mI x2), .int (mI x3), am_J] [] h = some (.inl (some (.int (mI v))), h')) : rn m_L_levelAt 0 [.ref 2, .int (mI x1), .int (mI x2), .int (mI x3), .ref 74, am_J] [] h = some (.inl (some (.int (mI 0))), uJ h' 74 0 v) := by
  have st := b_L_levelAt_0 (a0 := 2) (a4 := 74) (x1 := x1) (x2 := x2) (x3 := x3) (h := h) k
  rw [e, cl_v, b_L_levelAt_10 w (wr_id (by decide) (by decide)) o.1.2 o.1.1 (by decide)] at st
  exact st
theorem W_levelAt_x1 {x1 x2 x3 : Int} {h h' : am_H} (k : K9 h 2) (e : rn m_X11_levelAt 0 [.ref 2, .int (mI x1), .int (mI x2), .int (mI x3), am_J] [] h = some (.inr 1, h')) : rn m_L_levelAt 0 [.ref 2, .int (mI x1), .int (mI x2), .int (mI x3), .ref 74, am_J] [] h = some (.inl (some (.int (mI 1))), h') := by
  have st := b_L_levelAt_0 (a0 := 2) (a4 := 74) (x1 := x1) (x2 := x2) (x3 := x3) (h := h) k
  rw [e, cl_h (pc' := 17) (i := 5) rfl] at st
  exact st.trans b_L_levelAt_17
theorem i_L_meanBits_0 : am_i m_L_meanBits 0 = some (0, .aload_n 1, 1, [], 0) := rfl
theorem i_L_meanBits_1 : am_i m_L_meanBits 1 = some (1, .iconst 0, 1, [], 0) := rfl
theorem i_L_meanBits_2 : am_i m_L_meanBits 2 = some (2, .aload_n 0, 1, [], 0) := rfl
theorem i_L_meanBits_3 : am_i m_L_meanBits 3 = some (3, .invokevirtual 119, 3, [227, 9], 0) := rfl
theorem b_L_meanBits_0 {a0 a1 : Nat} {h : am_H} (k1 : K9 h a0) : rn m_L_meanBits 0 [.ref a0, .ref a1, am_J] [] h = cl m_L_meanBits 6 [.ref a0, .ref a1, am_J] [.int (mI 0), .ref a1] (rn m_X11_meanBits 0 [.ref a0, am_J, am_J] [] h) := by
  refine (tq_aload_n i_L_meanBits_0 rfl (isA_ref _) rfl).trans ?_
  refine (tq_iconst i_L_meanBits_1 rfl).trans ?_
  refine (tq_aload_n i_L_meanBits_2 rfl (isA_ref _) rfl).trans ?_
  exact c_X11_meanBits i_L_meanBits_3 (K9_s k1) (ltd d_L_meanBits (by decide)) (stOk_2 _ _) rfl
theorem i_L_meanBits_6 : am_i m_L_meanBits 6 = some (6, .dastore, 1, [], 0) := rfl
theorem i_L_meanBits_7 : am_i m_L_meanBits 7 = some (7, .goto 6, 3, [], 0) := rfl
theorem i_L_meanBits_13 : am_i m_L_meanBits 13 = some (13, .iconst 0, 1, [], 0) := rfl
theorem i_L_meanBits_14 : am_i m_L_meanBits 14 = some (14, .ireturn, 1, [], 0) := rfl
theorem b_L_meanBits_6 {v0 v1 v2 : Value} {ds0 : UInt64} {xs1 xs1' : Int} {as2 n_as2 : Nat} {h : am_H} (ws1 : wr xs1 = xs1') (n1 : gn h as2 = n_as2) (s2 : sh h as2 = (3, 4)) (g3 : 0 ≤ xs1' ∧ xs1' < (n_as2 : Int)) : rn m_L_meanBits 6 [v0, v1, v2] [.double ds0, .int (mI xs1), .ref as2] h = some (.inl (some (.int (mI 0))), uD h as2 xs1' ds0) := by
  refine (tq_dastore i_L_meanBits_6 s2 ws1 g3.1 (lt_gn n1 g3.2) rfl).trans ?_
  refine (tq_goto (pc' := 13) i_L_meanBits_7 (by decide)).trans ?_
  refine (tq_iconst i_L_meanBits_13 rfl).trans ?_
  exact tq_ireturn i_L_meanBits_14 r_L_meanBits rfl
theorem i_L_meanBits_11 : am_i m_L_meanBits 11 = some (11, .iconst 1, 1, [], 1) := rfl
theorem i_L_meanBits_12 : am_i m_L_meanBits 12 = some (12, .ireturn, 1, [], 0) := rfl
theorem b_L_meanBits_11 {v0 v1 v2 : Value} {h : am_H} : rn m_L_meanBits 11 [v0, v1, v2] [] h = some (.inl (some (.int (mI 1))), h) := by
  refine (tq_iconst i_L_meanBits_11 rfl).trans ?_
  exact tq_ireturn i_L_meanBits_12 r_L_meanBits rfl
theorem W_meanBits_x5 {h h' : am_H} (k : K9 h 2) (e : rn m_X11_meanBits 0 [.ref 2, am_J, am_J] [] h = some (.inr 5, h')) : rn m_L_meanBits 0 [.ref 2, .ref 75, am_J] [] h = some (.inl (some (.int (mI 1))), h') := by
  have st := b_L_meanBits_0 (a0 := 2) (a1 := 75) (h := h) k
  rw [e, cl_h (pc' := 11) (i := 2) rfl] at st
  exact st.trans b_L_meanBits_11
theorem i_L_modeAt_0 : am_i m_L_modeAt 0 = some (0, .aload 4, 2, [], 0) := rfl
theorem i_L_modeAt_2 : am_i m_L_modeAt 2 = some (2, .iconst 0, 1, [], 0) := rfl
theorem i_L_modeAt_3 : am_i m_L_modeAt 3 = some (3, .aload_n 0, 1, [], 0) := rfl
theorem i_L_modeAt_4 : am_i m_L_modeAt 4 = some (4, .iload_n 1, 1, [], 0) := rfl
theorem i_L_modeAt_5 : am_i m_L_modeAt 5 = some (5, .iload_n 2, 1, [], 0) := rfl
theorem i_L_modeAt_6 : am_i m_L_modeAt 6 = some (6, .iload_n 3, 1, [], 0) := rfl
theorem i_L_modeAt_7 : am_i m_L_modeAt 7 = some (7, .invokevirtual 77, 3, [228, 9], 0) := rfl
theorem b_L_modeAt_0 {a0 a4 : Nat} {x1 x2 x3 : Int} {h : am_H} (k1 : K9 h a0) : rn m_L_modeAt 0 [.ref a0, .int (mI x1), .int (mI x2), .int (mI x3), .ref a4, am_J] [] h = cl m_L_modeAt 10 [.ref a0, .int (mI x1), .int (mI x2), .int (mI x3), .ref a4, am_J] [.int (mI 0), .ref a4] (rn m_X11_modeAt 0 [.ref a0, .int (mI x1), .int (mI x2), .int (mI x3), am_J] [] h) := by
  refine (tq_aload i_L_modeAt_0 rfl (isA_ref _) rfl).trans ?_
  refine (tq_iconst i_L_modeAt_2 rfl).trans ?_
  refine (tq_aload_n i_L_modeAt_3 rfl (isA_ref _) rfl).trans ?_
  refine (tq_iload_n i_L_modeAt_4 rfl rfl).trans ?_
  refine (tq_iload_n i_L_modeAt_5 rfl rfl).trans ?_
  refine (tq_iload_n i_L_modeAt_6 rfl rfl).trans ?_
  exact c_X11_modeAt i_L_modeAt_7 (K9_s k1) (ltd d_L_modeAt (by decide)) (stOk_2 _ _) rfl
theorem i_L_modeAt_10 : am_i m_L_modeAt 10 = some (10, .i2l, 1, [], 0) := rfl
theorem i_L_modeAt_11 : am_i m_L_modeAt 11 = some (11, .lastore, 1, [], 0) := rfl
theorem i_L_modeAt_12 : am_i m_L_modeAt 12 = some (12, .goto 7, 3, [], 0) := rfl
theorem i_L_modeAt_19 : am_i m_L_modeAt 19 = some (19, .iconst 0, 1, [], 0) := rfl
theorem i_L_modeAt_20 : am_i m_L_modeAt 20 = some (20, .ireturn, 1, [], 0) := rfl
theorem b_L_modeAt_10 {v0 v1 v2 v3 v4 v5 : Value} {xs0 xs1 xs0' xs1' : Int} {as2 n_as2 : Nat} {h : am_H} (ws0 : wr xs0 = xs0') (ws1 : wr xs1 = xs1') (n1 : gn h as2 = n_as2) (s2 : sh h as2 = (2, 3)) (g3 : 0 ≤ xs1' ∧ xs1' < (n_as2 : Int)) : rn m_L_modeAt 10 [v0, v1, v2, v3, v4, v5] [.int (mI xs0), .int (mI xs1), .ref as2] h = some (.inl (some (.int (mI 0))), uJ h as2 xs1' xs0') := by
  refine (tq_i2l i_L_modeAt_10 ws0 rfl).trans ?_
  refine (tq_lastore i_L_modeAt_11 s2 ws1 g3.1 (lt_gn n1 g3.2) rfl).trans ?_
  refine (tq_goto (pc' := 19) i_L_modeAt_12 (by decide)).trans ?_
  refine (tq_iconst i_L_modeAt_19 rfl).trans ?_
  exact tq_ireturn i_L_modeAt_20 r_L_modeAt rfl
theorem i_L_modeAt_17 : am_i m_L_modeAt 17 = some (17, .iconst 1, 1, [], 1) := rfl
theorem i_L_modeAt_18 : am_i m_L_modeAt 18 = some (18, .ireturn, 1, [], 0) := rfl
theorem b_L_modeAt_17 {v0 v1 v2 v3 v4 v5 : Value} {h : am_H} : rn m_L_modeAt 17 [v0, v1, v2, v3, v4, v5] [] h = some (.inl (some (.int (mI 1))), h) := by
  refine (tq_iconst i_L_modeAt_17 rfl).trans ?_
  exact tq_ireturn i_L_modeAt_18 r_L_modeAt rfl
theorem W_modeAt {x1 x2 x3 : Int} {h h' : am_H} {v : Int} (k : K9 h 2) (o : OUT h') (w : wr v = v) (e : rn m_X11_modeAt 0 [.ref 2, .int (mI x1), .int (mI x2), .int (mI x3), am_J] [] h = some (.inl (some (.int (mI v))), h')) : rn m_L_modeAt 0 [.ref 2, .int (mI x1), .int (mI x2), .int (mI x3), .ref 74, am_J] [] h = some (.inl (some (.int (mI 0))), uJ h' 74 0 v) := by
  have st := b_L_modeAt_0 (a0 := 2) (a4 := 74) (x1 := x1) (x2 := x2) (x3 := x3) (h := h) k
  rw [e, cl_v, b_L_modeAt_10 w (wr_id (by decide) (by decide)) o.1.2 o.1.1 (by decide)] at st
  exact st
theorem W_modeAt_x1 {x1 x2 x3 : Int} {h h' : am_H} (k : K9 h 2) (e : rn m_X11_modeAt 0 [.ref 2, .int (mI x1), .int (mI x2), .int (mI x3), am_J] [] h = some (.inr 1, h')) : rn m_L_modeAt 0 [.ref 2, .int (mI x1), .int (mI x2), .int (mI x3), .ref 74, am_J] [] h = some (.inl (some (.int (mI 1))), h') := by
  have st := b_L_modeAt_0 (a0 := 2) (a4 := 74) (x1 := x1) (x2 := x2) (x3 := x3) (h := h) k
  rw [e, cl_h (pc' := 17) (i := 5) rfl] at st
  exact st.trans b_L_modeAt_17
theorem i_L_partAt_0 : am_i m_L_partAt 0 = some (0, .aload 4, 2, [], 0) := rfl
theorem i_L_partAt_2 : am_i m_L_partAt 2 = some (2, .iconst 0, 1, [], 0) := rfl
theorem i_L_partAt_3 : am_i m_L_partAt 3 = some (3, .aload_n 0, 1, [], 0) := rfl
theorem i_L_partAt_4 : am_i m_L_partAt 4 = some (4, .iload_n 1, 1, [], 0) := rfl
theorem i_L_partAt_5 : am_i m_L_partAt 5 = some (5, .iload_n 2, 1, [], 0) := rfl
theorem i_L_partAt_6 : am_i m_L_partAt 6 = some (6, .iload_n 3, 1, [], 0) := rfl
theorem i_L_partAt_7 : am_i m_L_partAt 7 = some (7, .invokevirtual 74, 3, [229, 9], 0) := rfl
theorem b_L_partAt_0 {a0 a4 : Nat} {x1 x2 x3 : Int} {h : am_H} (k1 : K9 h a0) : rn m_L_partAt 0 [.ref a0, .int (mI x1), .int (mI x2), .int (mI x3), .ref a4, am_J] [] h = cl m_L_partAt 10 [.ref a0, .int (mI x1), .int (mI x2), .int (mI x3), .ref a4, am_J] [.int (mI 0), .ref a4] (rn m_X11_partAt 0 [.ref a0, .int (mI x1), .int (mI x2), .int (mI x3), am_J] [] h) := by
  refine (tq_aload i_L_partAt_0 rfl (isA_ref _) rfl).trans ?_
  refine (tq_iconst i_L_partAt_2 rfl).trans ?_
  refine (tq_aload_n i_L_partAt_3 rfl (isA_ref _) rfl).trans ?_
  refine (tq_iload_n i_L_partAt_4 rfl rfl).trans ?_
  refine (tq_iload_n i_L_partAt_5 rfl rfl).trans ?_
  refine (tq_iload_n i_L_partAt_6 rfl rfl).trans ?_
  exact c_X11_partAt i_L_partAt_7 (K9_s k1) (ltd d_L_partAt (by decide)) (stOk_2 _ _) rfl
theorem i_L_partAt_10 : am_i m_L_partAt 10 = some (10, .i2l, 1, [], 0) := rfl
theorem i_L_partAt_11 : am_i m_L_partAt 11 = some (11, .lastore, 1, [], 0) := rfl
theorem i_L_partAt_12 : am_i m_L_partAt 12 = some (12, .goto 7, 3, [], 0) := rfl
theorem i_L_partAt_19 : am_i m_L_partAt 19 = some (19, .iconst 0, 1, [], 0) := rfl
theorem i_L_partAt_20 : am_i m_L_partAt 20 = some (20, .ireturn, 1, [], 0) := rfl
theorem b_L_partAt_10 {v0 v1 v2 v3 v4 v5 : Value} {xs0 xs1 xs0' xs1' : Int} {as2 n_as2 : Nat} {h : am_H} (ws0 : wr xs0 = xs0') (ws1 : wr xs1 = xs1') (n1 : gn h as2 = n_as2) (s2 : sh h as2 = (2, 3)) (g3 : 0 ≤ xs1' ∧ xs1' < (n_as2 : Int)) : rn m_L_partAt 10 [v0, v1, v2, v3, v4, v5] [.int (mI xs0), .int (mI xs1), .ref as2] h = some (.inl (some (.int (mI 0))), uJ h as2 xs1' xs0') := by
  refine (tq_i2l i_L_partAt_10 ws0 rfl).trans ?_
  refine (tq_lastore i_L_partAt_11 s2 ws1 g3.1 (lt_gn n1 g3.2) rfl).trans ?_
  refine (tq_goto (pc' := 19) i_L_partAt_12 (by decide)).trans ?_
  refine (tq_iconst i_L_partAt_19 rfl).trans ?_
  exact tq_ireturn i_L_partAt_20 r_L_partAt rfl
theorem i_L_partAt_17 : am_i m_L_partAt 17 = some (17, .iconst 1, 1, [], 1) := rfl
theorem i_L_partAt_18 : am_i m_L_partAt 18 = some (18, .ireturn, 1, [], 0) := rfl
theorem b_L_partAt_17 {v0 v1 v2 v3 v4 v5 : Value} {h : am_H} : rn m_L_partAt 17 [v0, v1, v2, v3, v4, v5] [] h = some (.inl (some (.int (mI 1))), h) := by
  refine (tq_iconst i_L_partAt_17 rfl).trans ?_
  exact tq_ireturn i_L_partAt_18 r_L_partAt rfl
theorem W_partAt {x1 x2 x3 : Int} {h h' : am_H} {v : Int} (k : K9 h 2) (o : OUT h') (w : wr v = v) (e : rn m_X11_partAt 0 [.ref 2, .int (mI x1), .int (mI x2), .int (mI x3), am_J] [] h = some (.inl (some (.int (mI v))), h')) : rn m_L_partAt 0 [.ref 2, .int (mI x1), .int (mI x2), .int (mI x3), .ref 74, am_J] [] h = some (.inl (some (.int (mI 0))), uJ h' 74 0 v) := by
  have st := b_L_partAt_0 (a0 := 2) (a4 := 74) (x1 := x1) (x2 := x2) (x3 := x3) (h := h) k
  rw [e, cl_v, b_L_partAt_10 w (wr_id (by decide) (by decide)) o.1.2 o.1.1 (by decide)] at st
  exact st
theorem W_partAt_x1 {x1 x2 x3 : Int} {h h' : am_H} (k : K9 h 2) (e : rn m_X11_partAt 0 [.ref 2, .int (mI x1), .int (mI x2), .int (mI x3), am_J] [] h = some (.inr 1, h')) : rn m_L_partAt 0 [.ref 2, .int (mI x1), .int (mI x2), .int (mI x3), .ref 74, am_J] [] h = some (.inl (some (.int (mI 1))), h') := by
  have st := b_L_partAt_0 (a0 := 2) (a4 := 74) (x1 := x1) (x2 := x2) (x3 := x3) (h := h) k
  rw [e, cl_h (pc' := 17) (i := 5) rfl] at st
  exact st.trans b_L_partAt_17
theorem i_L_pixel_0 : am_i m_L_pixel 0 = some (0, .aload_n 3, 1, [], 0) := rfl
theorem i_L_pixel_1 : am_i m_L_pixel 1 = some (1, .iconst 0, 1, [], 0) := rfl
theorem i_L_pixel_2 : am_i m_L_pixel 2 = some (2, .aload_n 0, 1, [], 0) := rfl
theorem i_L_pixel_3 : am_i m_L_pixel 3 = some (3, .iload_n 1, 1, [], 0) := rfl
theorem i_L_pixel_4 : am_i m_L_pixel 4 = some (4, .iload_n 2, 1, [], 0) := rfl
theorem i_L_pixel_5 : am_i m_L_pixel 5 = some (5, .invokevirtual 26, 3, [230, 9], 0) := rfl
theorem b_L_pixel_0 {a0 a3 : Nat} {x1 x2 : Int} {h : am_H} (k1 : K9 h a0) : rn m_L_pixel 0 [.ref a0, .int (mI x1), .int (mI x2), .ref a3, am_J] [] h = cl m_L_pixel 8 [.ref a0, .int (mI x1), .int (mI x2), .ref a3, am_J] [.int (mI 0), .ref a3] (rn m_X11_pixel 0 [.ref a0, .int (mI x1), .int (mI x2)] [] h) := by
  refine (tq_aload_n i_L_pixel_0 rfl (isA_ref _) rfl).trans ?_
  refine (tq_iconst i_L_pixel_1 rfl).trans ?_
  refine (tq_aload_n i_L_pixel_2 rfl (isA_ref _) rfl).trans ?_
  refine (tq_iload_n i_L_pixel_3 rfl rfl).trans ?_
  refine (tq_iload_n i_L_pixel_4 rfl rfl).trans ?_
  exact c_X11_pixel i_L_pixel_5 (K9_s k1) (ltd d_L_pixel (by decide)) (stOk_2 _ _) rfl
theorem i_L_pixel_8 : am_i m_L_pixel 8 = some (8, .i2l, 1, [], 0) := rfl
theorem i_L_pixel_9 : am_i m_L_pixel 9 = some (9, .lastore, 1, [], 0) := rfl
theorem i_L_pixel_10 : am_i m_L_pixel 10 = some (10, .goto 7, 3, [], 0) := rfl
theorem i_L_pixel_17 : am_i m_L_pixel 17 = some (17, .iconst 0, 1, [], 0) := rfl
theorem i_L_pixel_18 : am_i m_L_pixel 18 = some (18, .ireturn, 1, [], 0) := rfl
theorem b_L_pixel_8 {v0 v1 v2 v3 v4 : Value} {xs0 xs1 xs0' xs1' : Int} {as2 n_as2 : Nat} {h : am_H} (ws0 : wr xs0 = xs0') (ws1 : wr xs1 = xs1') (n1 : gn h as2 = n_as2) (s2 : sh h as2 = (2, 3)) (g3 : 0 ≤ xs1' ∧ xs1' < (n_as2 : Int)) : rn m_L_pixel 8 [v0, v1, v2, v3, v4] [.int (mI xs0), .int (mI xs1), .ref as2] h = some (.inl (some (.int (mI 0))), uJ h as2 xs1' xs0') := by
  refine (tq_i2l i_L_pixel_8 ws0 rfl).trans ?_
  refine (tq_lastore i_L_pixel_9 s2 ws1 g3.1 (lt_gn n1 g3.2) rfl).trans ?_
  refine (tq_goto (pc' := 17) i_L_pixel_10 (by decide)).trans ?_
  refine (tq_iconst i_L_pixel_17 rfl).trans ?_
  exact tq_ireturn i_L_pixel_18 r_L_pixel rfl
theorem i_L_pixel_15 : am_i m_L_pixel 15 = some (15, .iconst 1, 1, [], 1) := rfl
theorem i_L_pixel_16 : am_i m_L_pixel 16 = some (16, .ireturn, 1, [], 0) := rfl
theorem b_L_pixel_15 {v0 v1 v2 v3 v4 : Value} {h : am_H} : rn m_L_pixel 15 [v0, v1, v2, v3, v4] [] h = some (.inl (some (.int (mI 1))), h) := by
  refine (tq_iconst i_L_pixel_15 rfl).trans ?_
  exact tq_ireturn i_L_pixel_16 r_L_pixel rfl
theorem W_pixel {x1 x2 : Int} {h h' : am_H} {v : Int} (k : K9 h 2) (o : OUT h') (w : wr v = v) (e : rn m_X11_pixel 0 [.ref 2, .int (mI x1), .int (mI x2)] [] h = some (.inl (some (.int (mI v))), h')) : rn m_L_pixel 0 [.ref 2, .int (mI x1), .int (mI x2), .ref 74, am_J] [] h = some (.inl (some (.int (mI 0))), uJ h' 74 0 v) := by
  have st := b_L_pixel_0 (a0 := 2) (a3 := 74) (x1 := x1) (x2 := x2) (h := h) k
  rw [e, cl_v, b_L_pixel_8 w (wr_id (by decide) (by decide)) o.1.2 o.1.1 (by decide)] at st
  exact st
theorem W_pixel_x1 {x1 x2 : Int} {h h' : am_H} (k : K9 h 2) (e : rn m_X11_pixel 0 [.ref 2, .int (mI x1), .int (mI x2)] [] h = some (.inr 1, h')) : rn m_L_pixel 0 [.ref 2, .int (mI x1), .int (mI x2), .ref 74, am_J] [] h = some (.inl (some (.int (mI 1))), h') := by
  have st := b_L_pixel_0 (a0 := 2) (a3 := 74) (x1 := x1) (x2 := x2) (h := h) k
  rw [e, cl_h (pc' := 15) (i := 4) rfl] at st
  exact st.trans b_L_pixel_15
theorem i_L_send_0 : am_i m_L_send 0 = some (0, .aload_n 2, 1, [], 0) := rfl
theorem i_L_send_1 : am_i m_L_send 1 = some (1, .iconst 0, 1, [], 0) := rfl
theorem i_L_send_2 : am_i m_L_send 2 = some (2, .aload_n 0, 1, [], 0) := rfl
theorem i_L_send_3 : am_i m_L_send 3 = some (3, .iload_n 1, 1, [], 0) := rfl
theorem i_L_send_4 : am_i m_L_send 4 = some (4, .invokevirtual 100, 3, [231, 9], 0) := rfl
theorem b_L_send_0 {a0 a2 : Nat} {x1 : Int} {h : am_H} (k1 : K9 h a0) : rn m_L_send 0 [.ref a0, .int (mI x1), .ref a2, am_J] [] h = cl m_L_send 7 [.ref a0, .int (mI x1), .ref a2, am_J] [.int (mI 0), .ref a2] (rn m_X11_send 0 [.ref a0, .int (mI x1), am_J] [] h) := by
  refine (tq_aload_n i_L_send_0 rfl (isA_ref _) rfl).trans ?_
  refine (tq_iconst i_L_send_1 rfl).trans ?_
  refine (tq_aload_n i_L_send_2 rfl (isA_ref _) rfl).trans ?_
  refine (tq_iload_n i_L_send_3 rfl rfl).trans ?_
  exact c_X11_send i_L_send_4 (K9_s k1) (ltd d_L_send (by decide)) (stOk_2 _ _) rfl
theorem i_L_send_7 : am_i m_L_send 7 = some (7, .i2l, 1, [], 0) := rfl
theorem i_L_send_8 : am_i m_L_send 8 = some (8, .lastore, 1, [], 0) := rfl
theorem i_L_send_9 : am_i m_L_send 9 = some (9, .goto 9, 3, [], 0) := rfl
theorem i_L_send_18 : am_i m_L_send 18 = some (18, .iconst 0, 1, [], 0) := rfl
theorem i_L_send_19 : am_i m_L_send 19 = some (19, .ireturn, 1, [], 0) := rfl
theorem b_L_send_7 {v0 v1 v2 v3 : Value} {xs0 xs1 xs0' xs1' : Int} {as2 n_as2 : Nat} {h : am_H} (ws0 : wr xs0 = xs0') (ws1 : wr xs1 = xs1') (n1 : gn h as2 = n_as2) (s2 : sh h as2 = (2, 3)) (g3 : 0 ≤ xs1' ∧ xs1' < (n_as2 : Int)) : rn m_L_send 7 [v0, v1, v2, v3] [.int (mI xs0), .int (mI xs1), .ref as2] h = some (.inl (some (.int (mI 0))), uJ h as2 xs1' xs0') := by
  refine (tq_i2l i_L_send_7 ws0 rfl).trans ?_
  refine (tq_lastore i_L_send_8 s2 ws1 g3.1 (lt_gn n1 g3.2) rfl).trans ?_
  refine (tq_goto (pc' := 18) i_L_send_9 (by decide)).trans ?_
  refine (tq_iconst i_L_send_18 rfl).trans ?_
  exact tq_ireturn i_L_send_19 r_L_send rfl
theorem i_L_send_13 : am_i m_L_send 13 = some (13, .iconst 1, 1, [], 1) := rfl
theorem i_L_send_14 : am_i m_L_send 14 = some (14, .ireturn, 1, [], 0) := rfl
theorem b_L_send_13 {v0 v1 v2 v3 : Value} {h : am_H} : rn m_L_send 13 [v0, v1, v2, v3] [] h = some (.inl (some (.int (mI 1))), h) := by
  refine (tq_iconst i_L_send_13 rfl).trans ?_
  exact tq_ireturn i_L_send_14 r_L_send rfl
theorem i_L_send_16 : am_i m_L_send 16 = some (16, .iconst 2, 1, [], 2) := rfl
theorem i_L_send_17 : am_i m_L_send 17 = some (17, .ireturn, 1, [], 0) := rfl
theorem b_L_send_16 {v0 v1 v2 v3 : Value} {h : am_H} : rn m_L_send 16 [v0, v1, v2, v3] [] h = some (.inl (some (.int (mI 2))), h) := by
  refine (tq_iconst i_L_send_16 rfl).trans ?_
  exact tq_ireturn i_L_send_17 r_L_send rfl
theorem W_send {x1 : Int} {h h' : am_H} {v : Int} (k : K9 h 2) (o : OUT h') (w : wr v = v) (e : rn m_X11_send 0 [.ref 2, .int (mI x1), am_J] [] h = some (.inl (some (.int (mI v))), h')) : rn m_L_send 0 [.ref 2, .int (mI x1), .ref 74, am_J] [] h = some (.inl (some (.int (mI 0))), uJ h' 74 0 v) := by
  have st := b_L_send_0 (a0 := 2) (a2 := 74) (x1 := x1) (h := h) k
  rw [e, cl_v, b_L_send_7 w (wr_id (by decide) (by decide)) o.1.2 o.1.1 (by decide)] at st
  exact st
theorem W_send_x4 {x1 : Int} {h h' : am_H} (k : K9 h 2) (e : rn m_X11_send 0 [.ref 2, .int (mI x1), am_J] [] h = some (.inr 4, h')) : rn m_L_send 0 [.ref 2, .int (mI x1), .ref 74, am_J] [] h = some (.inl (some (.int (mI 1))), h') := by
  have st := b_L_send_0 (a0 := 2) (a2 := 74) (x1 := x1) (h := h) k
  rw [e, cl_h (pc' := 13) (i := 3) rfl] at st
  exact st.trans b_L_send_13
theorem W_send_x0 {x1 : Int} {h h' : am_H} (k : K9 h 2) (e : rn m_X11_send 0 [.ref 2, .int (mI x1), am_J] [] h = some (.inr 0, h')) : rn m_L_send 0 [.ref 2, .int (mI x1), .ref 74, am_J] [] h = some (.inl (some (.int (mI 2))), h') := by
  have st := b_L_send_0 (a0 := 2) (a2 := 74) (x1 := x1) (h := h) k
  rw [e, cl_h (pc' := 16) (i := 3) rfl] at st
  exact st.trans b_L_send_16
theorem i_L_shown_0 : am_i m_L_shown 0 = some (0, .aload_n 1, 1, [], 0) := rfl
theorem i_L_shown_1 : am_i m_L_shown 1 = some (1, .iconst 0, 1, [], 0) := rfl
theorem i_L_shown_2 : am_i m_L_shown 2 = some (2, .aload_n 0, 1, [], 0) := rfl
theorem i_L_shown_3 : am_i m_L_shown 3 = some (3, .invokevirtual 106, 3, [232, 9], 0) := rfl
theorem b_L_shown_0 {a0 a1 : Nat} {h : am_H} (k1 : K9 h a0) : rn m_L_shown 0 [.ref a0, .ref a1, am_J] [] h = cl m_L_shown 6 [.ref a0, .ref a1, am_J] [.int (mI 0), .ref a1] (rn m_X11_shown 0 [.ref a0] [] h) := by
  refine (tq_aload_n i_L_shown_0 rfl (isA_ref _) rfl).trans ?_
  refine (tq_iconst i_L_shown_1 rfl).trans ?_
  refine (tq_aload_n i_L_shown_2 rfl (isA_ref _) rfl).trans ?_
  exact c_X11_shown i_L_shown_3 (K9_s k1) (ltd d_L_shown (by decide)) (stOk_2 _ _) rfl
theorem i_L_shown_6 : am_i m_L_shown 6 = some (6, .i2l, 1, [], 0) := rfl
theorem i_L_shown_7 : am_i m_L_shown 7 = some (7, .lastore, 1, [], 0) := rfl
theorem i_L_shown_8 : am_i m_L_shown 8 = some (8, .goto 6, 3, [], 0) := rfl
theorem i_L_shown_14 : am_i m_L_shown 14 = some (14, .iconst 0, 1, [], 0) := rfl
theorem i_L_shown_15 : am_i m_L_shown 15 = some (15, .ireturn, 1, [], 0) := rfl
theorem b_L_shown_6 {v0 v1 v2 : Value} {xs0 xs1 xs0' xs1' : Int} {as2 n_as2 : Nat} {h : am_H} (ws0 : wr xs0 = xs0') (ws1 : wr xs1 = xs1') (n1 : gn h as2 = n_as2) (s2 : sh h as2 = (2, 3)) (g3 : 0 ≤ xs1' ∧ xs1' < (n_as2 : Int)) : rn m_L_shown 6 [v0, v1, v2] [.int (mI xs0), .int (mI xs1), .ref as2] h = some (.inl (some (.int (mI 0))), uJ h as2 xs1' xs0') := by
  refine (tq_i2l i_L_shown_6 ws0 rfl).trans ?_
  refine (tq_lastore i_L_shown_7 s2 ws1 g3.1 (lt_gn n1 g3.2) rfl).trans ?_
  refine (tq_goto (pc' := 14) i_L_shown_8 (by decide)).trans ?_
  refine (tq_iconst i_L_shown_14 rfl).trans ?_
  exact tq_ireturn i_L_shown_15 r_L_shown rfl
theorem i_L_shown_12 : am_i m_L_shown 12 = some (12, .iconst 1, 1, [], 1) := rfl
theorem i_L_shown_13 : am_i m_L_shown 13 = some (13, .ireturn, 1, [], 0) := rfl
theorem b_L_shown_12 {v0 v1 v2 : Value} {h : am_H} : rn m_L_shown 12 [v0, v1, v2] [] h = some (.inl (some (.int (mI 1))), h) := by
  refine (tq_iconst i_L_shown_12 rfl).trans ?_
  exact tq_ireturn i_L_shown_13 r_L_shown rfl
theorem W_shown {h h' : am_H} {v : Int} (k : K9 h 2) (o : OUT h') (w : wr v = v) (e : rn m_X11_shown 0 [.ref 2] [] h = some (.inl (some (.int (mI v))), h')) : rn m_L_shown 0 [.ref 2, .ref 74, am_J] [] h = some (.inl (some (.int (mI 0))), uJ h' 74 0 v) := by
  have st := b_L_shown_0 (a0 := 2) (a1 := 74) (h := h) k
  rw [e, cl_v, b_L_shown_6 w (wr_id (by decide) (by decide)) o.1.2 o.1.1 (by decide)] at st
  exact st
theorem W_shown_x4 {h h' : am_H} (k : K9 h 2) (e : rn m_X11_shown 0 [.ref 2] [] h = some (.inr 4, h')) : rn m_L_shown 0 [.ref 2, .ref 74, am_J] [] h = some (.inl (some (.int (mI 1))), h') := by
  have st := b_L_shown_0 (a0 := 2) (a1 := 74) (h := h) k
  rw [e, cl_h (pc' := 12) (i := 2) rfl] at st
  exact st.trans b_L_shown_12
theorem i_L_shownAt_0 : am_i m_L_shownAt 0 = some (0, .aload_n 3, 1, [], 0) := rfl
theorem i_L_shownAt_1 : am_i m_L_shownAt 1 = some (1, .iconst 0, 1, [], 0) := rfl
theorem i_L_shownAt_2 : am_i m_L_shownAt 2 = some (2, .aload_n 0, 1, [], 0) := rfl
theorem i_L_shownAt_3 : am_i m_L_shownAt 3 = some (3, .iload_n 1, 1, [], 0) := rfl
theorem i_L_shownAt_4 : am_i m_L_shownAt 4 = some (4, .iload_n 2, 1, [], 0) := rfl
theorem i_L_shownAt_5 : am_i m_L_shownAt 5 = some (5, .invokevirtual 109, 3, [233, 9], 0) := rfl
theorem b_L_shownAt_0 {a0 a3 : Nat} {x1 x2 : Int} {h : am_H} (k1 : K9 h a0) : rn m_L_shownAt 0 [.ref a0, .int (mI x1), .int (mI x2), .ref a3, am_J] [] h = cl m_L_shownAt 8 [.ref a0, .int (mI x1), .int (mI x2), .ref a3, am_J] [.int (mI 0), .ref a3] (rn m_X11_shownAt 0 [.ref a0, .int (mI x1), .int (mI x2)] [] h) := by
  refine (tq_aload_n i_L_shownAt_0 rfl (isA_ref _) rfl).trans ?_
  refine (tq_iconst i_L_shownAt_1 rfl).trans ?_
  refine (tq_aload_n i_L_shownAt_2 rfl (isA_ref _) rfl).trans ?_
  refine (tq_iload_n i_L_shownAt_3 rfl rfl).trans ?_
  refine (tq_iload_n i_L_shownAt_4 rfl rfl).trans ?_
  exact c_X11_shownAt i_L_shownAt_5 (K9_s k1) (ltd d_L_shownAt (by decide)) (stOk_2 _ _) rfl
theorem i_L_shownAt_8 : am_i m_L_shownAt 8 = some (8, .i2l, 1, [], 0) := rfl
theorem i_L_shownAt_9 : am_i m_L_shownAt 9 = some (9, .lastore, 1, [], 0) := rfl
theorem i_L_shownAt_10 : am_i m_L_shownAt 10 = some (10, .goto 11, 3, [], 0) := rfl
theorem i_L_shownAt_21 : am_i m_L_shownAt 21 = some (21, .iconst 0, 1, [], 0) := rfl
theorem i_L_shownAt_22 : am_i m_L_shownAt 22 = some (22, .ireturn, 1, [], 0) := rfl
theorem b_L_shownAt_8 {v0 v1 v2 v3 v4 : Value} {xs0 xs1 xs0' xs1' : Int} {as2 n_as2 : Nat} {h : am_H} (ws0 : wr xs0 = xs0') (ws1 : wr xs1 = xs1') (n1 : gn h as2 = n_as2) (s2 : sh h as2 = (2, 3)) (g3 : 0 ≤ xs1' ∧ xs1' < (n_as2 : Int)) : rn m_L_shownAt 8 [v0, v1, v2, v3, v4] [.int (mI xs0), .int (mI xs1), .ref as2] h = some (.inl (some (.int (mI 0))), uJ h as2 xs1' xs0') := by
  refine (tq_i2l i_L_shownAt_8 ws0 rfl).trans ?_
  refine (tq_lastore i_L_shownAt_9 s2 ws1 g3.1 (lt_gn n1 g3.2) rfl).trans ?_
  refine (tq_goto (pc' := 21) i_L_shownAt_10 (by decide)).trans ?_
  refine (tq_iconst i_L_shownAt_21 rfl).trans ?_
  exact tq_ireturn i_L_shownAt_22 r_L_shownAt rfl
theorem i_L_shownAt_15 : am_i m_L_shownAt 15 = some (15, .iconst 1, 1, [], 1) := rfl
theorem i_L_shownAt_16 : am_i m_L_shownAt 16 = some (16, .ireturn, 1, [], 0) := rfl
theorem b_L_shownAt_15 {v0 v1 v2 v3 v4 : Value} {h : am_H} : rn m_L_shownAt 15 [v0, v1, v2, v3, v4] [] h = some (.inl (some (.int (mI 1))), h) := by
  refine (tq_iconst i_L_shownAt_15 rfl).trans ?_
  exact tq_ireturn i_L_shownAt_16 r_L_shownAt rfl
theorem i_L_shownAt_19 : am_i m_L_shownAt 19 = some (19, .iconst 2, 1, [], 2) := rfl
theorem i_L_shownAt_20 : am_i m_L_shownAt 20 = some (20, .ireturn, 1, [], 0) := rfl
theorem b_L_shownAt_19 {v0 v1 v2 v3 v4 : Value} {h : am_H} : rn m_L_shownAt 19 [v0, v1, v2, v3, v4] [] h = some (.inl (some (.int (mI 2))), h) := by
  refine (tq_iconst i_L_shownAt_19 rfl).trans ?_
  exact tq_ireturn i_L_shownAt_20 r_L_shownAt rfl
theorem W_shownAt {x1 x2 : Int} {h h' : am_H} {v : Int} (k : K9 h 2) (o : OUT h') (w : wr v = v) (e : rn m_X11_shownAt 0 [.ref 2, .int (mI x1), .int (mI x2)] [] h = some (.inl (some (.int (mI v))), h')) : rn m_L_shownAt 0 [.ref 2, .int (mI x1), .int (mI x2), .ref 74, am_J] [] h = some (.inl (some (.int (mI 0))), uJ h' 74 0 v) := by
  have st := b_L_shownAt_0 (a0 := 2) (a3 := 74) (x1 := x1) (x2 := x2) (h := h) k
  rw [e, cl_v, b_L_shownAt_8 w (wr_id (by decide) (by decide)) o.1.2 o.1.1 (by decide)] at st
  exact st
theorem W_shownAt_x1 {x1 x2 : Int} {h h' : am_H} (k : K9 h 2) (e : rn m_X11_shownAt 0 [.ref 2, .int (mI x1), .int (mI x2)] [] h = some (.inr 1, h')) : rn m_L_shownAt 0 [.ref 2, .int (mI x1), .int (mI x2), .ref 74, am_J] [] h = some (.inl (some (.int (mI 1))), h') := by
  have st := b_L_shownAt_0 (a0 := 2) (a3 := 74) (x1 := x1) (x2 := x2) (h := h) k
  rw [e, cl_h (pc' := 15) (i := 4) rfl] at st
  exact st.trans b_L_shownAt_15
theorem W_shownAt_x4 {x1 x2 : Int} {h h' : am_H} (k : K9 h 2) (e : rn m_X11_shownAt 0 [.ref 2, .int (mI x1), .int (mI x2)] [] h = some (.inr 4, h')) : rn m_L_shownAt 0 [.ref 2, .int (mI x1), .int (mI x2), .ref 74, am_J] [] h = some (.inl (some (.int (mI 2))), h') := by
  have st := b_L_shownAt_0 (a0 := 2) (a3 := 74) (x1 := x1) (x2 := x2) (h := h) k
  rw [e, cl_h (pc' := 19) (i := 4) rfl] at st
  exact st.trans b_L_shownAt_19
theorem i_L_vectorAt_0 : am_i m_L_vectorAt 0 = some (0, .aload 5, 2, [], 0) := rfl
theorem i_L_vectorAt_2 : am_i m_L_vectorAt 2 = some (2, .iconst 0, 1, [], 0) := rfl
theorem i_L_vectorAt_3 : am_i m_L_vectorAt 3 = some (3, .aload_n 0, 1, [], 0) := rfl
theorem i_L_vectorAt_4 : am_i m_L_vectorAt 4 = some (4, .iload_n 1, 1, [], 0) := rfl
theorem i_L_vectorAt_5 : am_i m_L_vectorAt 5 = some (5, .iload_n 2, 1, [], 0) := rfl
theorem i_L_vectorAt_6 : am_i m_L_vectorAt 6 = some (6, .iload_n 3, 1, [], 0) := rfl
theorem i_L_vectorAt_7 : am_i m_L_vectorAt 7 = some (7, .iload 4, 2, [], 0) := rfl
theorem i_L_vectorAt_9 : am_i m_L_vectorAt 9 = some (9, .invokevirtual 80, 3, [235, 9], 0) := rfl
theorem b_L_vectorAt_0 {a0 a5 : Nat} {x1 x2 x3 x4 : Int} {h : am_H} (k1 : K9 h a0) : rn m_L_vectorAt 0 [.ref a0, .int (mI x1), .int (mI x2), .int (mI x3), .int (mI x4), .ref a5, am_J] [] h = cl m_L_vectorAt 12 [.ref a0, .int (mI x1), .int (mI x2), .int (mI x3), .int (mI x4), .ref a5, am_J] [.int (mI 0), .ref a5] (rn m_X11_vectorAt 0 [.ref a0, .int (mI x1), .int (mI x2), .int (mI x3), .int (mI x4), am_J, am_J] [] h) := by
  refine (tq_aload i_L_vectorAt_0 rfl (isA_ref _) rfl).trans ?_
  refine (tq_iconst i_L_vectorAt_2 rfl).trans ?_
  refine (tq_aload_n i_L_vectorAt_3 rfl (isA_ref _) rfl).trans ?_
  refine (tq_iload_n i_L_vectorAt_4 rfl rfl).trans ?_
  refine (tq_iload_n i_L_vectorAt_5 rfl rfl).trans ?_
  refine (tq_iload_n i_L_vectorAt_6 rfl rfl).trans ?_
  refine (tq_iload i_L_vectorAt_7 rfl rfl).trans ?_
  exact c_X11_vectorAt i_L_vectorAt_9 (K9_s k1) (ltd d_L_vectorAt (by decide)) (stOk_2 _ _) rfl
theorem i_L_vectorAt_12 : am_i m_L_vectorAt 12 = some (12, .i2l, 1, [], 0) := rfl
theorem i_L_vectorAt_13 : am_i m_L_vectorAt 13 = some (13, .lastore, 1, [], 0) := rfl
theorem i_L_vectorAt_14 : am_i m_L_vectorAt 14 = some (14, .goto 11, 3, [], 0) := rfl
theorem i_L_vectorAt_25 : am_i m_L_vectorAt 25 = some (25, .iconst 0, 1, [], 0) := rfl
theorem i_L_vectorAt_26 : am_i m_L_vectorAt 26 = some (26, .ireturn, 1, [], 0) := rfl
theorem b_L_vectorAt_12 {v0 v1 v2 v3 v4 v5 v6 : Value} {xs0 xs1 xs0' xs1' : Int} {as2 n_as2 : Nat} {h : am_H} (ws0 : wr xs0 = xs0') (ws1 : wr xs1 = xs1') (n1 : gn h as2 = n_as2) (s2 : sh h as2 = (2, 3)) (g3 : 0 ≤ xs1' ∧ xs1' < (n_as2 : Int)) : rn m_L_vectorAt 12 [v0, v1, v2, v3, v4, v5, v6] [.int (mI xs0), .int (mI xs1), .ref as2] h = some (.inl (some (.int (mI 0))), uJ h as2 xs1' xs0') := by
  refine (tq_i2l i_L_vectorAt_12 ws0 rfl).trans ?_
  refine (tq_lastore i_L_vectorAt_13 s2 ws1 g3.1 (lt_gn n1 g3.2) rfl).trans ?_
  refine (tq_goto (pc' := 25) i_L_vectorAt_14 (by decide)).trans ?_
  refine (tq_iconst i_L_vectorAt_25 rfl).trans ?_
  exact tq_ireturn i_L_vectorAt_26 r_L_vectorAt rfl
theorem i_L_vectorAt_19 : am_i m_L_vectorAt 19 = some (19, .iconst 1, 1, [], 1) := rfl
theorem i_L_vectorAt_20 : am_i m_L_vectorAt 20 = some (20, .ireturn, 1, [], 0) := rfl
theorem b_L_vectorAt_19 {v0 v1 v2 v3 v4 v5 v6 : Value} {h : am_H} : rn m_L_vectorAt 19 [v0, v1, v2, v3, v4, v5, v6] [] h = some (.inl (some (.int (mI 1))), h) := by
  refine (tq_iconst i_L_vectorAt_19 rfl).trans ?_
  exact tq_ireturn i_L_vectorAt_20 r_L_vectorAt rfl
theorem i_L_vectorAt_23 : am_i m_L_vectorAt 23 = some (23, .iconst 2, 1, [], 2) := rfl
theorem i_L_vectorAt_24 : am_i m_L_vectorAt 24 = some (24, .ireturn, 1, [], 0) := rfl
theorem b_L_vectorAt_23 {v0 v1 v2 v3 v4 v5 v6 : Value} {h : am_H} : rn m_L_vectorAt 23 [v0, v1, v2, v3, v4, v5, v6] [] h = some (.inl (some (.int (mI 2))), h) := by
  refine (tq_iconst i_L_vectorAt_23 rfl).trans ?_
  exact tq_ireturn i_L_vectorAt_24 r_L_vectorAt rfl
theorem W_vectorAt {x1 x2 x3 x4 : Int} {h h' : am_H} {v : Int} (k : K9 h 2) (o : OUT h') (w : wr v = v) (e : rn m_X11_vectorAt 0 [.ref 2, .int (mI x1), .int (mI x2), .int (mI x3), .int (mI x4), am_J, am_J] [] h = some (.inl (some (.int (mI v))), h')) : rn m_L_vectorAt 0 [.ref 2, .int (mI x1), .int (mI x2), .int (mI x3), .int (mI x4), .ref 74, am_J] [] h = some (.inl (some (.int (mI 0))), uJ h' 74 0 v) := by
  have st := b_L_vectorAt_0 (a0 := 2) (a5 := 74) (x1 := x1) (x2 := x2) (x3 := x3) (x4 := x4) (h := h) k
  rw [e, cl_v, b_L_vectorAt_12 w (wr_id (by decide) (by decide)) o.1.2 o.1.1 (by decide)] at st
  exact st
theorem W_vectorAt_x1 {x1 x2 x3 x4 : Int} {h h' : am_H} (k : K9 h 2) (e : rn m_X11_vectorAt 0 [.ref 2, .int (mI x1), .int (mI x2), .int (mI x3), .int (mI x4), am_J, am_J] [] h = some (.inr 1, h')) : rn m_L_vectorAt 0 [.ref 2, .int (mI x1), .int (mI x2), .int (mI x3), .int (mI x4), .ref 74, am_J] [] h = some (.inl (some (.int (mI 1))), h') := by
  have st := b_L_vectorAt_0 (a0 := 2) (a5 := 74) (x1 := x1) (x2 := x2) (x3 := x3) (x4 := x4) (h := h) k
  rw [e, cl_h (pc' := 19) (i := 6) rfl] at st
  exact st.trans b_L_vectorAt_19
theorem W_vectorAt_x4 {x1 x2 x3 x4 : Int} {h h' : am_H} (k : K9 h 2) (e : rn m_X11_vectorAt 0 [.ref 2, .int (mI x1), .int (mI x2), .int (mI x3), .int (mI x4), am_J, am_J] [] h = some (.inr 4, h')) : rn m_L_vectorAt 0 [.ref 2, .int (mI x1), .int (mI x2), .int (mI x3), .int (mI x4), .ref 74, am_J] [] h = some (.inl (some (.int (mI 2))), h') := by
  have st := b_L_vectorAt_0 (a0 := 2) (a5 := 74) (x1 := x1) (x2 := x2) (x3 := x3) (x4 := x4) (h := h) k
  rw [e, cl_h (pc' := 23) (i := 6) rfl] at st
  exact st.trans b_L_vectorAt_23
theorem i_L_byteAt_0 : am_i m_L_byteAt 0 = some (0, .aload 4, 2, [], 0) := rfl
theorem i_L_byteAt_2 : am_i m_L_byteAt 2 = some (2, .iconst 0, 1, [], 0) := rfl
theorem i_L_byteAt_3 : am_i m_L_byteAt 3 = some (3, .aload_n 0, 1, [], 0) := rfl
theorem i_L_byteAt_4 : am_i m_L_byteAt 4 = some (4, .iload_n 1, 1, [], 0) := rfl
theorem i_L_byteAt_5 : am_i m_L_byteAt 5 = some (5, .iload_n 2, 1, [], 0) := rfl
theorem i_L_byteAt_6 : am_i m_L_byteAt 6 = some (6, .iload_n 3, 1, [], 0) := rfl
theorem i_L_byteAt_7 : am_i m_L_byteAt 7 = some (7, .invokevirtual 71, 3, [254, 9], 0) := rfl
theorem b_L_byteAt_0 {a0 a4 : Nat} {x1 x2 x3 : Int} {h : am_H} (k1 : K9 h a0) : rn m_L_byteAt 0 [.ref a0, .int (mI x1), .int (mI x2), .int (mI x3), .ref a4, am_J] [] h = cl m_L_byteAt 10 [.ref a0, .int (mI x1), .int (mI x2), .int (mI x3), .ref a4, am_J] [.int (mI 0), .ref a4] (rn m_X11_byteAt 0 [.ref a0, .int (mI x1), .int (mI x2), .int (mI x3), am_J] [] h) := by
  refine (tq_aload i_L_byteAt_0 rfl (isA_ref _) rfl).trans ?_
  refine (tq_iconst i_L_byteAt_2 rfl).trans ?_
  refine (tq_aload_n i_L_byteAt_3 rfl (isA_ref _) rfl).trans ?_
  refine (tq_iload_n i_L_byteAt_4 rfl rfl).trans ?_
  refine (tq_iload_n i_L_byteAt_5 rfl rfl).trans ?_
  refine (tq_iload_n i_L_byteAt_6 rfl rfl).trans ?_
  exact c_X11_byteAt i_L_byteAt_7 (K9_s k1) (ltd d_L_byteAt (by decide)) (stOk_2 _ _) rfl
theorem i_L_byteAt_10 : am_i m_L_byteAt 10 = some (10, .i2l, 1, [], 0) := rfl
theorem i_L_byteAt_11 : am_i m_L_byteAt 11 = some (11, .lastore, 1, [], 0) := rfl
theorem i_L_byteAt_12 : am_i m_L_byteAt 12 = some (12, .goto 7, 3, [], 0) := rfl
theorem i_L_byteAt_19 : am_i m_L_byteAt 19 = some (19, .iconst 0, 1, [], 0) := rfl
theorem i_L_byteAt_20 : am_i m_L_byteAt 20 = some (20, .ireturn, 1, [], 0) := rfl
theorem b_L_byteAt_10 {v0 v1 v2 v3 v4 v5 : Value} {xs0 xs1 xs0' xs1' : Int} {as2 n_as2 : Nat} {h : am_H} (ws0 : wr xs0 = xs0') (ws1 : wr xs1 = xs1') (n1 : gn h as2 = n_as2) (s2 : sh h as2 = (2, 3)) (g3 : 0 ≤ xs1' ∧ xs1' < (n_as2 : Int)) : rn m_L_byteAt 10 [v0, v1, v2, v3, v4, v5] [.int (mI xs0), .int (mI xs1), .ref as2] h = some (.inl (some (.int (mI 0))), uJ h as2 xs1' xs0') := by
  refine (tq_i2l i_L_byteAt_10 ws0 rfl).trans ?_
  refine (tq_lastore i_L_byteAt_11 s2 ws1 g3.1 (lt_gn n1 g3.2) rfl).trans ?_
  refine (tq_goto (pc' := 19) i_L_byteAt_12 (by decide)).trans ?_
  refine (tq_iconst i_L_byteAt_19 rfl).trans ?_
  exact tq_ireturn i_L_byteAt_20 r_L_byteAt rfl
theorem i_L_byteAt_17 : am_i m_L_byteAt 17 = some (17, .iconst 1, 1, [], 1) := rfl
theorem i_L_byteAt_18 : am_i m_L_byteAt 18 = some (18, .ireturn, 1, [], 0) := rfl
theorem b_L_byteAt_17 {v0 v1 v2 v3 v4 v5 : Value} {h : am_H} : rn m_L_byteAt 17 [v0, v1, v2, v3, v4, v5] [] h = some (.inl (some (.int (mI 1))), h) := by
  refine (tq_iconst i_L_byteAt_17 rfl).trans ?_
  exact tq_ireturn i_L_byteAt_18 r_L_byteAt rfl
theorem W_byteAt {x1 x2 x3 : Int} {h h' : am_H} {v : Int} (k : K9 h 2) (o : OUT h') (w : wr v = v) (e : rn m_X11_byteAt 0 [.ref 2, .int (mI x1), .int (mI x2), .int (mI x3), am_J] [] h = some (.inl (some (.int (mI v))), h')) : rn m_L_byteAt 0 [.ref 2, .int (mI x1), .int (mI x2), .int (mI x3), .ref 74, am_J] [] h = some (.inl (some (.int (mI 0))), uJ h' 74 0 v) := by
  have st := b_L_byteAt_0 (a0 := 2) (a4 := 74) (x1 := x1) (x2 := x2) (x3 := x3) (h := h) k
  rw [e, cl_v, b_L_byteAt_10 w (wr_id (by decide) (by decide)) o.1.2 o.1.1 (by decide)] at st
  exact st
theorem W_byteAt_x1 {x1 x2 x3 : Int} {h h' : am_H} (k : K9 h 2) (e : rn m_X11_byteAt 0 [.ref 2, .int (mI x1), .int (mI x2), .int (mI x3), am_J] [] h = some (.inr 1, h')) : rn m_L_byteAt 0 [.ref 2, .int (mI x1), .int (mI x2), .int (mI x3), .ref 74, am_J] [] h = some (.inl (some (.int (mI 1))), h') := by
  have st := b_L_byteAt_0 (a0 := 2) (a4 := 74) (x1 := x1) (x2 := x2) (x3 := x3) (h := h) k
  rw [e, cl_h (pc' := 17) (i := 5) rfl] at st
  exact st.trans b_L_byteAt_17
theorem i_L_bytes_0 : am_i m_L_bytes 0 = some (0, .aload_n 3, 1, [], 0) := rfl
theorem i_L_bytes_1 : am_i m_L_bytes 1 = some (1, .iconst 0, 1, [], 0) := rfl
theorem i_L_bytes_2 : am_i m_L_bytes 2 = some (2, .aload_n 0, 1, [], 0) := rfl
theorem i_L_bytes_3 : am_i m_L_bytes 3 = some (3, .iload_n 1, 1, [], 0) := rfl
theorem i_L_bytes_4 : am_i m_L_bytes 4 = some (4, .iload_n 2, 1, [], 0) := rfl
theorem i_L_bytes_5 : am_i m_L_bytes 5 = some (5, .invokevirtual 68, 3, [255, 9], 0) := rfl
theorem b_L_bytes_0 {a0 a3 : Nat} {x1 x2 : Int} {h : am_H} (k1 : K9 h a0) : rn m_L_bytes 0 [.ref a0, .int (mI x1), .int (mI x2), .ref a3, am_J] [] h = cl m_L_bytes 8 [.ref a0, .int (mI x1), .int (mI x2), .ref a3, am_J] [.int (mI 0), .ref a3] (rn m_X11_bytes 0 [.ref a0, .int (mI x1), .int (mI x2)] [] h) := by
  refine (tq_aload_n i_L_bytes_0 rfl (isA_ref _) rfl).trans ?_
  refine (tq_iconst i_L_bytes_1 rfl).trans ?_
  refine (tq_aload_n i_L_bytes_2 rfl (isA_ref _) rfl).trans ?_
  refine (tq_iload_n i_L_bytes_3 rfl rfl).trans ?_
  refine (tq_iload_n i_L_bytes_4 rfl rfl).trans ?_
  exact c_X11_bytes i_L_bytes_5 (K9_s k1) (ltd d_L_bytes (by decide)) (stOk_2 _ _) rfl
theorem i_L_bytes_8 : am_i m_L_bytes 8 = some (8, .i2l, 1, [], 0) := rfl
theorem i_L_bytes_9 : am_i m_L_bytes 9 = some (9, .lastore, 1, [], 0) := rfl
theorem i_L_bytes_10 : am_i m_L_bytes 10 = some (10, .goto 7, 3, [], 0) := rfl
theorem i_L_bytes_17 : am_i m_L_bytes 17 = some (17, .iconst 0, 1, [], 0) := rfl
theorem i_L_bytes_18 : am_i m_L_bytes 18 = some (18, .ireturn, 1, [], 0) := rfl
theorem b_L_bytes_8 {v0 v1 v2 v3 v4 : Value} {xs0 xs1 xs0' xs1' : Int} {as2 n_as2 : Nat} {h : am_H} (ws0 : wr xs0 = xs0') (ws1 : wr xs1 = xs1') (n1 : gn h as2 = n_as2) (s2 : sh h as2 = (2, 3)) (g3 : 0 ≤ xs1' ∧ xs1' < (n_as2 : Int)) : rn m_L_bytes 8 [v0, v1, v2, v3, v4] [.int (mI xs0), .int (mI xs1), .ref as2] h = some (.inl (some (.int (mI 0))), uJ h as2 xs1' xs0') := by
  refine (tq_i2l i_L_bytes_8 ws0 rfl).trans ?_
  refine (tq_lastore i_L_bytes_9 s2 ws1 g3.1 (lt_gn n1 g3.2) rfl).trans ?_
  refine (tq_goto (pc' := 17) i_L_bytes_10 (by decide)).trans ?_
  refine (tq_iconst i_L_bytes_17 rfl).trans ?_
  exact tq_ireturn i_L_bytes_18 r_L_bytes rfl
theorem i_L_bytes_15 : am_i m_L_bytes 15 = some (15, .iconst 1, 1, [], 1) := rfl
theorem i_L_bytes_16 : am_i m_L_bytes 16 = some (16, .ireturn, 1, [], 0) := rfl
theorem b_L_bytes_15 {v0 v1 v2 v3 v4 : Value} {h : am_H} : rn m_L_bytes 15 [v0, v1, v2, v3, v4] [] h = some (.inl (some (.int (mI 1))), h) := by
  refine (tq_iconst i_L_bytes_15 rfl).trans ?_
  exact tq_ireturn i_L_bytes_16 r_L_bytes rfl
theorem W_bytes {x1 x2 : Int} {h h' : am_H} {v : Int} (k : K9 h 2) (o : OUT h') (w : wr v = v) (e : rn m_X11_bytes 0 [.ref 2, .int (mI x1), .int (mI x2)] [] h = some (.inl (some (.int (mI v))), h')) : rn m_L_bytes 0 [.ref 2, .int (mI x1), .int (mI x2), .ref 74, am_J] [] h = some (.inl (some (.int (mI 0))), uJ h' 74 0 v) := by
  have st := b_L_bytes_0 (a0 := 2) (a3 := 74) (x1 := x1) (x2 := x2) (h := h) k
  rw [e, cl_v, b_L_bytes_8 w (wr_id (by decide) (by decide)) o.1.2 o.1.1 (by decide)] at st
  exact st
theorem W_bytes_x1 {x1 x2 : Int} {h h' : am_H} (k : K9 h 2) (e : rn m_X11_bytes 0 [.ref 2, .int (mI x1), .int (mI x2)] [] h = some (.inr 1, h')) : rn m_L_bytes 0 [.ref 2, .int (mI x1), .int (mI x2), .ref 74, am_J] [] h = some (.inl (some (.int (mI 1))), h') := by
  have st := b_L_bytes_0 (a0 := 2) (a3 := 74) (x1 := x1) (x2 := x2) (h := h) k
  rw [e, cl_h (pc' := 15) (i := 4) rfl] at st
  exact st.trans b_L_bytes_15
theorem i_L_code_0 : am_i m_L_code 0 = some (0, .aload 4, 2, [], 0) := rfl
theorem i_L_code_2 : am_i m_L_code 2 = some (2, .iconst 0, 1, [], 0) := rfl
theorem i_L_code_3 : am_i m_L_code 3 = some (3, .aload_n 0, 1, [], 0) := rfl
theorem i_L_code_4 : am_i m_L_code 4 = some (4, .iload_n 1, 1, [], 0) := rfl
theorem i_L_code_5 : am_i m_L_code 5 = some (5, .iload_n 2, 1, [], 0) := rfl
theorem i_L_code_6 : am_i m_L_code 6 = some (6, .iload_n 3, 1, [], 0) := rfl
theorem i_L_code_7 : am_i m_L_code 7 = some (7, .invokevirtual 44, 3, [256, 9], 0) := rfl
theorem b_L_code_0 {a0 a4 : Nat} {x1 x2 x3 : Int} {h : am_H} (k1 : K9 h a0) : rn m_L_code 0 [.ref a0, .int (mI x1), .int (mI x2), .int (mI x3), .ref a4, am_J] [] h = cl m_L_code 10 [.ref a0, .int (mI x1), .int (mI x2), .int (mI x3), .ref a4, am_J] [.int (mI 0), .ref a4] (rn m_X11_code 0 [.ref a0, .int (mI x1), .int (mI x2), .int (mI x3), am_J] [] h) := by
  refine (tq_aload i_L_code_0 rfl (isA_ref _) rfl).trans ?_
  refine (tq_iconst i_L_code_2 rfl).trans ?_
  refine (tq_aload_n i_L_code_3 rfl (isA_ref _) rfl).trans ?_
  refine (tq_iload_n i_L_code_4 rfl rfl).trans ?_
  refine (tq_iload_n i_L_code_5 rfl rfl).trans ?_
  refine (tq_iload_n i_L_code_6 rfl rfl).trans ?_
  exact c_X11_code i_L_code_7 (K9_s k1) (ltd d_L_code (by decide)) (stOk_2 _ _) rfl
theorem i_L_code_10 : am_i m_L_code 10 = some (10, .i2l, 1, [], 0) := rfl
theorem i_L_code_11 : am_i m_L_code 11 = some (11, .lastore, 1, [], 0) := rfl
theorem i_L_code_12 : am_i m_L_code 12 = some (12, .goto 19, 3, [], 0) := rfl
theorem i_L_code_31 : am_i m_L_code 31 = some (31, .iconst 0, 1, [], 0) := rfl
theorem i_L_code_32 : am_i m_L_code 32 = some (32, .ireturn, 1, [], 0) := rfl
theorem b_L_code_10 {v0 v1 v2 v3 v4 v5 : Value} {xs0 xs1 xs0' xs1' : Int} {as2 n_as2 : Nat} {h : am_H} (ws0 : wr xs0 = xs0') (ws1 : wr xs1 = xs1') (n1 : gn h as2 = n_as2) (s2 : sh h as2 = (2, 3)) (g3 : 0 ≤ xs1' ∧ xs1' < (n_as2 : Int)) : rn m_L_code 10 [v0, v1, v2, v3, v4, v5] [.int (mI xs0), .int (mI xs1), .ref as2] h = some (.inl (some (.int (mI 0))), uJ h as2 xs1' xs0') := by
  refine (tq_i2l i_L_code_10 ws0 rfl).trans ?_
  refine (tq_lastore i_L_code_11 s2 ws1 g3.1 (lt_gn n1 g3.2) rfl).trans ?_
  refine (tq_goto (pc' := 31) i_L_code_12 (by decide)).trans ?_
  refine (tq_iconst i_L_code_31 rfl).trans ?_
  exact tq_ireturn i_L_code_32 r_L_code rfl
theorem i_L_code_17 : am_i m_L_code 17 = some (17, .iconst 1, 1, [], 1) := rfl
theorem i_L_code_18 : am_i m_L_code 18 = some (18, .ireturn, 1, [], 0) := rfl
theorem b_L_code_17 {v0 v1 v2 v3 v4 v5 : Value} {h : am_H} : rn m_L_code 17 [v0, v1, v2, v3, v4, v5] [] h = some (.inl (some (.int (mI 1))), h) := by
  refine (tq_iconst i_L_code_17 rfl).trans ?_
  exact tq_ireturn i_L_code_18 r_L_code rfl
theorem i_L_code_21 : am_i m_L_code 21 = some (21, .iconst 2, 1, [], 2) := rfl
theorem i_L_code_22 : am_i m_L_code 22 = some (22, .ireturn, 1, [], 0) := rfl
theorem b_L_code_21 {v0 v1 v2 v3 v4 v5 : Value} {h : am_H} : rn m_L_code 21 [v0, v1, v2, v3, v4, v5] [] h = some (.inl (some (.int (mI 2))), h) := by
  refine (tq_iconst i_L_code_21 rfl).trans ?_
  exact tq_ireturn i_L_code_22 r_L_code rfl
theorem i_L_code_25 : am_i m_L_code 25 = some (25, .iconst 3, 1, [], 3) := rfl
theorem i_L_code_26 : am_i m_L_code 26 = some (26, .ireturn, 1, [], 0) := rfl
theorem b_L_code_25 {v0 v1 v2 v3 v4 v5 : Value} {h : am_H} : rn m_L_code 25 [v0, v1, v2, v3, v4, v5] [] h = some (.inl (some (.int (mI 3))), h) := by
  refine (tq_iconst i_L_code_25 rfl).trans ?_
  exact tq_ireturn i_L_code_26 r_L_code rfl
theorem i_L_code_29 : am_i m_L_code 29 = some (29, .iconst 4, 1, [], 4) := rfl
theorem i_L_code_30 : am_i m_L_code 30 = some (30, .ireturn, 1, [], 0) := rfl
theorem b_L_code_29 {v0 v1 v2 v3 v4 v5 : Value} {h : am_H} : rn m_L_code 29 [v0, v1, v2, v3, v4, v5] [] h = some (.inl (some (.int (mI 4))), h) := by
  refine (tq_iconst i_L_code_29 rfl).trans ?_
  exact tq_ireturn i_L_code_30 r_L_code rfl
theorem W_code {x1 x2 x3 : Int} {h h' : am_H} {v : Int} (k : K9 h 2) (o : OUT h') (w : wr v = v) (e : rn m_X11_code 0 [.ref 2, .int (mI x1), .int (mI x2), .int (mI x3), am_J] [] h = some (.inl (some (.int (mI v))), h')) : rn m_L_code 0 [.ref 2, .int (mI x1), .int (mI x2), .int (mI x3), .ref 74, am_J] [] h = some (.inl (some (.int (mI 0))), uJ h' 74 0 v) := by
  have st := b_L_code_0 (a0 := 2) (a4 := 74) (x1 := x1) (x2 := x2) (x3 := x3) (h := h) k
  rw [e, cl_v, b_L_code_10 w (wr_id (by decide) (by decide)) o.1.2 o.1.1 (by decide)] at st
  exact st
theorem W_code_x0 {x1 x2 x3 : Int} {h h' : am_H} (k : K9 h 2) (e : rn m_X11_code 0 [.ref 2, .int (mI x1), .int (mI x2), .int (mI x3), am_J] [] h = some (.inr 0, h')) : rn m_L_code 0 [.ref 2, .int (mI x1), .int (mI x2), .int (mI x3), .ref 74, am_J] [] h = some (.inl (some (.int (mI 1))), h') := by
  have st := b_L_code_0 (a0 := 2) (a4 := 74) (x1 := x1) (x2 := x2) (x3 := x3) (h := h) k
  rw [e, cl_h (pc' := 17) (i := 5) rfl] at st
  exact st.trans b_L_code_17
theorem W_code_x1 {x1 x2 x3 : Int} {h h' : am_H} (k : K9 h 2) (e : rn m_X11_code 0 [.ref 2, .int (mI x1), .int (mI x2), .int (mI x3), am_J] [] h = some (.inr 1, h')) : rn m_L_code 0 [.ref 2, .int (mI x1), .int (mI x2), .int (mI x3), .ref 74, am_J] [] h = some (.inl (some (.int (mI 2))), h') := by
  have st := b_L_code_0 (a0 := 2) (a4 := 74) (x1 := x1) (x2 := x2) (x3 := x3) (h := h) k
  rw [e, cl_h (pc' := 21) (i := 5) rfl] at st
  exact st.trans b_L_code_21
theorem W_code_x2 {x1 x2 x3 : Int} {h h' : am_H} (k : K9 h 2) (e : rn m_X11_code 0 [.ref 2, .int (mI x1), .int (mI x2), .int (mI x3), am_J] [] h = some (.inr 2, h')) : rn m_L_code 0 [.ref 2, .int (mI x1), .int (mI x2), .int (mI x3), .ref 74, am_J] [] h = some (.inl (some (.int (mI 3))), h') := by
  have st := b_L_code_0 (a0 := 2) (a4 := 74) (x1 := x1) (x2 := x2) (x3 := x3) (h := h) k
  rw [e, cl_h (pc' := 25) (i := 5) rfl] at st
  exact st.trans b_L_code_25
theorem W_code_x3 {x1 x2 x3 : Int} {h h' : am_H} (k : K9 h 2) (e : rn m_X11_code 0 [.ref 2, .int (mI x1), .int (mI x2), .int (mI x3), am_J] [] h = some (.inr 3, h')) : rn m_L_code 0 [.ref 2, .int (mI x1), .int (mI x2), .int (mI x3), .ref 74, am_J] [] h = some (.inl (some (.int (mI 4))), h') := by
  have st := b_L_code_0 (a0 := 2) (a4 := 74) (x1 := x1) (x2 := x2) (x3 := x3) (h := h) k
  rw [e, cl_h (pc' := 29) (i := 5) rfl] at st
  exact st.trans b_L_code_29
theorem i_L_heaviest_0 : am_i m_L_heaviest 0 = some (0, .aload_n 2, 1, [], 0) := rfl
theorem i_L_heaviest_1 : am_i m_L_heaviest 1 = some (1, .iconst 0, 1, [], 0) := rfl
theorem i_L_heaviest_2 : am_i m_L_heaviest 2 = some (2, .aload_n 0, 1, [], 0) := rfl
theorem i_L_heaviest_3 : am_i m_L_heaviest 3 = some (3, .iload_n 1, 1, [], 0) := rfl
theorem i_L_heaviest_4 : am_i m_L_heaviest 4 = some (4, .invokevirtual 94, 3, [257, 9], 0) := rfl
theorem b_L_heaviest_0 {a0 a2 : Nat} {x1 : Int} {h : am_H} (k1 : K9 h a0) : rn m_L_heaviest 0 [.ref a0, .int (mI x1), .ref a2, am_J] [] h = cl m_L_heaviest 7 [.ref a0, .int (mI x1), .ref a2, am_J] [.int (mI 0), .ref a2] (rn m_X11_heaviest 0 [.ref a0, .int (mI x1), am_J, am_J] [] h) := by
  refine (tq_aload_n i_L_heaviest_0 rfl (isA_ref _) rfl).trans ?_
  refine (tq_iconst i_L_heaviest_1 rfl).trans ?_
  refine (tq_aload_n i_L_heaviest_2 rfl (isA_ref _) rfl).trans ?_
  refine (tq_iload_n i_L_heaviest_3 rfl rfl).trans ?_
  exact c_X11_heaviest i_L_heaviest_4 (K9_s k1) (ltd d_L_heaviest (by decide)) (stOk_2 _ _) rfl
theorem i_L_heaviest_7 : am_i m_L_heaviest 7 = some (7, .i2l, 1, [], 0) := rfl
theorem i_L_heaviest_8 : am_i m_L_heaviest 8 = some (8, .lastore, 1, [], 0) := rfl
theorem i_L_heaviest_9 : am_i m_L_heaviest 9 = some (9, .goto 6, 3, [], 0) := rfl
theorem i_L_heaviest_15 : am_i m_L_heaviest 15 = some (15, .iconst 0, 1, [], 0) := rfl
theorem i_L_heaviest_16 : am_i m_L_heaviest 16 = some (16, .ireturn, 1, [], 0) := rfl
theorem b_L_heaviest_7 {v0 v1 v2 v3 : Value} {xs0 xs1 xs0' xs1' : Int} {as2 n_as2 : Nat} {h : am_H} (ws0 : wr xs0 = xs0') (ws1 : wr xs1 = xs1') (n1 : gn h as2 = n_as2) (s2 : sh h as2 = (2, 3)) (g3 : 0 ≤ xs1' ∧ xs1' < (n_as2 : Int)) : rn m_L_heaviest 7 [v0, v1, v2, v3] [.int (mI xs0), .int (mI xs1), .ref as2] h = some (.inl (some (.int (mI 0))), uJ h as2 xs1' xs0') := by
  refine (tq_i2l i_L_heaviest_7 ws0 rfl).trans ?_
  refine (tq_lastore i_L_heaviest_8 s2 ws1 g3.1 (lt_gn n1 g3.2) rfl).trans ?_
  refine (tq_goto (pc' := 15) i_L_heaviest_9 (by decide)).trans ?_
  refine (tq_iconst i_L_heaviest_15 rfl).trans ?_
  exact tq_ireturn i_L_heaviest_16 r_L_heaviest rfl
theorem i_L_heaviest_13 : am_i m_L_heaviest 13 = some (13, .iconst 1, 1, [], 1) := rfl
theorem i_L_heaviest_14 : am_i m_L_heaviest 14 = some (14, .ireturn, 1, [], 0) := rfl
theorem b_L_heaviest_13 {v0 v1 v2 v3 : Value} {h : am_H} : rn m_L_heaviest 13 [v0, v1, v2, v3] [] h = some (.inl (some (.int (mI 1))), h) := by
  refine (tq_iconst i_L_heaviest_13 rfl).trans ?_
  exact tq_ireturn i_L_heaviest_14 r_L_heaviest rfl
theorem W_heaviest {x1 : Int} {h h' : am_H} {v : Int} (k : K9 h 2) (o : OUT h') (w : wr v = v) (e : rn m_X11_heaviest 0 [.ref 2, .int (mI x1), am_J, am_J] [] h = some (.inl (some (.int (mI v))), h')) : rn m_L_heaviest 0 [.ref 2, .int (mI x1), .ref 74, am_J] [] h = some (.inl (some (.int (mI 0))), uJ h' 74 0 v) := by
  have st := b_L_heaviest_0 (a0 := 2) (a2 := 74) (x1 := x1) (h := h) k
  rw [e, cl_v, b_L_heaviest_7 w (wr_id (by decide) (by decide)) o.1.2 o.1.1 (by decide)] at st
  exact st
theorem W_heaviest_x1 {x1 : Int} {h h' : am_H} (k : K9 h 2) (e : rn m_X11_heaviest 0 [.ref 2, .int (mI x1), am_J, am_J] [] h = some (.inr 1, h')) : rn m_L_heaviest 0 [.ref 2, .int (mI x1), .ref 74, am_J] [] h = some (.inl (some (.int (mI 1))), h') := by
  have st := b_L_heaviest_0 (a0 := 2) (a2 := 74) (x1 := x1) (h := h) k
  rw [e, cl_h (pc' := 13) (i := 3) rfl] at st
  exact st.trans b_L_heaviest_13
theorem rnd_nn {d : FP.Core.Datum} (h : d ≠ .nan) : NNd FP.Core.b64 (FP.Core.round FP.Core.b64 d) := by
  cases d with
  | nan => exact absurd rfl h
  | inf s => exact trivial
  | fin s c q => exact rr_nn (by decide) (by decide) _ _ _ _
theorem f2d_g {x : UInt32} (h : FP.Core.decode FP.Core.b32 x.toNat ≠ .nan) : decide (FP.f2d x &&& 0x7fffffffffffffff ≤ 0x7ff0000000000000) = true := by
  have n : FP.Core.fIsNaN x = false := by
    unfold FP.Core.fIsNaN FP.Core.isNaN
    exact decide_eq_false h
  have e : FP.f2d x = FP.Core.f2d x := by
    unfold FP.f2d
    rw [n]
    rfl
  rw [e]
  exact g64 (rnd_nn h)
theorem divn32 {x n : Int} (hn : 0 < n ∧ n ≤ 1000) : FP.Core.decode FP.Core.b32 (FP.fdiv (FP.i2f (mI x)) (FP.i2f (mI n))).toNat ≠ .nan := by
  have z := nz32 n.toNat (by omega)
  rw [show ((n.toNat : Nat) : Int) = n by omega] at z
  obtain ⟨t, d, r, e, hd⟩ := nzd_fin (z.resolve_left (by omega))
  exact d32 (quo_nn (by decide) (by decide) (d32 (int_nn (by decide) (by decide) _)) e hd)
theorem W_errorOf {x1 : Int} {h h' : am_H} {v : Int} (k : K9 h 2) (o : OUT h') (e : rn m_X11_errorOf 0 [.ref 2, .int (mI x1)] [] h = some (.inl (some (.long (mL v))), h')) : rn m_L_errorOf 0 [.ref 2, .int (mI x1), .ref 74, am_J] [] h = some (.inl (some (.int (mI 0))), uJ h' 74 0 v) := by
  have st := b_L_errorOf_0 (a0 := 2) (a2 := 74) (x1 := x1) (h := h) k
  rw [e, cl_v, b_L_errorOf_7 (wr_id (by decide) (by decide)) o.1.2 o.1.1 (by decide)] at st
  exact st
theorem W_isClean {h h' : am_H} {v : Int} (k : K9 h 2) (o : OUT h') (w : v = 0 ∨ v = 1) (e : rn m_X11_isClean 0 [.ref 2] [] h = some (.inl (some (.int (mI v))), h')) : rn m_L_isClean 0 [.ref 2, .ref 74, am_J] [] h = some (.inl (some (.int (mI 0))), uJ h' 74 0 v) := by
  have st := b_L_isClean_0 (a0 := 2) (a1 := 74) (h := h) k
  rw [e, cl_v, b_L_isClean_6 (wr_id (z := v) (by omega) (by omega)) (wr_id (by decide) (by decide)) o.1.2 o.1.1 (by decide)] at st
  have ev : (if v = 0 then (0 : Int) else 1) = v := by split <;> omega
  rw [ev] at st
  exact st
theorem W_meanBits {h h' : am_H} {d : UInt64} (k : K9 h 2) (o : OUT h') (e : rn m_X11_meanBits 0 [.ref 2, am_J, am_J] [] h = some (.inl (some (.double d)), h')) : rn m_L_meanBits 0 [.ref 2, .ref 75, am_J] [] h = some (.inl (some (.int (mI 0))), uD h' 75 0 d) := by
  have st := b_L_meanBits_0 (a0 := 2) (a1 := 75) (h := h) k
  rw [e, cl_v, b_L_meanBits_6 (wr_id (by decide) (by decide)) o.2.2 o.2.1 (by decide)] at st
  exact st
theorem W_cleanShare {h h' : am_H} {x n : Int} (k : K9 h 2) (o : OUT h') (hn : 0 < n ∧ n ≤ 1000) (e : rn m_X11_cleanShare 0 [.ref 2] [] h = some (.inl (some (.float (FP.fdiv (FP.i2f (mI x)) (FP.i2f (mI n))))), h')) : rn m_L_cleanShare 0 [.ref 2, .ref 75, am_J] [] h = some (.inl (some (.int (mI 0))), uD h' 75 0 (FP.f2d (FP.fdiv (FP.i2f (mI x)) (FP.i2f (mI n))))) := by
  have st := b_L_cleanShare_0 (a0 := 2) (a1 := 75) (h := h) k
  rw [e, cl_v, b_L_cleanShare_6 (wr_id (by decide) (by decide)) (f2d_g (divn32 hn)) o.2.2 o.2.1 (by decide)] at st
  exact st
