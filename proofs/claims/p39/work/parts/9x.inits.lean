/-! ===== the constructors ===== -/
theorem i_X11_init_0 : am_i m_X11_init 0 = some (0, .aload_n 0, 1, [], 0) := rfl
theorem i_X11_init_1 : am_i m_X11_init 1 = some (1, .invokespecial 1, 3, [], 0) := rfl
theorem i_X11_init_4 : am_i m_X11_init 4 = some (4, .aload_n 0, 1, [], 0) := rfl
theorem i_X11_init_5 : am_i m_X11_init 5 = some (5, .sipush 256, 3, [], 256) := rfl
theorem i_X11_init_8 : am_i m_X11_init 8 = some (8, .newarray .int, 2, [], 0) := rfl
theorem b_X11_init_0 {a0 : Nat} {h : am_H} : rn m_X11_init 0 [.ref a0] [] h = rn m_X11_init 10 [.ref a0] [.ref (hnx h), .ref a0] (aI 0 256 h) := by
  refine (tq_aload_n i_X11_init_0 rfl (isA_ref _) rfl).trans ?_
  refine (tq_init i_X11_init_1 (Nat.le_of_ble_eq_true rfl) rfl).trans ?_
  refine (tq_aload_n i_X11_init_4 rfl (isA_ref _) rfl).trans ?_
  refine (tq_sipush i_X11_init_5 rfl).trans ?_
  exact tq_newI (n := 256) (t := 0) i_X11_init_8 w_256 (by decide) rfl (by decide) rfl rfl
theorem i_X11_init_10 : am_i m_X11_init 10 = some (10, .putfield 9, 3, [9, 0, 2], 0) := rfl
theorem i_X11_init_13 : am_i m_X11_init 13 = some (13, .aload_n 0, 1, [], 0) := rfl
theorem i_X11_init_14 : am_i m_X11_init 14 = some (14, .sipush 256, 3, [], 256) := rfl
theorem i_X11_init_17 : am_i m_X11_init 17 = some (17, .newarray .int, 2, [], 0) := rfl
theorem b_X11_init_10 {a0 as0 as1 : Nat} {h : am_H} (s1 : sh h as1 = (5, 9)) : rn m_X11_init 10 [.ref a0] [.ref as0, .ref as1] h = rn m_X11_init 19 [.ref a0] [.ref (hnx (uF 9 h as1 0 (.ref as0))), .ref a0] (aI 0 256 (uF 9 h as1 0 (.ref as0))) := by
  refine (tq_putfield i_X11_init_10 s1 (okfA_9_0 (isA_ref _)) rfl).trans ?_
  refine (tq_aload_n i_X11_init_13 rfl (isA_ref _) rfl).trans ?_
  refine (tq_sipush i_X11_init_14 rfl).trans ?_
  exact tq_newI (n := 256) (t := 0) i_X11_init_17 w_256 (by decide) rfl (by decide) rfl rfl
theorem i_X11_init_19 : am_i m_X11_init 19 = some (19, .putfield 13, 3, [9, 1, 2], 0) := rfl
theorem i_X11_init_22 : am_i m_X11_init 22 = some (22, .aload_n 0, 1, [], 0) := rfl
theorem i_X11_init_23 : am_i m_X11_init 23 = some (23, .bipush 8, 2, [], 8) := rfl
theorem i_X11_init_25 : am_i m_X11_init 25 = some (25, .putfield 16, 3, [9, 2, 0], 0) := rfl
theorem i_X11_init_28 : am_i m_X11_init 28 = some (28, .aload_n 0, 1, [], 0) := rfl
theorem i_X11_init_29 : am_i m_X11_init 29 = some (29, .bipush 7, 2, [], 7) := rfl
theorem i_X11_init_31 : am_i m_X11_init 31 = some (31, .putfield 20, 3, [9, 3, 0], 0) := rfl
theorem i_X11_init_34 : am_i m_X11_init 34 = some (34, .aload_n 0, 1, [], 0) := rfl
theorem i_X11_init_35 : am_i m_X11_init 35 = some (35, .iconst 1, 1, [], 1) := rfl
theorem i_X11_init_36 : am_i m_X11_init 36 = some (36, .putfield 23, 3, [9, 4, 0], 0) := rfl
theorem i_X11_init_39 : am_i m_X11_init 39 = some (39, .aload_n 0, 1, [], 0) := rfl
theorem i_X11_init_40 : am_i m_X11_init 40 = some (40, .iconst 1, 1, [], 1) := rfl
theorem i_X11_init_41 : am_i m_X11_init 41 = some (41, .putfield 26, 3, [9, 5, 0], 0) := rfl
theorem i_X11_init_44 : am_i m_X11_init 44 = some (44, .aload_n 0, 1, [], 0) := rfl
theorem i_X11_init_45 : am_i m_X11_init 45 = some (45, .new 30, 3, [0], 0) := rfl
theorem b_X11_init_19 {a0 as0 as1 : Nat} {h : am_H} (s1 : sh h as1 = (5, 9)) (s2 : sh h a0 = (5, 9)) : rn m_X11_init 19 [.ref a0] [.ref as0, .ref as1] h = rn m_X11_init 48 [.ref a0] [.ref (hnx (uF 9 (uF 9 (uF 9 (uF 9 (uF 9 h as1 1 (.ref as0)) a0 2 (.int (mI 8))) a0 3 (.int (mI 7))) a0 4 (.int (mI 1))) a0 5 (.int (mI 1)))), .ref a0] (aO 0 (uF 9 (uF 9 (uF 9 (uF 9 (uF 9 h as1 1 (.ref as0)) a0 2 (.int (mI 8))) a0 3 (.int (mI 7))) a0 4 (.int (mI 1))) a0 5 (.int (mI 1)))) := by
  refine (tq_putfield i_X11_init_19 s1 (okfA_9_1 (isA_ref _)) rfl).trans ?_
  refine (tq_aload_n i_X11_init_22 rfl (isA_ref _) rfl).trans ?_
  refine (tq_bipush i_X11_init_23 rfl).trans ?_
  refine (tq_putfield i_X11_init_25 ((sh_uF _ _ _ _ _ _).trans s2) (okf_9_2 _) rfl).trans ?_
  refine (tq_aload_n i_X11_init_28 rfl (isA_ref _) rfl).trans ?_
  refine (tq_bipush i_X11_init_29 rfl).trans ?_
  refine (tq_putfield i_X11_init_31 ((sh_uF _ _ _ _ _ _).trans ((sh_uF _ _ _ _ _ _).trans s2)) (okf_9_3 _) rfl).trans ?_
  refine (tq_aload_n i_X11_init_34 rfl (isA_ref _) rfl).trans ?_
  refine (tq_iconst i_X11_init_35 rfl).trans ?_
  refine (tq_putfield i_X11_init_36 ((sh_uF _ _ _ _ _ _).trans ((sh_uF _ _ _ _ _ _).trans ((sh_uF _ _ _ _ _ _).trans s2))) (okf_9_4 _) rfl).trans ?_
  refine (tq_aload_n i_X11_init_39 rfl (isA_ref _) rfl).trans ?_
  refine (tq_iconst i_X11_init_40 rfl).trans ?_
  refine (tq_putfield i_X11_init_41 ((sh_uF _ _ _ _ _ _).trans ((sh_uF _ _ _ _ _ _).trans ((sh_uF _ _ _ _ _ _).trans ((sh_uF _ _ _ _ _ _).trans s2)))) (okfB_9_5 w_1 (by decide)) rfl).trans ?_
  refine (tq_aload_n i_X11_init_44 rfl (isA_ref _) rfl).trans ?_
  exact tq_new i_X11_init_45 rfl
theorem i_X11_init_48 : am_i m_X11_init 48 = some (48, .dup, 1, [], 0) := rfl
theorem i_X11_init_49 : am_i m_X11_init 49 = some (49, .invokespecial 32, 3, [41], 0) := rfl
theorem b_X11_init_48 {a0 as0 as1 : Nat} {h : am_H} : rn m_X11_init 48 [.ref a0] [.ref as0, .ref as1] h = cl m_X11_init 52 [.ref a0] [.ref as0, .ref as1] (rn m_X0_init 0 [.ref as0] [] h) := by
  refine (tq_dup i_X11_init_48 rfl rfl).trans ?_
  exact c_X0_init i_X11_init_49 (ltd d_X11_init (by decide)) (stOk_2 _ _) rfl
theorem i_X0_init_0 : am_i m_X0_init 0 = some (0, .aload_n 0, 1, [], 0) := rfl
theorem i_X0_init_1 : am_i m_X0_init 1 = some (1, .invokespecial 3, 3, [], 0) := rfl
theorem i_X0_init_4 : am_i m_X0_init 4 = some (4, .aload_n 0, 1, [], 0) := rfl
theorem i_X0_init_5 : am_i m_X0_init 5 = some (5, .iconst 0, 1, [], 0) := rfl
theorem i_X0_init_6 : am_i m_X0_init 6 = some (6, .putfield 9, 3, [0, 0, 0], 0) := rfl
theorem i_X0_init_9 : am_i m_X0_init 9 = some (9, .aload_n 0, 1, [], 0) := rfl
theorem i_X0_init_10 : am_i m_X0_init 10 = some (10, .iconst 0, 1, [], 0) := rfl
theorem i_X0_init_11 : am_i m_X0_init 11 = some (11, .putfield 15, 3, [0, 1, 0], 0) := rfl
theorem i_X0_init_14 : am_i m_X0_init 14 = some (14, .aload_n 0, 1, [], 0) := rfl
theorem i_X0_init_15 : am_i m_X0_init 15 = some (15, .iconst 0, 1, [], 0) := rfl
theorem i_X0_init_16 : am_i m_X0_init 16 = some (16, .putfield 18, 3, [0, 2, 0], 0) := rfl
theorem i_X0_init_19 : am_i m_X0_init 19 = some (19, .return_, 1, [], 0) := rfl
theorem b_X0_init_0 {a0 : Nat} {h : am_H} (s1 : sh h a0 = (5, 0)) : rn m_X0_init 0 [.ref a0] [] h = some (.inl none, uF 0 (uF 0 (uF 0 h a0 0 (.int (mI 0))) a0 1 (.int (mI 0))) a0 2 (.int (mI 0))) := by
  refine (tq_aload_n i_X0_init_0 rfl (isA_ref _) rfl).trans ?_
  refine (tq_init i_X0_init_1 (Nat.le_of_ble_eq_true rfl) rfl).trans ?_
  refine (tq_aload_n i_X0_init_4 rfl (isA_ref _) rfl).trans ?_
  refine (tq_iconst i_X0_init_5 rfl).trans ?_
  refine (tq_putfield i_X0_init_6 s1 (okf_0_0 _) rfl).trans ?_
  refine (tq_aload_n i_X0_init_9 rfl (isA_ref _) rfl).trans ?_
  refine (tq_iconst i_X0_init_10 rfl).trans ?_
  refine (tq_putfield i_X0_init_11 ((sh_uF _ _ _ _ _ _).trans s1) (okf_0_1 _) rfl).trans ?_
  refine (tq_aload_n i_X0_init_14 rfl (isA_ref _) rfl).trans ?_
  refine (tq_iconst i_X0_init_15 rfl).trans ?_
  refine (tq_putfield i_X0_init_16 ((sh_uF _ _ _ _ _ _).trans ((sh_uF _ _ _ _ _ _).trans s1)) (okf_0_2 _) rfl).trans ?_
  exact tq_return i_X0_init_19 r_X0_init
theorem n_X0 {h : am_H} {s A : Nat} {l : List am_C} (hA : A = hnx h + l.length) : rn m_X0_init 0 [.ref A] [] (tb h s (l ++ [ob 0])) = some (.inl none, tb h (s) (l ++ [.inr (0, am_fu (am_fu (am_fu (df 0) 0 (.int (mI 0))) 1 (.int (mI 0))) 2 (.int (mI 0)))])) := by
  have w0 : am_wf 0 (df 0) = true := rfl
  rw [b_X0_init_0 (tb_sh hA w0)]
  rw [tb_uF (k := 0) (v := .int (mI 0)) hA w0 rfl]
  have w1 := am_wf_fu (k := 0) (v := .int (mI 0)) w0 rfl
  rw [tb_uF (k := 1) (v := .int (mI 0)) hA w1 rfl]
  have w2 := am_wf_fu (k := 1) (v := .int (mI 0)) w1 rfl
  rw [tb_uF (k := 2) (v := .int (mI 0)) hA w2 rfl]
theorem i_X11_init_52 : am_i m_X11_init 52 = some (52, .putfield 33, 3, [9, 6, 2], 0) := rfl
theorem i_X11_init_55 : am_i m_X11_init 55 = some (55, .aload_n 0, 1, [], 0) := rfl
theorem i_X11_init_56 : am_i m_X11_init 56 = some (56, .bipush 12, 2, [], 12) := rfl
theorem i_X11_init_58 : am_i m_X11_init 58 = some (58, .anewarray 37, 3, [5], 0) := rfl
theorem b_X11_init_52 {a0 as0 as1 : Nat} {h : am_H} (s1 : sh h as1 = (5, 9)) : rn m_X11_init 52 [.ref a0] [.ref as0, .ref as1] h = rn m_X11_init 61 [.ref a0] [.ref (hnx (uF 9 h as1 6 (.ref as0))), .ref a0] (aA 5 12 (uF 9 h as1 6 (.ref as0))) := by
  refine (tq_putfield i_X11_init_52 s1 (okfA_9_6 (isA_ref _)) rfl).trans ?_
  refine (tq_aload_n i_X11_init_55 rfl (isA_ref _) rfl).trans ?_
  refine (tq_bipush i_X11_init_56 rfl).trans ?_
  exact tq_newA (n := 12) i_X11_init_58 w_12 (by decide) rfl
theorem i_X11_init_61 : am_i m_X11_init 61 = some (61, .putfield 39, 3, [9, 7, 2], 0) := rfl
theorem i_X11_init_64 : am_i m_X11_init 64 = some (64, .aload_n 0, 1, [], 0) := rfl
theorem i_X11_init_65 : am_i m_X11_init 65 = some (65, .iconst 0, 1, [], 0) := rfl
theorem i_X11_init_66 : am_i m_X11_init 66 = some (66, .putfield 43, 3, [9, 8, 0], 0) := rfl
theorem i_X11_init_69 : am_i m_X11_init 69 = some (69, .aload_n 0, 1, [], 0) := rfl
theorem i_X11_init_70 : am_i m_X11_init 70 = some (70, .new 37, 3, [6], 0) := rfl
theorem b_X11_init_61 {a0 as0 as1 : Nat} {h : am_H} (s1 : sh h as1 = (5, 9)) (s2 : sh h a0 = (5, 9)) : rn m_X11_init 61 [.ref a0] [.ref as0, .ref as1] h = rn m_X11_init 73 [.ref a0] [.ref (hnx (uF 9 (uF 9 h as1 7 (.ref as0)) a0 8 (.int (mI 0)))), .ref a0] (aO 6 (uF 9 (uF 9 h as1 7 (.ref as0)) a0 8 (.int (mI 0)))) := by
  refine (tq_putfield i_X11_init_61 s1 (okfA_9_7 (isA_ref _)) rfl).trans ?_
  refine (tq_aload_n i_X11_init_64 rfl (isA_ref _) rfl).trans ?_
  refine (tq_iconst i_X11_init_65 rfl).trans ?_
  refine (tq_putfield i_X11_init_66 ((sh_uF _ _ _ _ _ _).trans s2) (okf_9_8 _) rfl).trans ?_
  refine (tq_aload_n i_X11_init_69 rfl (isA_ref _) rfl).trans ?_
  exact tq_new i_X11_init_70 rfl
theorem i_X11_init_73 : am_i m_X11_init 73 = some (73, .dup, 1, [], 0) := rfl
theorem i_X11_init_74 : am_i m_X11_init 74 = some (74, .invokespecial 46, 3, [66], 0) := rfl
theorem b_X11_init_73 {a0 as0 as1 : Nat} {h : am_H} : rn m_X11_init 73 [.ref a0] [.ref as0, .ref as1] h = cl m_X11_init 77 [.ref a0] [.ref as0, .ref as1] (rn m_X6_init 0 [.ref as0] [] h) := by
  refine (tq_dup i_X11_init_73 rfl rfl).trans ?_
  exact c_X6_init i_X11_init_74 (ltd d_X11_init (by decide)) (stOk_2 _ _) rfl
theorem n_X6 {h : am_H} {s A : Nat} {l : List am_C} (hA : A = hnx h + l.length) : rn m_X6_init 0 [.ref A] [] (tb h s (l ++ [ob 6])) = some (.inl none, tb h (s + 576) (l ++ [.inr (6, am_fu (am_fu (am_fu (am_fu (am_fu (am_fu (am_fu (am_fu (am_fu (am_fu (am_fu (am_fu (am_fu (am_fu (am_fu (am_fu (df 6) 0 (.int (mI 105))) 1 (.int (mI 0))) 2 (.int (mI 0))) 3 (.int (mI 1))) 4 (.int (mI 0))) 5 (.int (mI 1))) 6 (.int (mI 0))) 7 (.long (mL 0))) 8 (.ref (A + 1))) 9 (.ref (A + 2))) 10 (.ref (A + 3))) 11 (.ref (A + 4))) 12 (.ref (A + 5))) 13 (.ref (A + 6))) 14 (.ref (A + 7))) 15 (.ref (A + 8))), zI 0 0, zI 0 0, zI 0 16, zI 0 16, zI 0 16, zI 0 16, zI 0 256, zI 0 256])) := by
  have w0 : am_wf 6 (df 6) = true := rfl
  rw [b_X6_init_0 (tb_sh hA w0)]
  rw [tb_uF (k := 0) (v := .int (mI 105)) hA w0 rfl]
  have w1 := am_wf_fu (k := 0) (v := .int (mI 105)) w0 rfl
  rw [tb_uF (k := 1) (v := .int (mI 0)) hA w1 rfl]
  have w2 := am_wf_fu (k := 1) (v := .int (mI 0)) w1 rfl
  rw [tb_uF (k := 2) (v := .int (mI 0)) hA w2 rfl]
  have w3 := am_wf_fu (k := 2) (v := .int (mI 0)) w2 rfl
  rw [tb_uF (k := 3) (v := .int (mI 1)) hA w3 rfl]
  have w4 := am_wf_fu (k := 3) (v := .int (mI 1)) w3 rfl
  rw [tb_uF (k := 4) (v := .int (mI 0)) hA w4 rfl]
  have w5 := am_wf_fu (k := 4) (v := .int (mI 0)) w4 rfl
  rw [tb_uF (k := 5) (v := .int (mI 1)) hA w5 rfl]
  have w6 := am_wf_fu (k := 5) (v := .int (mI 1)) w5 rfl
  rw [tb_uF (k := 6) (v := .int (mI 0)) hA w6 rfl]
  have w7 := am_wf_fu (k := 6) (v := .int (mI 0)) w6 rfl
  rw [tb_uF (k := 7) (v := .long (mL 0)) hA w7 rfl]
  have w8 := am_wf_fu (k := 7) (v := .long (mL 0)) w7 rfl
  rw [tb_nxk hA, tb_aI]
  simp only [List.append_assoc, List.cons_append, List.nil_append, List.length_cons, List.length_nil, Nat.zero_add, Nat.add_assoc, Nat.reduceAdd, nf_0, nf_1, nf_2, nf_3, nf_4, nf_5, nf_6, nf_7, nf_8, nf_9]
  rw [b_X6_init_49 (tb_sh hA w8)]
  rw [tb_uF (k := 8) (v := .ref (A + 1)) hA w8 rfl]
  have w9 := am_wf_fu (k := 8) (v := .ref (A + 1)) w8 rfl
  rw [tb_nxk hA, tb_aI]
  simp only [List.append_assoc, List.cons_append, List.nil_append, List.length_cons, List.length_nil, Nat.zero_add, Nat.add_assoc, Nat.reduceAdd, nf_0, nf_1, nf_2, nf_3, nf_4, nf_5, nf_6, nf_7, nf_8, nf_9]
  rw [b_X6_init_56 (tb_sh hA w9)]
  rw [tb_uF (k := 9) (v := .ref (A + 2)) hA w9 rfl]
  have w10 := am_wf_fu (k := 9) (v := .ref (A + 2)) w9 rfl
  rw [tb_nxk hA, tb_aI]
  simp only [List.append_assoc, List.cons_append, List.nil_append, List.length_cons, List.length_nil, Nat.zero_add, Nat.add_assoc, Nat.reduceAdd, nf_0, nf_1, nf_2, nf_3, nf_4, nf_5, nf_6, nf_7, nf_8, nf_9]
  rw [b_X6_init_64 (tb_sh hA w10)]
  rw [tb_uF (k := 10) (v := .ref (A + 3)) hA w10 rfl]
  have w11 := am_wf_fu (k := 10) (v := .ref (A + 3)) w10 rfl
  rw [tb_nxk hA, tb_aI]
  simp only [List.append_assoc, List.cons_append, List.nil_append, List.length_cons, List.length_nil, Nat.zero_add, Nat.add_assoc, Nat.reduceAdd, nf_0, nf_1, nf_2, nf_3, nf_4, nf_5, nf_6, nf_7, nf_8, nf_9]
  rw [b_X6_init_72 (tb_sh hA w11)]
  rw [tb_uF (k := 11) (v := .ref (A + 4)) hA w11 rfl]
  have w12 := am_wf_fu (k := 11) (v := .ref (A + 4)) w11 rfl
  rw [tb_nxk hA, tb_aI]
  simp only [List.append_assoc, List.cons_append, List.nil_append, List.length_cons, List.length_nil, Nat.zero_add, Nat.add_assoc, Nat.reduceAdd, nf_0, nf_1, nf_2, nf_3, nf_4, nf_5, nf_6, nf_7, nf_8, nf_9]
  rw [b_X6_init_80 (tb_sh hA w12)]
  rw [tb_uF (k := 12) (v := .ref (A + 5)) hA w12 rfl]
  have w13 := am_wf_fu (k := 12) (v := .ref (A + 5)) w12 rfl
  rw [tb_nxk hA, tb_aI]
  simp only [List.append_assoc, List.cons_append, List.nil_append, List.length_cons, List.length_nil, Nat.zero_add, Nat.add_assoc, Nat.reduceAdd, nf_0, nf_1, nf_2, nf_3, nf_4, nf_5, nf_6, nf_7, nf_8, nf_9]
  rw [b_X6_init_88 (tb_sh hA w13)]
  rw [tb_uF (k := 13) (v := .ref (A + 6)) hA w13 rfl]
  have w14 := am_wf_fu (k := 13) (v := .ref (A + 6)) w13 rfl
  rw [tb_nxk hA, tb_aI]
  simp only [List.append_assoc, List.cons_append, List.nil_append, List.length_cons, List.length_nil, Nat.zero_add, Nat.add_assoc, Nat.reduceAdd, nf_0, nf_1, nf_2, nf_3, nf_4, nf_5, nf_6, nf_7, nf_8, nf_9]
  rw [b_X6_init_97 (tb_sh hA w14)]
  rw [tb_uF (k := 14) (v := .ref (A + 7)) hA w14 rfl]
  have w15 := am_wf_fu (k := 14) (v := .ref (A + 7)) w14 rfl
  rw [tb_nxk hA, tb_aI]
  simp only [List.append_assoc, List.cons_append, List.nil_append, List.length_cons, List.length_nil, Nat.zero_add, Nat.add_assoc, Nat.reduceAdd, nf_0, nf_1, nf_2, nf_3, nf_4, nf_5, nf_6, nf_7, nf_8, nf_9]
  rw [b_X6_init_106 (tb_sh hA w15)]
  rw [tb_uF (k := 15) (v := .ref (A + 8)) hA w15 rfl]
theorem i_X11_init_77 : am_i m_X11_init 77 = some (77, .putfield 47, 3, [9, 9, 0], 0) := rfl
theorem i_X11_init_80 : am_i m_X11_init 80 = some (80, .aload_n 0, 1, [], 0) := rfl
theorem i_X11_init_81 : am_i m_X11_init 81 = some (81, .iconst 3, 1, [], 3) := rfl
theorem i_X11_init_82 : am_i m_X11_init 82 = some (82, .newarray .int, 2, [], 0) := rfl
theorem b_X11_init_77 {a0 as0 as1 : Nat} {h : am_H} (s1 : sh h as1 = (5, 9)) : rn m_X11_init 77 [.ref a0] [.ref as0, .ref as1] h = rn m_X11_init 84 [.ref a0] [.ref (hnx (uF 9 h as1 9 (.ref as0))), .ref a0] (aI 0 3 (uF 9 h as1 9 (.ref as0))) := by
  refine (tq_putfield i_X11_init_77 s1 (okfA_9_9 (isA_ref _)) rfl).trans ?_
  refine (tq_aload_n i_X11_init_80 rfl (isA_ref _) rfl).trans ?_
  refine (tq_iconst i_X11_init_81 rfl).trans ?_
  exact tq_newI (n := 3) (t := 0) i_X11_init_82 w_3 (by decide) rfl (by decide) rfl rfl
theorem i_X11_init_84 : am_i m_X11_init 84 = some (84, .putfield 51, 3, [9, 10, 2], 0) := rfl
theorem i_X11_init_87 : am_i m_X11_init 87 = some (87, .aload_n 0, 1, [], 0) := rfl
theorem i_X11_init_88 : am_i m_X11_init 88 = some (88, .iconst 0, 1, [], 0) := rfl
theorem i_X11_init_89 : am_i m_X11_init 89 = some (89, .putfield 54, 3, [9, 11, 0], 0) := rfl
theorem i_X11_init_92 : am_i m_X11_init 92 = some (92, .aload_n 0, 1, [], 0) := rfl
theorem i_X11_init_93 : am_i m_X11_init 93 = some (93, .new 57, 3, [2], 0) := rfl
theorem b_X11_init_84 {a0 as0 as1 : Nat} {h : am_H} (s1 : sh h as1 = (5, 9)) (s2 : sh h a0 = (5, 9)) : rn m_X11_init 84 [.ref a0] [.ref as0, .ref as1] h = rn m_X11_init 96 [.ref a0] [.ref (hnx (uF 9 (uF 9 h as1 10 (.ref as0)) a0 11 (.int (mI 0)))), .ref a0] (aO 2 (uF 9 (uF 9 h as1 10 (.ref as0)) a0 11 (.int (mI 0)))) := by
  refine (tq_putfield i_X11_init_84 s1 (okfA_9_10 (isA_ref _)) rfl).trans ?_
  refine (tq_aload_n i_X11_init_87 rfl (isA_ref _) rfl).trans ?_
  refine (tq_iconst i_X11_init_88 rfl).trans ?_
  refine (tq_putfield i_X11_init_89 ((sh_uF _ _ _ _ _ _).trans s2) (okf_9_11 _) rfl).trans ?_
  refine (tq_aload_n i_X11_init_92 rfl (isA_ref _) rfl).trans ?_
  exact tq_new i_X11_init_93 rfl
theorem i_X11_init_96 : am_i m_X11_init 96 = some (96, .dup, 1, [], 0) := rfl
theorem i_X11_init_97 : am_i m_X11_init 97 = some (97, .invokespecial 59, 3, [91], 0) := rfl
theorem b_X11_init_96 {a0 as0 as1 : Nat} {h : am_H} : rn m_X11_init 96 [.ref a0] [.ref as0, .ref as1] h = cl m_X11_init 100 [.ref a0] [.ref as0, .ref as1] (rn m_X2_init 0 [.ref as0] [] h) := by
  refine (tq_dup i_X11_init_96 rfl rfl).trans ?_
  exact c_X2_init i_X11_init_97 (ltd d_X11_init (by decide)) (stOk_2 _ _) rfl
theorem i_X2_init_0 : am_i m_X2_init 0 = some (0, .aload_n 0, 1, [], 0) := rfl
theorem i_X2_init_1 : am_i m_X2_init 1 = some (1, .invokespecial 3, 3, [], 0) := rfl
theorem i_X2_init_4 : am_i m_X2_init 4 = some (4, .aload_n 0, 1, [], 0) := rfl
theorem i_X2_init_5 : am_i m_X2_init 5 = some (5, .new 9, 3, [1], 0) := rfl
theorem b_X2_init_0 {a0 : Nat} {h : am_H} : rn m_X2_init 0 [.ref a0] [] h = rn m_X2_init 8 [.ref a0] [.ref (hnx h), .ref a0] (aO 1 h) := by
  refine (tq_aload_n i_X2_init_0 rfl (isA_ref _) rfl).trans ?_
  refine (tq_init i_X2_init_1 (Nat.le_of_ble_eq_true rfl) rfl).trans ?_
  refine (tq_aload_n i_X2_init_4 rfl (isA_ref _) rfl).trans ?_
  exact tq_new i_X2_init_5 rfl
theorem i_X2_init_8 : am_i m_X2_init 8 = some (8, .dup, 1, [], 0) := rfl
theorem i_X2_init_9 : am_i m_X2_init 9 = some (9, .invokespecial 11, 3, [76], 0) := rfl
theorem b_X2_init_8 {a0 as0 as1 : Nat} {h : am_H} : rn m_X2_init 8 [.ref a0] [.ref as0, .ref as1] h = cl m_X2_init 12 [.ref a0] [.ref as0, .ref as1] (rn m_X1_init 0 [.ref as0] [] h) := by
  refine (tq_dup i_X2_init_8 rfl rfl).trans ?_
  exact c_X1_init i_X2_init_9 (ltd d_X2_init (by decide)) (stOk_2 _ _) rfl
theorem i_X1_init_0 : am_i m_X1_init 0 = some (0, .aload_n 0, 1, [], 0) := rfl
theorem i_X1_init_1 : am_i m_X1_init 1 = some (1, .invokespecial 3, 3, [], 0) := rfl
theorem i_X1_init_4 : am_i m_X1_init 4 = some (4, .aload_n 0, 1, [], 0) := rfl
theorem i_X1_init_5 : am_i m_X1_init 5 = some (5, .new 9, 3, [4], 0) := rfl
theorem b_X1_init_0 {a0 : Nat} {h : am_H} : rn m_X1_init 0 [.ref a0] [] h = rn m_X1_init 8 [.ref a0] [.ref (hnx h), .ref a0] (aO 4 h) := by
  refine (tq_aload_n i_X1_init_0 rfl (isA_ref _) rfl).trans ?_
  refine (tq_init i_X1_init_1 (Nat.le_of_ble_eq_true rfl) rfl).trans ?_
  refine (tq_aload_n i_X1_init_4 rfl (isA_ref _) rfl).trans ?_
  exact tq_new i_X1_init_5 rfl
theorem i_X1_init_8 : am_i m_X1_init 8 = some (8, .dup, 1, [], 0) := rfl
theorem i_X1_init_9 : am_i m_X1_init 9 = some (9, .invokespecial 11, 3, [62], 0) := rfl
theorem b_X1_init_8 {a0 as0 as1 : Nat} {h : am_H} : rn m_X1_init 8 [.ref a0] [.ref as0, .ref as1] h = cl m_X1_init 12 [.ref a0] [.ref as0, .ref as1] (rn m_X4_init 0 [.ref as0] [] h) := by
  refine (tq_dup i_X1_init_8 rfl rfl).trans ?_
  exact c_X4_init i_X1_init_9 (ltd d_X1_init (by decide)) (stOk_2 _ _) rfl
theorem i_X4_init_0 : am_i m_X4_init 0 = some (0, .aload_n 0, 1, [], 0) := rfl
theorem i_X4_init_1 : am_i m_X4_init 1 = some (1, .invokespecial 3, 3, [], 0) := rfl
theorem i_X4_init_4 : am_i m_X4_init 4 = some (4, .aload_n 0, 1, [], 0) := rfl
theorem i_X4_init_5 : am_i m_X4_init 5 = some (5, .sipush 2209, 3, [], 2209) := rfl
theorem i_X4_init_8 : am_i m_X4_init 8 = some (8, .newarray .int, 2, [], 0) := rfl
theorem b_X4_init_0 {a0 : Nat} {h : am_H} : rn m_X4_init 0 [.ref a0] [] h = rn m_X4_init 10 [.ref a0] [.ref (hnx h), .ref a0] (aI 0 2209 h) := by
  refine (tq_aload_n i_X4_init_0 rfl (isA_ref _) rfl).trans ?_
  refine (tq_init i_X4_init_1 (Nat.le_of_ble_eq_true rfl) rfl).trans ?_
  refine (tq_aload_n i_X4_init_4 rfl (isA_ref _) rfl).trans ?_
  refine (tq_sipush i_X4_init_5 rfl).trans ?_
  exact tq_newI (n := 2209) (t := 0) i_X4_init_8 w_2209 (by decide) rfl (by decide) rfl rfl
theorem i_X4_init_10 : am_i m_X4_init 10 = some (10, .putfield 11, 3, [4, 0, 2], 0) := rfl
theorem i_X4_init_13 : am_i m_X4_init 13 = some (13, .return_, 1, [], 0) := rfl
theorem b_X4_init_10 {v0 : Value} {as0 as1 : Nat} {h : am_H} (s1 : sh h as1 = (5, 4)) : rn m_X4_init 10 [v0] [.ref as0, .ref as1] h = some (.inl none, uF 4 h as1 0 (.ref as0)) := by
  refine (tq_putfield i_X4_init_10 s1 (okfA_4_0 (isA_ref _)) rfl).trans ?_
  exact tq_return i_X4_init_13 r_X4_init
theorem n_X4 {h : am_H} {s A : Nat} {l : List am_C} (hA : A = hnx h + l.length) : rn m_X4_init 0 [.ref A] [] (tb h s (l ++ [ob 4])) = some (.inl none, tb h (s + 2209) (l ++ [.inr (4, am_fu (df 4) 0 (.ref (A + 1))), zI 0 2209])) := by
  have w0 : am_wf 4 (df 4) = true := rfl
  rw [b_X4_init_0]
  rw [tb_nxk hA, tb_aI]
  simp only [List.append_assoc, List.cons_append, List.nil_append, List.length_cons, List.length_nil, Nat.zero_add, Nat.add_assoc, Nat.reduceAdd, nf_0, nf_1, nf_2, nf_3, nf_4, nf_5, nf_6, nf_7, nf_8, nf_9]
  rw [b_X4_init_10 (tb_sh hA w0)]
  rw [tb_uF (k := 0) (v := .ref (A + 1)) hA w0 rfl]
theorem i_X1_init_12 : am_i m_X1_init 12 = some (12, .putfield 12, 3, [1, 0, 2], 0) := rfl
theorem i_X1_init_15 : am_i m_X1_init 15 = some (15, .aload_n 0, 1, [], 0) := rfl
theorem i_X1_init_16 : am_i m_X1_init 16 = some (16, .new 9, 3, [4], 0) := rfl
theorem b_X1_init_12 {a0 as0 as1 : Nat} {h : am_H} (s1 : sh h as1 = (5, 1)) : rn m_X1_init 12 [.ref a0] [.ref as0, .ref as1] h = rn m_X1_init 19 [.ref a0] [.ref (hnx (uF 1 h as1 0 (.ref as0))), .ref a0] (aO 4 (uF 1 h as1 0 (.ref as0))) := by
  refine (tq_putfield i_X1_init_12 s1 (okfA_1_0 (isA_ref _)) rfl).trans ?_
  refine (tq_aload_n i_X1_init_15 rfl (isA_ref _) rfl).trans ?_
  exact tq_new i_X1_init_16 rfl
theorem i_X1_init_19 : am_i m_X1_init 19 = some (19, .dup, 1, [], 0) := rfl
theorem i_X1_init_20 : am_i m_X1_init 20 = some (20, .invokespecial 11, 3, [62], 0) := rfl
theorem b_X1_init_19 {a0 as0 as1 : Nat} {h : am_H} : rn m_X1_init 19 [.ref a0] [.ref as0, .ref as1] h = cl m_X1_init 23 [.ref a0] [.ref as0, .ref as1] (rn m_X4_init 0 [.ref as0] [] h) := by
  refine (tq_dup i_X1_init_19 rfl rfl).trans ?_
  exact c_X4_init i_X1_init_20 (ltd d_X1_init (by decide)) (stOk_2 _ _) rfl
theorem i_X1_init_23 : am_i m_X1_init 23 = some (23, .putfield 18, 3, [1, 1, 2], 0) := rfl
theorem i_X1_init_26 : am_i m_X1_init 26 = some (26, .aload_n 0, 1, [], 0) := rfl
theorem i_X1_init_27 : am_i m_X1_init 27 = some (27, .bipush 8, 2, [], 8) := rfl
theorem i_X1_init_29 : am_i m_X1_init 29 = some (29, .newarray .int, 2, [], 0) := rfl
theorem b_X1_init_23 {a0 as0 as1 : Nat} {h : am_H} (s1 : sh h as1 = (5, 1)) : rn m_X1_init 23 [.ref a0] [.ref as0, .ref as1] h = rn m_X1_init 31 [.ref a0] [.ref (hnx (uF 1 h as1 1 (.ref as0))), .ref a0] (aI 0 8 (uF 1 h as1 1 (.ref as0))) := by
  refine (tq_putfield i_X1_init_23 s1 (okfA_1_1 (isA_ref _)) rfl).trans ?_
  refine (tq_aload_n i_X1_init_26 rfl (isA_ref _) rfl).trans ?_
  refine (tq_bipush i_X1_init_27 rfl).trans ?_
  exact tq_newI (n := 8) (t := 0) i_X1_init_29 w_8 (by decide) rfl (by decide) rfl rfl
theorem i_X1_init_31 : am_i m_X1_init 31 = some (31, .putfield 21, 3, [1, 2, 2], 0) := rfl
theorem i_X1_init_34 : am_i m_X1_init 34 = some (34, .aload_n 0, 1, [], 0) := rfl
theorem i_X1_init_35 : am_i m_X1_init 35 = some (35, .bipush 8, 2, [], 8) := rfl
theorem i_X1_init_37 : am_i m_X1_init 37 = some (37, .newarray .int, 2, [], 0) := rfl
theorem b_X1_init_31 {a0 as0 as1 : Nat} {h : am_H} (s1 : sh h as1 = (5, 1)) : rn m_X1_init 31 [.ref a0] [.ref as0, .ref as1] h = rn m_X1_init 39 [.ref a0] [.ref (hnx (uF 1 h as1 2 (.ref as0))), .ref a0] (aI 0 8 (uF 1 h as1 2 (.ref as0))) := by
  refine (tq_putfield i_X1_init_31 s1 (okfA_1_2 (isA_ref _)) rfl).trans ?_
  refine (tq_aload_n i_X1_init_34 rfl (isA_ref _) rfl).trans ?_
  refine (tq_bipush i_X1_init_35 rfl).trans ?_
  exact tq_newI (n := 8) (t := 0) i_X1_init_37 w_8 (by decide) rfl (by decide) rfl rfl
theorem i_X1_init_39 : am_i m_X1_init 39 = some (39, .putfield 25, 3, [1, 3, 2], 0) := rfl
theorem i_X1_init_42 : am_i m_X1_init 42 = some (42, .aload_n 0, 1, [], 0) := rfl
theorem i_X1_init_43 : am_i m_X1_init 43 = some (43, .sipush 128, 3, [], 128) := rfl
theorem i_X1_init_46 : am_i m_X1_init 46 = some (46, .putfield 28, 3, [1, 4, 0], 0) := rfl
theorem i_X1_init_49 : am_i m_X1_init 49 = some (49, .aload_n 0, 1, [], 0) := rfl
theorem i_X1_init_50 : am_i m_X1_init 50 = some (50, .sipush 128, 3, [], 128) := rfl
theorem i_X1_init_53 : am_i m_X1_init 53 = some (53, .putfield 32, 3, [1, 5, 0], 0) := rfl
theorem i_X1_init_56 : am_i m_X1_init 56 = some (56, .aload_n 0, 1, [], 0) := rfl
theorem i_X1_init_57 : am_i m_X1_init 57 = some (57, .sipush 256, 3, [], 256) := rfl
theorem i_X1_init_60 : am_i m_X1_init 60 = some (60, .newarray .int, 2, [], 0) := rfl
theorem b_X1_init_39 {a0 as0 as1 : Nat} {h : am_H} (s1 : sh h as1 = (5, 1)) (s2 : sh h a0 = (5, 1)) : rn m_X1_init 39 [.ref a0] [.ref as0, .ref as1] h = rn m_X1_init 62 [.ref a0] [.ref (hnx (uF 1 (uF 1 (uF 1 h as1 3 (.ref as0)) a0 4 (.int (mI 128))) a0 5 (.int (mI 128)))), .ref a0] (aI 0 256 (uF 1 (uF 1 (uF 1 h as1 3 (.ref as0)) a0 4 (.int (mI 128))) a0 5 (.int (mI 128)))) := by
  refine (tq_putfield i_X1_init_39 s1 (okfA_1_3 (isA_ref _)) rfl).trans ?_
  refine (tq_aload_n i_X1_init_42 rfl (isA_ref _) rfl).trans ?_
  refine (tq_sipush i_X1_init_43 rfl).trans ?_
  refine (tq_putfield i_X1_init_46 ((sh_uF _ _ _ _ _ _).trans s2) (okf_1_4 _) rfl).trans ?_
  refine (tq_aload_n i_X1_init_49 rfl (isA_ref _) rfl).trans ?_
  refine (tq_sipush i_X1_init_50 rfl).trans ?_
  refine (tq_putfield i_X1_init_53 ((sh_uF _ _ _ _ _ _).trans ((sh_uF _ _ _ _ _ _).trans s2)) (okf_1_5 _) rfl).trans ?_
  refine (tq_aload_n i_X1_init_56 rfl (isA_ref _) rfl).trans ?_
  refine (tq_sipush i_X1_init_57 rfl).trans ?_
  exact tq_newI (n := 256) (t := 0) i_X1_init_60 w_256 (by decide) rfl (by decide) rfl rfl
theorem i_X1_init_62 : am_i m_X1_init 62 = some (62, .putfield 35, 3, [1, 6, 2], 0) := rfl
theorem i_X1_init_65 : am_i m_X1_init 65 = some (65, .aload_n 0, 1, [], 0) := rfl
theorem i_X1_init_66 : am_i m_X1_init 66 = some (66, .bipush 16, 2, [], 16) := rfl
theorem i_X1_init_68 : am_i m_X1_init 68 = some (68, .newarray .int, 2, [], 0) := rfl
theorem b_X1_init_62 {a0 as0 as1 : Nat} {h : am_H} (s1 : sh h as1 = (5, 1)) : rn m_X1_init 62 [.ref a0] [.ref as0, .ref as1] h = rn m_X1_init 70 [.ref a0] [.ref (hnx (uF 1 h as1 6 (.ref as0))), .ref a0] (aI 0 16 (uF 1 h as1 6 (.ref as0))) := by
  refine (tq_putfield i_X1_init_62 s1 (okfA_1_6 (isA_ref _)) rfl).trans ?_
  refine (tq_aload_n i_X1_init_65 rfl (isA_ref _) rfl).trans ?_
  refine (tq_bipush i_X1_init_66 rfl).trans ?_
  exact tq_newI (n := 16) (t := 0) i_X1_init_68 w_16 (by decide) rfl (by decide) rfl rfl
theorem i_X1_init_70 : am_i m_X1_init 70 = some (70, .putfield 38, 3, [1, 7, 2], 0) := rfl
theorem i_X1_init_73 : am_i m_X1_init 73 = some (73, .return_, 1, [], 0) := rfl
theorem b_X1_init_70 {v0 : Value} {as0 as1 : Nat} {h : am_H} (s1 : sh h as1 = (5, 1)) : rn m_X1_init 70 [v0] [.ref as0, .ref as1] h = some (.inl none, uF 1 h as1 7 (.ref as0)) := by
  refine (tq_putfield i_X1_init_70 s1 (okfA_1_7 (isA_ref _)) rfl).trans ?_
  exact tq_return i_X1_init_73 r_X1_init
theorem n_X1 {h : am_H} {s A : Nat} {l : List am_C} (hA : A = hnx h + l.length) : rn m_X1_init 0 [.ref A] [] (tb h s (l ++ [ob 1])) = some (.inl none, tb h (s + 4708) (l ++ [.inr (1, am_fu (am_fu (am_fu (am_fu (am_fu (am_fu (am_fu (am_fu (df 1) 0 (.ref (A + 1))) 1 (.ref (A + 3))) 2 (.ref (A + 5))) 3 (.ref (A + 6))) 4 (.int (mI 128))) 5 (.int (mI 128))) 6 (.ref (A + 7))) 7 (.ref (A + 8))), .inr (4, am_fu (df 4) 0 (.ref (A + 2))), zI 0 2209, .inr (4, am_fu (df 4) 0 (.ref (A + 4))), zI 0 2209, zI 0 8, zI 0 8, zI 0 256, zI 0 16])) := by
  have w0 : am_wf 1 (df 1) = true := rfl
  rw [b_X1_init_0]
  rw [tb_nxk hA, tb_aO]
  simp only [List.append_assoc, List.cons_append, List.nil_append, List.length_cons, List.length_nil, Nat.zero_add, Nat.add_assoc, Nat.reduceAdd, nf_0, nf_1, nf_2, nf_3, nf_4, nf_5, nf_6, nf_7, nf_8, nf_9]
  rw [b_X1_init_8]
  have e := n_X4 (h := h) (s := s + 1) (l := l ++ [ob 1]) (A := A + 1) (by simp only [List.length_append, List.length_cons, List.length_nil]; omega)
  simp only [List.append_assoc, List.cons_append, List.nil_append, List.length_cons, List.length_nil, Nat.zero_add, Nat.add_assoc, Nat.reduceAdd, nf_0, nf_1, nf_2, nf_3, nf_4, nf_5, nf_6, nf_7, nf_8, nf_9] at e
  rw [e, cl_n]
  clear e
  rw [b_X1_init_12 (tb_sh hA w0)]
  rw [tb_uF (k := 0) (v := .ref (A + 1)) hA w0 rfl]
  have w1 := am_wf_fu (k := 0) (v := .ref (A + 1)) w0 rfl
  rw [tb_nxk hA, tb_aO]
  simp only [List.append_assoc, List.cons_append, List.nil_append, List.length_cons, List.length_nil, Nat.zero_add, Nat.add_assoc, Nat.reduceAdd, nf_0, nf_1, nf_2, nf_3, nf_4, nf_5, nf_6, nf_7, nf_8, nf_9]
  rw [b_X1_init_19]
  have e := n_X4 (h := h) (s := s + 2211) (l := l ++ [.inr (1, am_fu (df 1) 0 (.ref (A + 1))), .inr (4, am_fu (df 4) 0 (.ref (A + 2))), zI 0 2209]) (A := A + 3) (by simp only [List.length_append, List.length_cons, List.length_nil]; omega)
  simp only [List.append_assoc, List.cons_append, List.nil_append, List.length_cons, List.length_nil, Nat.zero_add, Nat.add_assoc, Nat.reduceAdd, nf_0, nf_1, nf_2, nf_3, nf_4, nf_5, nf_6, nf_7, nf_8, nf_9] at e
  rw [e, cl_n]
  clear e
  rw [b_X1_init_23 (tb_sh hA w1)]
  rw [tb_uF (k := 1) (v := .ref (A + 3)) hA w1 rfl]
  have w2 := am_wf_fu (k := 1) (v := .ref (A + 3)) w1 rfl
  rw [tb_nxk hA, tb_aI]
  simp only [List.append_assoc, List.cons_append, List.nil_append, List.length_cons, List.length_nil, Nat.zero_add, Nat.add_assoc, Nat.reduceAdd, nf_0, nf_1, nf_2, nf_3, nf_4, nf_5, nf_6, nf_7, nf_8, nf_9]
  rw [b_X1_init_31 (tb_sh hA w2)]
  rw [tb_uF (k := 2) (v := .ref (A + 5)) hA w2 rfl]
  have w3 := am_wf_fu (k := 2) (v := .ref (A + 5)) w2 rfl
  rw [tb_nxk hA, tb_aI]
  simp only [List.append_assoc, List.cons_append, List.nil_append, List.length_cons, List.length_nil, Nat.zero_add, Nat.add_assoc, Nat.reduceAdd, nf_0, nf_1, nf_2, nf_3, nf_4, nf_5, nf_6, nf_7, nf_8, nf_9]
  rw [b_X1_init_39 (tb_sh hA w3) (tb_sh hA w3)]
  rw [tb_uF (k := 3) (v := .ref (A + 6)) hA w3 rfl]
  have w4 := am_wf_fu (k := 3) (v := .ref (A + 6)) w3 rfl
  rw [tb_uF (k := 4) (v := .int (mI 128)) hA w4 rfl]
  have w5 := am_wf_fu (k := 4) (v := .int (mI 128)) w4 rfl
  rw [tb_uF (k := 5) (v := .int (mI 128)) hA w5 rfl]
  have w6 := am_wf_fu (k := 5) (v := .int (mI 128)) w5 rfl
  rw [tb_nxk hA, tb_aI]
  simp only [List.append_assoc, List.cons_append, List.nil_append, List.length_cons, List.length_nil, Nat.zero_add, Nat.add_assoc, Nat.reduceAdd, nf_0, nf_1, nf_2, nf_3, nf_4, nf_5, nf_6, nf_7, nf_8, nf_9]
  rw [b_X1_init_62 (tb_sh hA w6)]
  rw [tb_uF (k := 6) (v := .ref (A + 7)) hA w6 rfl]
  have w7 := am_wf_fu (k := 6) (v := .ref (A + 7)) w6 rfl
  rw [tb_nxk hA, tb_aI]
  simp only [List.append_assoc, List.cons_append, List.nil_append, List.length_cons, List.length_nil, Nat.zero_add, Nat.add_assoc, Nat.reduceAdd, nf_0, nf_1, nf_2, nf_3, nf_4, nf_5, nf_6, nf_7, nf_8, nf_9]
  rw [b_X1_init_70 (tb_sh hA w7)]
  rw [tb_uF (k := 7) (v := .ref (A + 8)) hA w7 rfl]
theorem i_X2_init_12 : am_i m_X2_init 12 = some (12, .putfield 12, 3, [2, 0, 2], 0) := rfl
theorem i_X2_init_15 : am_i m_X2_init 15 = some (15, .aload_n 0, 1, [], 0) := rfl
theorem i_X2_init_16 : am_i m_X2_init 16 = some (16, .new 18, 3, [5], 0) := rfl
theorem b_X2_init_12 {a0 as0 as1 : Nat} {h : am_H} (s1 : sh h as1 = (5, 2)) : rn m_X2_init 12 [.ref a0] [.ref as0, .ref as1] h = rn m_X2_init 19 [.ref a0] [.ref (hnx (uF 2 h as1 0 (.ref as0))), .ref a0] (aO 5 (uF 2 h as1 0 (.ref as0))) := by
  refine (tq_putfield i_X2_init_12 s1 (okfA_2_0 (isA_ref _)) rfl).trans ?_
  refine (tq_aload_n i_X2_init_15 rfl (isA_ref _) rfl).trans ?_
  exact tq_new i_X2_init_16 rfl
theorem i_X2_init_19 : am_i m_X2_init 19 = some (19, .dup, 1, [], 0) := rfl
theorem i_X2_init_20 : am_i m_X2_init 20 = some (20, .invokespecial 20, 3, [64], 0) := rfl
theorem b_X2_init_19 {v0 : Value} {as0 as1 : Nat} {h : am_H} : rn m_X2_init 19 [v0] [.ref as0, .ref as1] h = cl m_X2_init 23 [v0] [.ref as0, .ref as1] (rn m_X5_init 0 [.ref as0] [] h) := by
  refine (tq_dup i_X2_init_19 rfl rfl).trans ?_
  exact c_X5_init i_X2_init_20 (ltd d_X2_init (by decide)) (stOk_2 _ _) rfl
theorem i_X5_init_0 : am_i m_X5_init 0 = some (0, .aload_n 0, 1, [], 0) := rfl
theorem i_X5_init_1 : am_i m_X5_init 1 = some (1, .invokespecial 3, 3, [], 0) := rfl
theorem i_X5_init_4 : am_i m_X5_init 4 = some (4, .aload_n 0, 1, [], 0) := rfl
theorem i_X5_init_5 : am_i m_X5_init 5 = some (5, .iconst 0, 1, [], 0) := rfl
theorem i_X5_init_6 : am_i m_X5_init 6 = some (6, .putfield 9, 3, [5, 0, 0], 0) := rfl
theorem i_X5_init_9 : am_i m_X5_init 9 = some (9, .aload_n 0, 1, [], 0) := rfl
theorem i_X5_init_10 : am_i m_X5_init 10 = some (10, .iconst 0, 1, [], 0) := rfl
theorem i_X5_init_11 : am_i m_X5_init 11 = some (11, .putfield 15, 3, [5, 1, 0], 0) := rfl
theorem i_X5_init_14 : am_i m_X5_init 14 = some (14, .aload_n 0, 1, [], 0) := rfl
theorem i_X5_init_15 : am_i m_X5_init 15 = some (15, .bipush 8, 2, [], 8) := rfl
theorem i_X5_init_17 : am_i m_X5_init 17 = some (17, .putfield 18, 3, [5, 2, 0], 0) := rfl
theorem i_X5_init_20 : am_i m_X5_init 20 = some (20, .aload_n 0, 1, [], 0) := rfl
theorem i_X5_init_21 : am_i m_X5_init 21 = some (21, .iconst 0, 1, [], 0) := rfl
theorem i_X5_init_22 : am_i m_X5_init 22 = some (22, .putfield 21, 3, [5, 3, 0], 0) := rfl
theorem i_X5_init_25 : am_i m_X5_init 25 = some (25, .aload_n 0, 1, [], 0) := rfl
theorem i_X5_init_26 : am_i m_X5_init 26 = some (26, .iconst 0, 1, [], 0) := rfl
theorem i_X5_init_27 : am_i m_X5_init 27 = some (27, .putfield 24, 3, [5, 4, 0], 0) := rfl
theorem i_X5_init_30 : am_i m_X5_init 30 = some (30, .aload_n 0, 1, [], 0) := rfl
theorem i_X5_init_31 : am_i m_X5_init 31 = some (31, .iconst (-1), 1, [], -1) := rfl
theorem i_X5_init_32 : am_i m_X5_init 32 = some (32, .putfield 27, 3, [5, 5, 0], 0) := rfl
theorem i_X5_init_35 : am_i m_X5_init 35 = some (35, .aload_n 0, 1, [], 0) := rfl
theorem i_X5_init_36 : am_i m_X5_init 36 = some (36, .iconst (-1), 1, [], -1) := rfl
theorem i_X5_init_37 : am_i m_X5_init 37 = some (37, .putfield 30, 3, [5, 6, 0], 0) := rfl
theorem i_X5_init_40 : am_i m_X5_init 40 = some (40, .return_, 1, [], 0) := rfl
theorem b_X5_init_0 {a0 : Nat} {h : am_H} (s1 : sh h a0 = (5, 5)) : rn m_X5_init 0 [.ref a0] [] h = some (.inl none, uF 5 (uF 5 (uF 5 (uF 5 (uF 5 (uF 5 (uF 5 h a0 0 (.int (mI 0))) a0 1 (.int (mI 0))) a0 2 (.int (mI 8))) a0 3 (.int (mI 0))) a0 4 (.int (mI 0))) a0 5 (.int (mI (-1)))) a0 6 (.int (mI (-1)))) := by
  refine (tq_aload_n i_X5_init_0 rfl (isA_ref _) rfl).trans ?_
  refine (tq_init i_X5_init_1 (Nat.le_of_ble_eq_true rfl) rfl).trans ?_
  refine (tq_aload_n i_X5_init_4 rfl (isA_ref _) rfl).trans ?_
  refine (tq_iconst i_X5_init_5 rfl).trans ?_
  refine (tq_putfield i_X5_init_6 s1 (okf_5_0 _) rfl).trans ?_
  refine (tq_aload_n i_X5_init_9 rfl (isA_ref _) rfl).trans ?_
  refine (tq_iconst i_X5_init_10 rfl).trans ?_
  refine (tq_putfield i_X5_init_11 ((sh_uF _ _ _ _ _ _).trans s1) (okf_5_1 _) rfl).trans ?_
  refine (tq_aload_n i_X5_init_14 rfl (isA_ref _) rfl).trans ?_
  refine (tq_bipush i_X5_init_15 rfl).trans ?_
  refine (tq_putfield i_X5_init_17 ((sh_uF _ _ _ _ _ _).trans ((sh_uF _ _ _ _ _ _).trans s1)) (okf_5_2 _) rfl).trans ?_
  refine (tq_aload_n i_X5_init_20 rfl (isA_ref _) rfl).trans ?_
  refine (tq_iconst i_X5_init_21 rfl).trans ?_
  refine (tq_putfield i_X5_init_22 ((sh_uF _ _ _ _ _ _).trans ((sh_uF _ _ _ _ _ _).trans ((sh_uF _ _ _ _ _ _).trans s1))) (okf_5_3 _) rfl).trans ?_
  refine (tq_aload_n i_X5_init_25 rfl (isA_ref _) rfl).trans ?_
  refine (tq_iconst i_X5_init_26 rfl).trans ?_
  refine (tq_putfield i_X5_init_27 ((sh_uF _ _ _ _ _ _).trans ((sh_uF _ _ _ _ _ _).trans ((sh_uF _ _ _ _ _ _).trans ((sh_uF _ _ _ _ _ _).trans s1)))) (okf_5_4 _) rfl).trans ?_
  refine (tq_aload_n i_X5_init_30 rfl (isA_ref _) rfl).trans ?_
  refine (tq_iconst i_X5_init_31 rfl).trans ?_
  refine (tq_putfield i_X5_init_32 ((sh_uF _ _ _ _ _ _).trans ((sh_uF _ _ _ _ _ _).trans ((sh_uF _ _ _ _ _ _).trans ((sh_uF _ _ _ _ _ _).trans ((sh_uF _ _ _ _ _ _).trans s1))))) (okf_5_5 _) rfl).trans ?_
  refine (tq_aload_n i_X5_init_35 rfl (isA_ref _) rfl).trans ?_
  refine (tq_iconst i_X5_init_36 rfl).trans ?_
  refine (tq_putfield i_X5_init_37 ((sh_uF _ _ _ _ _ _).trans ((sh_uF _ _ _ _ _ _).trans ((sh_uF _ _ _ _ _ _).trans ((sh_uF _ _ _ _ _ _).trans ((sh_uF _ _ _ _ _ _).trans ((sh_uF _ _ _ _ _ _).trans s1)))))) (okf_5_6 _) rfl).trans ?_
  exact tq_return i_X5_init_40 r_X5_init
theorem n_X5 {h : am_H} {s A : Nat} {l : List am_C} (hA : A = hnx h + l.length) : rn m_X5_init 0 [.ref A] [] (tb h s (l ++ [ob 5])) = some (.inl none, tb h (s) (l ++ [.inr (5, am_fu (am_fu (am_fu (am_fu (am_fu (am_fu (am_fu (df 5) 0 (.int (mI 0))) 1 (.int (mI 0))) 2 (.int (mI 8))) 3 (.int (mI 0))) 4 (.int (mI 0))) 5 (.int (mI (-1)))) 6 (.int (mI (-1))))])) := by
  have w0 : am_wf 5 (df 5) = true := rfl
  rw [b_X5_init_0 (tb_sh hA w0)]
  rw [tb_uF (k := 0) (v := .int (mI 0)) hA w0 rfl]
  have w1 := am_wf_fu (k := 0) (v := .int (mI 0)) w0 rfl
  rw [tb_uF (k := 1) (v := .int (mI 0)) hA w1 rfl]
  have w2 := am_wf_fu (k := 1) (v := .int (mI 0)) w1 rfl
  rw [tb_uF (k := 2) (v := .int (mI 8)) hA w2 rfl]
  have w3 := am_wf_fu (k := 2) (v := .int (mI 8)) w2 rfl
  rw [tb_uF (k := 3) (v := .int (mI 0)) hA w3 rfl]
  have w4 := am_wf_fu (k := 3) (v := .int (mI 0)) w3 rfl
  rw [tb_uF (k := 4) (v := .int (mI 0)) hA w4 rfl]
  have w5 := am_wf_fu (k := 4) (v := .int (mI 0)) w4 rfl
  rw [tb_uF (k := 5) (v := .int (mI (-1))) hA w5 rfl]
  have w6 := am_wf_fu (k := 5) (v := .int (mI (-1))) w5 rfl
  rw [tb_uF (k := 6) (v := .int (mI (-1))) hA w6 rfl]
theorem i_X2_init_23 : am_i m_X2_init 23 = some (23, .putfield 21, 3, [2, 1, 2], 0) := rfl
theorem i_X2_init_26 : am_i m_X2_init 26 = some (26, .return_, 1, [], 0) := rfl
theorem b_X2_init_23 {v0 : Value} {as0 as1 : Nat} {h : am_H} (s1 : sh h as1 = (5, 2)) : rn m_X2_init 23 [v0] [.ref as0, .ref as1] h = some (.inl none, uF 2 h as1 1 (.ref as0)) := by
  refine (tq_putfield i_X2_init_23 s1 (okfA_2_1 (isA_ref _)) rfl).trans ?_
  exact tq_return i_X2_init_26 r_X2_init
theorem n_X2 {h : am_H} {s A : Nat} {l : List am_C} (hA : A = hnx h + l.length) : rn m_X2_init 0 [.ref A] [] (tb h s (l ++ [ob 2])) = some (.inl none, tb h (s + 4723) (l ++ [.inr (2, am_fu (am_fu (df 2) 0 (.ref (A + 1))) 1 (.ref (A + 10))), .inr (1, am_fu (am_fu (am_fu (am_fu (am_fu (am_fu (am_fu (am_fu (df 1) 0 (.ref (A + 2))) 1 (.ref (A + 4))) 2 (.ref (A + 6))) 3 (.ref (A + 7))) 4 (.int (mI 128))) 5 (.int (mI 128))) 6 (.ref (A + 8))) 7 (.ref (A + 9))), .inr (4, am_fu (df 4) 0 (.ref (A + 3))), zI 0 2209, .inr (4, am_fu (df 4) 0 (.ref (A + 5))), zI 0 2209, zI 0 8, zI 0 8, zI 0 256, zI 0 16, .inr (5, am_fu (am_fu (am_fu (am_fu (am_fu (am_fu (am_fu (df 5) 0 (.int (mI 0))) 1 (.int (mI 0))) 2 (.int (mI 8))) 3 (.int (mI 0))) 4 (.int (mI 0))) 5 (.int (mI (-1)))) 6 (.int (mI (-1))))])) := by
  have w0 : am_wf 2 (df 2) = true := rfl
  rw [b_X2_init_0]
  rw [tb_nxk hA, tb_aO]
  simp only [List.append_assoc, List.cons_append, List.nil_append, List.length_cons, List.length_nil, Nat.zero_add, Nat.add_assoc, Nat.reduceAdd, nf_0, nf_1, nf_2, nf_3, nf_4, nf_5, nf_6, nf_7, nf_8, nf_9]
  rw [b_X2_init_8]
  have e := n_X1 (h := h) (s := s + 8) (l := l ++ [ob 2]) (A := A + 1) (by simp only [List.length_append, List.length_cons, List.length_nil]; omega)
  simp only [List.append_assoc, List.cons_append, List.nil_append, List.length_cons, List.length_nil, Nat.zero_add, Nat.add_assoc, Nat.reduceAdd, nf_0, nf_1, nf_2, nf_3, nf_4, nf_5, nf_6, nf_7, nf_8, nf_9] at e
  rw [e, cl_n]
  clear e
  rw [b_X2_init_12 (tb_sh hA w0)]
  rw [tb_uF (k := 0) (v := .ref (A + 1)) hA w0 rfl]
  have w1 := am_wf_fu (k := 0) (v := .ref (A + 1)) w0 rfl
  rw [tb_nxk hA, tb_aO]
  simp only [List.append_assoc, List.cons_append, List.nil_append, List.length_cons, List.length_nil, Nat.zero_add, Nat.add_assoc, Nat.reduceAdd, nf_0, nf_1, nf_2, nf_3, nf_4, nf_5, nf_6, nf_7, nf_8, nf_9]
  rw [b_X2_init_19]
  have e := n_X5 (h := h) (s := s + 4723) (l := l ++ [.inr (2, am_fu (df 2) 0 (.ref (A + 1))), .inr (1, am_fu (am_fu (am_fu (am_fu (am_fu (am_fu (am_fu (am_fu (df 1) 0 (.ref (A + 2))) 1 (.ref (A + 4))) 2 (.ref (A + 6))) 3 (.ref (A + 7))) 4 (.int (mI 128))) 5 (.int (mI 128))) 6 (.ref (A + 8))) 7 (.ref (A + 9))), .inr (4, am_fu (df 4) 0 (.ref (A + 3))), zI 0 2209, .inr (4, am_fu (df 4) 0 (.ref (A + 5))), zI 0 2209, zI 0 8, zI 0 8, zI 0 256, zI 0 16]) (A := A + 10) (by simp only [List.length_append, List.length_cons, List.length_nil]; omega)
  simp only [List.append_assoc, List.cons_append, List.nil_append, List.length_cons, List.length_nil, Nat.zero_add, Nat.add_assoc, Nat.reduceAdd, nf_0, nf_1, nf_2, nf_3, nf_4, nf_5, nf_6, nf_7, nf_8, nf_9] at e
  rw [e, cl_n]
  clear e
  rw [b_X2_init_23 (tb_sh hA w1)]
  rw [tb_uF (k := 1) (v := .ref (A + 10)) hA w1 rfl]
theorem i_X11_init_100 : am_i m_X11_init 100 = some (100, .putfield 60, 3, [9, 12, 2], 0) := rfl
theorem i_X11_init_103 : am_i m_X11_init 103 = some (103, .aload_n 0, 1, [], 0) := rfl
theorem i_X11_init_104 : am_i m_X11_init 104 = some (104, .new 64, 3, [7], 0) := rfl
theorem b_X11_init_100 {a0 as0 as1 : Nat} {h : am_H} (s1 : sh h as1 = (5, 9)) : rn m_X11_init 100 [.ref a0] [.ref as0, .ref as1] h = rn m_X11_init 107 [.ref a0] [.ref (hnx (uF 9 h as1 12 (.ref as0))), .ref a0] (aO 7 (uF 9 h as1 12 (.ref as0))) := by
  refine (tq_putfield i_X11_init_100 s1 (okfA_9_12 (isA_ref _)) rfl).trans ?_
  refine (tq_aload_n i_X11_init_103 rfl (isA_ref _) rfl).trans ?_
  exact tq_new i_X11_init_104 rfl
theorem i_X11_init_107 : am_i m_X11_init 107 = some (107, .dup, 1, [], 0) := rfl
theorem i_X11_init_108 : am_i m_X11_init 108 = some (108, .invokespecial 66, 3, [85], 0) := rfl
theorem b_X11_init_107 {a0 as0 as1 : Nat} {h : am_H} : rn m_X11_init 107 [.ref a0] [.ref as0, .ref as1] h = cl m_X11_init 111 [.ref a0] [.ref as0, .ref as1] (rn m_X8_init 0 [.ref as0] [] h) := by
  refine (tq_dup i_X11_init_107 rfl rfl).trans ?_
  exact c_X8_init i_X11_init_108 (ltd d_X11_init (by decide)) (stOk_2 _ _) rfl
theorem i_X8_init_0 : am_i m_X8_init 0 = some (0, .aload_n 0, 1, [], 0) := rfl
theorem i_X8_init_1 : am_i m_X8_init 1 = some (1, .invokespecial 3, 3, [], 0) := rfl
theorem i_X8_init_4 : am_i m_X8_init 4 = some (4, .aload_n 0, 1, [], 0) := rfl
theorem i_X8_init_5 : am_i m_X8_init 5 = some (5, .new 9, 3, [8], 0) := rfl
theorem b_X8_init_0 {a0 : Nat} {h : am_H} : rn m_X8_init 0 [.ref a0] [] h = rn m_X8_init 8 [.ref a0] [.ref (hnx h), .ref a0] (aO 8 h) := by
  refine (tq_aload_n i_X8_init_0 rfl (isA_ref _) rfl).trans ?_
  refine (tq_init i_X8_init_1 (Nat.le_of_ble_eq_true rfl) rfl).trans ?_
  refine (tq_aload_n i_X8_init_4 rfl (isA_ref _) rfl).trans ?_
  exact tq_new i_X8_init_5 rfl
theorem i_X8_init_8 : am_i m_X8_init 8 = some (8, .dup, 1, [], 0) := rfl
theorem i_X8_init_9 : am_i m_X8_init 9 = some (9, .invokespecial 11, 3, [45], 0) := rfl
theorem b_X8_init_8 {a0 as0 as1 : Nat} {h : am_H} : rn m_X8_init 8 [.ref a0] [.ref as0, .ref as1] h = cl m_X8_init 12 [.ref a0] [.ref as0, .ref as1] (rn m_X10_init 0 [.ref as0] [] h) := by
  refine (tq_dup i_X8_init_8 rfl rfl).trans ?_
  exact c_X10_init i_X8_init_9 (ltd d_X8_init (by decide)) (stOk_2 _ _) rfl
theorem i_X10_init_0 : am_i m_X10_init 0 = some (0, .aload_n 0, 1, [], 0) := rfl
theorem i_X10_init_1 : am_i m_X10_init 1 = some (1, .invokespecial 1, 3, [], 0) := rfl
theorem i_X10_init_4 : am_i m_X10_init 4 = some (4, .aload_n 0, 1, [], 0) := rfl
theorem i_X10_init_5 : am_i m_X10_init 5 = some (5, .bipush 70, 2, [], 70) := rfl
theorem i_X10_init_7 : am_i m_X10_init 7 = some (7, .newarray .int, 2, [], 0) := rfl
theorem b_X10_init_0 {a0 : Nat} {h : am_H} : rn m_X10_init 0 [.ref a0] [] h = rn m_X10_init 9 [.ref a0] [.ref (hnx h), .ref a0] (aI 0 70 h) := by
  refine (tq_aload_n i_X10_init_0 rfl (isA_ref _) rfl).trans ?_
  refine (tq_init i_X10_init_1 (Nat.le_of_ble_eq_true rfl) rfl).trans ?_
  refine (tq_aload_n i_X10_init_4 rfl (isA_ref _) rfl).trans ?_
  refine (tq_bipush i_X10_init_5 rfl).trans ?_
  exact tq_newI (n := 70) (t := 0) i_X10_init_7 w_70 (by decide) rfl (by decide) rfl rfl
theorem i_X10_init_9 : am_i m_X10_init 9 = some (9, .putfield 9, 3, [8, 0, 2], 0) := rfl
theorem i_X10_init_12 : am_i m_X10_init 12 = some (12, .aload_n 0, 1, [], 0) := rfl
theorem i_X10_init_13 : am_i m_X10_init 13 = some (13, .sipush 4096, 3, [], 4096) := rfl
theorem i_X10_init_16 : am_i m_X10_init 16 = some (16, .newarray .int, 2, [], 0) := rfl
theorem b_X10_init_9 {a0 as0 as1 : Nat} {h : am_H} (s1 : sh h as1 = (5, 8)) : rn m_X10_init 9 [.ref a0] [.ref as0, .ref as1] h = rn m_X10_init 18 [.ref a0] [.ref (hnx (uF 8 h as1 0 (.ref as0))), .ref a0] (aI 0 4096 (uF 8 h as1 0 (.ref as0))) := by
  refine (tq_putfield i_X10_init_9 s1 (okfA_8_0 (isA_ref _)) rfl).trans ?_
  refine (tq_aload_n i_X10_init_12 rfl (isA_ref _) rfl).trans ?_
  refine (tq_sipush i_X10_init_13 rfl).trans ?_
  exact tq_newI (n := 4096) (t := 0) i_X10_init_16 w_4096 (by decide) rfl (by decide) rfl rfl
theorem i_X10_init_18 : am_i m_X10_init 18 = some (18, .putfield 13, 3, [8, 1, 2], 0) := rfl
theorem i_X10_init_21 : am_i m_X10_init 21 = some (21, .aload_n 0, 1, [], 0) := rfl
theorem i_X10_init_22 : am_i m_X10_init 22 = some (22, .iconst 0, 1, [], 0) := rfl
theorem i_X10_init_23 : am_i m_X10_init 23 = some (23, .putfield 16, 3, [8, 2, 0], 0) := rfl
theorem i_X10_init_26 : am_i m_X10_init 26 = some (26, .aload_n 0, 1, [], 0) := rfl
theorem i_X10_init_27 : am_i m_X10_init 27 = some (27, .lconst 0, 1, [], 0) := rfl
theorem i_X10_init_28 : am_i m_X10_init 28 = some (28, .putfield 20, 3, [8, 3, 0], 0) := rfl
theorem i_X10_init_31 : am_i m_X10_init 31 = some (31, .aload_n 0, 1, [], 0) := rfl
theorem i_X10_init_32 : am_i m_X10_init 32 = some (32, .ldc2_w 24, 3, [], 4294967295) := rfl
theorem i_X10_init_35 : am_i m_X10_init 35 = some (35, .putfield 26, 3, [8, 4, 0], 0) := rfl
theorem i_X10_init_38 : am_i m_X10_init 38 = some (38, .return_, 1, [], 0) := rfl
theorem b_X10_init_18 {a0 as0 as1 : Nat} {h : am_H} (s1 : sh h as1 = (5, 8)) (s2 : sh h a0 = (5, 8)) : rn m_X10_init 18 [.ref a0] [.ref as0, .ref as1] h = some (.inl none, uF 8 (uF 8 (uF 8 (uF 8 h as1 1 (.ref as0)) a0 2 (.int (mI 0))) a0 3 (.long (mL 0))) a0 4 (.long (mL 4294967295))) := by
  refine (tq_putfield i_X10_init_18 s1 (okfA_8_1 (isA_ref _)) rfl).trans ?_
  refine (tq_aload_n i_X10_init_21 rfl (isA_ref _) rfl).trans ?_
  refine (tq_iconst i_X10_init_22 rfl).trans ?_
  refine (tq_putfield i_X10_init_23 ((sh_uF _ _ _ _ _ _).trans s2) (okf_8_2 _) rfl).trans ?_
  refine (tq_aload_n i_X10_init_26 rfl (isA_ref _) rfl).trans ?_
  refine (tq_lconst i_X10_init_27 rfl).trans ?_
  refine (tq_putfield i_X10_init_28 ((sh_uF _ _ _ _ _ _).trans ((sh_uF _ _ _ _ _ _).trans s2)) (okf_8_3 _) rfl).trans ?_
  refine (tq_aload_n i_X10_init_31 rfl (isA_ref _) rfl).trans ?_
  refine (tq_ldc2_w i_X10_init_32 rfl).trans ?_
  refine (tq_putfield i_X10_init_35 ((sh_uF _ _ _ _ _ _).trans ((sh_uF _ _ _ _ _ _).trans ((sh_uF _ _ _ _ _ _).trans s2))) (okf_8_4 _) rfl).trans ?_
  exact tq_return i_X10_init_38 r_X10_init
theorem n_X10 {h : am_H} {s A : Nat} {l : List am_C} (hA : A = hnx h + l.length) : rn m_X10_init 0 [.ref A] [] (tb h s (l ++ [ob 8])) = some (.inl none, tb h (s + 4166) (l ++ [.inr (8, am_fu (am_fu (am_fu (am_fu (am_fu (df 8) 0 (.ref (A + 1))) 1 (.ref (A + 2))) 2 (.int (mI 0))) 3 (.long (mL 0))) 4 (.long (mL 4294967295))), zI 0 70, zI 0 4096])) := by
  have w0 : am_wf 8 (df 8) = true := rfl
  rw [b_X10_init_0]
  rw [tb_nxk hA, tb_aI]
  simp only [List.append_assoc, List.cons_append, List.nil_append, List.length_cons, List.length_nil, Nat.zero_add, Nat.add_assoc, Nat.reduceAdd, nf_0, nf_1, nf_2, nf_3, nf_4, nf_5, nf_6, nf_7, nf_8, nf_9]
  rw [b_X10_init_9 (tb_sh hA w0)]
  rw [tb_uF (k := 0) (v := .ref (A + 1)) hA w0 rfl]
  have w1 := am_wf_fu (k := 0) (v := .ref (A + 1)) w0 rfl
  rw [tb_nxk hA, tb_aI]
  simp only [List.append_assoc, List.cons_append, List.nil_append, List.length_cons, List.length_nil, Nat.zero_add, Nat.add_assoc, Nat.reduceAdd, nf_0, nf_1, nf_2, nf_3, nf_4, nf_5, nf_6, nf_7, nf_8, nf_9]
  rw [b_X10_init_18 (tb_sh hA w1) (tb_sh hA w1)]
  rw [tb_uF (k := 1) (v := .ref (A + 2)) hA w1 rfl]
  have w2 := am_wf_fu (k := 1) (v := .ref (A + 2)) w1 rfl
  rw [tb_uF (k := 2) (v := .int (mI 0)) hA w2 rfl]
  have w3 := am_wf_fu (k := 2) (v := .int (mI 0)) w2 rfl
  rw [tb_uF (k := 3) (v := .long (mL 0)) hA w3 rfl]
  have w4 := am_wf_fu (k := 3) (v := .long (mL 0)) w3 rfl
  rw [tb_uF (k := 4) (v := .long (mL 4294967295)) hA w4 rfl]
theorem i_X8_init_12 : am_i m_X8_init 12 = some (12, .putfield 12, 3, [7, 0, 2], 0) := rfl
theorem i_X8_init_15 : am_i m_X8_init 15 = some (15, .aload_n 0, 1, [], 0) := rfl
theorem i_X8_init_16 : am_i m_X8_init 16 = some (16, .new 9, 3, [8], 0) := rfl
theorem b_X8_init_12 {a0 as0 as1 : Nat} {h : am_H} (s1 : sh h as1 = (5, 7)) : rn m_X8_init 12 [.ref a0] [.ref as0, .ref as1] h = rn m_X8_init 19 [.ref a0] [.ref (hnx (uF 7 h as1 0 (.ref as0))), .ref a0] (aO 8 (uF 7 h as1 0 (.ref as0))) := by
  refine (tq_putfield i_X8_init_12 s1 (okfA_7_0 (isA_ref _)) rfl).trans ?_
  refine (tq_aload_n i_X8_init_15 rfl (isA_ref _) rfl).trans ?_
  exact tq_new i_X8_init_16 rfl
theorem i_X8_init_19 : am_i m_X8_init 19 = some (19, .dup, 1, [], 0) := rfl
theorem i_X8_init_20 : am_i m_X8_init 20 = some (20, .invokespecial 11, 3, [45], 0) := rfl
theorem b_X8_init_19 {a0 as0 as1 : Nat} {h : am_H} : rn m_X8_init 19 [.ref a0] [.ref as0, .ref as1] h = cl m_X8_init 23 [.ref a0] [.ref as0, .ref as1] (rn m_X10_init 0 [.ref as0] [] h) := by
  refine (tq_dup i_X8_init_19 rfl rfl).trans ?_
  exact c_X10_init i_X8_init_20 (ltd d_X8_init (by decide)) (stOk_2 _ _) rfl
theorem i_X8_init_23 : am_i m_X8_init 23 = some (23, .putfield 18, 3, [7, 1, 2], 0) := rfl
theorem i_X8_init_26 : am_i m_X8_init 26 = some (26, .aload_n 0, 1, [], 0) := rfl
theorem i_X8_init_27 : am_i m_X8_init 27 = some (27, .aload_n 0, 1, [], 0) := rfl
theorem i_X8_init_28 : am_i m_X8_init 28 = some (28, .getfield 12, 3, [7, 0, 0], 0) := rfl
theorem i_X8_init_31 : am_i m_X8_init 31 = some (31, .putfield 21, 3, [7, 2, 0], 0) := rfl
theorem i_X8_init_34 : am_i m_X8_init 34 = some (34, .aload_n 0, 1, [], 0) := rfl
theorem i_X8_init_35 : am_i m_X8_init 35 = some (35, .new 24, 3, [5], 0) := rfl
theorem b_X8_init_23 {a0 as0 as1 a0_upper : Nat} {h : am_H} (s1 : sh h as1 = (5, 7)) (s2 : sh h a0 = (5, 7)) (e3 : fA h a0 0 = some a0_upper) : rn m_X8_init 23 [.ref a0] [.ref as0, .ref as1] h = rn m_X8_init 38 [.ref a0] [.ref (hnx (uF 7 (uF 7 h as1 1 (.ref as0)) a0 2 (.ref a0_upper))), .ref a0] (aO 5 (uF 7 (uF 7 h as1 1 (.ref as0)) a0 2 (.ref a0_upper))) := by
  refine (tq_putfield i_X8_init_23 s1 (okfA_7_1 (isA_ref _)) rfl).trans ?_
  refine (tq_aload_n i_X8_init_26 rfl (isA_ref _) rfl).trans ?_
  refine (tq_aload_n i_X8_init_27 rfl (isA_ref _) rfl).trans ?_
  refine (tq_getfield i_X8_init_28 ((sh_uF _ _ _ _ _ _).trans s2) (gR ((g_7_0 ((sh_uF _ _ _ _ _ _).trans s2)).trans (congrArg am_rv (fA_uF_nk s1 (okfA_7_1 (isA_ref _)) (by decide)))) e3) (isV_ref _) rfl).trans ?_
  refine (tq_putfield i_X8_init_31 ((sh_uF _ _ _ _ _ _).trans s2) (okfA_7_2 (isA_ref _)) rfl).trans ?_
  refine (tq_aload_n i_X8_init_34 rfl (isA_ref _) rfl).trans ?_
  exact tq_new i_X8_init_35 rfl
theorem i_X8_init_38 : am_i m_X8_init 38 = some (38, .dup, 1, [], 0) := rfl
theorem i_X8_init_39 : am_i m_X8_init 39 = some (39, .invokespecial 26, 3, [64], 0) := rfl
theorem b_X8_init_38 {v0 : Value} {as0 as1 : Nat} {h : am_H} : rn m_X8_init 38 [v0] [.ref as0, .ref as1] h = cl m_X8_init 42 [v0] [.ref as0, .ref as1] (rn m_X5_init 0 [.ref as0] [] h) := by
  refine (tq_dup i_X8_init_38 rfl rfl).trans ?_
  exact c_X5_init i_X8_init_39 (ltd d_X8_init (by decide)) (stOk_2 _ _) rfl
theorem i_X8_init_42 : am_i m_X8_init 42 = some (42, .putfield 27, 3, [7, 3, 2], 0) := rfl
theorem i_X8_init_45 : am_i m_X8_init 45 = some (45, .return_, 1, [], 0) := rfl
theorem b_X8_init_42 {v0 : Value} {as0 as1 : Nat} {h : am_H} (s1 : sh h as1 = (5, 7)) : rn m_X8_init 42 [v0] [.ref as0, .ref as1] h = some (.inl none, uF 7 h as1 3 (.ref as0)) := by
  refine (tq_putfield i_X8_init_42 s1 (okfA_7_3 (isA_ref _)) rfl).trans ?_
  exact tq_return i_X8_init_45 r_X8_init
theorem n_X8 {h : am_H} {s A : Nat} {l : List am_C} (hA : A = hnx h + l.length) : rn m_X8_init 0 [.ref A] [] (tb h s (l ++ [ob 7])) = some (.inl none, tb h (s + 8349) (l ++ [.inr (7, am_fu (am_fu (am_fu (am_fu (df 7) 0 (.ref (A + 1))) 1 (.ref (A + 4))) 2 (.ref (A + 1))) 3 (.ref (A + 7))), .inr (8, am_fu (am_fu (am_fu (am_fu (am_fu (df 8) 0 (.ref (A + 2))) 1 (.ref (A + 3))) 2 (.int (mI 0))) 3 (.long (mL 0))) 4 (.long (mL 4294967295))), zI 0 70, zI 0 4096, .inr (8, am_fu (am_fu (am_fu (am_fu (am_fu (df 8) 0 (.ref (A + 5))) 1 (.ref (A + 6))) 2 (.int (mI 0))) 3 (.long (mL 0))) 4 (.long (mL 4294967295))), zI 0 70, zI 0 4096, .inr (5, am_fu (am_fu (am_fu (am_fu (am_fu (am_fu (am_fu (df 5) 0 (.int (mI 0))) 1 (.int (mI 0))) 2 (.int (mI 8))) 3 (.int (mI 0))) 4 (.int (mI 0))) 5 (.int (mI (-1)))) 6 (.int (mI (-1))))])) := by
  have w0 : am_wf 7 (df 7) = true := rfl
  rw [b_X8_init_0]
  rw [tb_nxk hA, tb_aO]
  simp only [List.append_assoc, List.cons_append, List.nil_append, List.length_cons, List.length_nil, Nat.zero_add, Nat.add_assoc, Nat.reduceAdd, nf_0, nf_1, nf_2, nf_3, nf_4, nf_5, nf_6, nf_7, nf_8, nf_9]
  rw [b_X8_init_8]
  have e := n_X10 (h := h) (s := s + 5) (l := l ++ [ob 7]) (A := A + 1) (by simp only [List.length_append, List.length_cons, List.length_nil]; omega)
  simp only [List.append_assoc, List.cons_append, List.nil_append, List.length_cons, List.length_nil, Nat.zero_add, Nat.add_assoc, Nat.reduceAdd, nf_0, nf_1, nf_2, nf_3, nf_4, nf_5, nf_6, nf_7, nf_8, nf_9] at e
  rw [e, cl_n]
  clear e
  rw [b_X8_init_12 (tb_sh hA w0)]
  rw [tb_uF (k := 0) (v := .ref (A + 1)) hA w0 rfl]
  have w1 := am_wf_fu (k := 0) (v := .ref (A + 1)) w0 rfl
  rw [tb_nxk hA, tb_aO]
  simp only [List.append_assoc, List.cons_append, List.nil_append, List.length_cons, List.length_nil, Nat.zero_add, Nat.add_assoc, Nat.reduceAdd, nf_0, nf_1, nf_2, nf_3, nf_4, nf_5, nf_6, nf_7, nf_8, nf_9]
  rw [b_X8_init_19]
  have e := n_X10 (h := h) (s := s + 4176) (l := l ++ [.inr (7, am_fu (df 7) 0 (.ref (A + 1))), .inr (8, am_fu (am_fu (am_fu (am_fu (am_fu (df 8) 0 (.ref (A + 2))) 1 (.ref (A + 3))) 2 (.int (mI 0))) 3 (.long (mL 0))) 4 (.long (mL 4294967295))), zI 0 70, zI 0 4096]) (A := A + 4) (by simp only [List.length_append, List.length_cons, List.length_nil]; omega)
  simp only [List.append_assoc, List.cons_append, List.nil_append, List.length_cons, List.length_nil, Nat.zero_add, Nat.add_assoc, Nat.reduceAdd, nf_0, nf_1, nf_2, nf_3, nf_4, nf_5, nf_6, nf_7, nf_8, nf_9] at e
  rw [e, cl_n]
  clear e
  rw [b_X8_init_23 (tb_sh hA w1) (tb_sh hA w1) ((tb_fA hA).trans rfl)]
  rw [tb_uF (k := 1) (v := .ref (A + 4)) hA w1 rfl]
  have w2 := am_wf_fu (k := 1) (v := .ref (A + 4)) w1 rfl
  rw [tb_uF (k := 2) (v := .ref (A + 1)) hA w2 rfl]
  have w3 := am_wf_fu (k := 2) (v := .ref (A + 1)) w2 rfl
  rw [tb_nxk hA, tb_aO]
  simp only [List.append_assoc, List.cons_append, List.nil_append, List.length_cons, List.length_nil, Nat.zero_add, Nat.add_assoc, Nat.reduceAdd, nf_0, nf_1, nf_2, nf_3, nf_4, nf_5, nf_6, nf_7, nf_8, nf_9]
  rw [b_X8_init_38]
  have e := n_X5 (h := h) (s := s + 8349) (l := l ++ [.inr (7, am_fu (am_fu (am_fu (df 7) 0 (.ref (A + 1))) 1 (.ref (A + 4))) 2 (.ref (A + 1))), .inr (8, am_fu (am_fu (am_fu (am_fu (am_fu (df 8) 0 (.ref (A + 2))) 1 (.ref (A + 3))) 2 (.int (mI 0))) 3 (.long (mL 0))) 4 (.long (mL 4294967295))), zI 0 70, zI 0 4096, .inr (8, am_fu (am_fu (am_fu (am_fu (am_fu (df 8) 0 (.ref (A + 5))) 1 (.ref (A + 6))) 2 (.int (mI 0))) 3 (.long (mL 0))) 4 (.long (mL 4294967295))), zI 0 70, zI 0 4096]) (A := A + 7) (by simp only [List.length_append, List.length_cons, List.length_nil]; omega)
  simp only [List.append_assoc, List.cons_append, List.nil_append, List.length_cons, List.length_nil, Nat.zero_add, Nat.add_assoc, Nat.reduceAdd, nf_0, nf_1, nf_2, nf_3, nf_4, nf_5, nf_6, nf_7, nf_8, nf_9] at e
  rw [e, cl_n]
  clear e
  rw [b_X8_init_42 (tb_sh hA w3)]
  rw [tb_uF (k := 3) (v := .ref (A + 7)) hA w3 rfl]
theorem i_X11_init_111 : am_i m_X11_init 111 = some (111, .putfield 67, 3, [9, 13, 2], 0) := rfl
theorem i_X11_init_114 : am_i m_X11_init 114 = some (114, .aload_n 0, 1, [], 0) := rfl
theorem i_X11_init_115 : am_i m_X11_init 115 = some (115, .new 71, 3, [3], 0) := rfl
theorem b_X11_init_111 {a0 as0 as1 : Nat} {h : am_H} (s1 : sh h as1 = (5, 9)) : rn m_X11_init 111 [.ref a0] [.ref as0, .ref as1] h = rn m_X11_init 118 [.ref a0] [.ref (hnx (uF 9 h as1 13 (.ref as0))), .ref a0] (aO 3 (uF 9 h as1 13 (.ref as0))) := by
  refine (tq_putfield i_X11_init_111 s1 (okfA_9_13 (isA_ref _)) rfl).trans ?_
  refine (tq_aload_n i_X11_init_114 rfl (isA_ref _) rfl).trans ?_
  exact tq_new i_X11_init_115 rfl
theorem i_X11_init_118 : am_i m_X11_init 118 = some (118, .dup, 1, [], 0) := rfl
theorem i_X11_init_119 : am_i m_X11_init 119 = some (119, .invokespecial 73, 3, [94], 0) := rfl
theorem b_X11_init_118 {a0 as0 as1 : Nat} {h : am_H} : rn m_X11_init 118 [.ref a0] [.ref as0, .ref as1] h = cl m_X11_init 122 [.ref a0] [.ref as0, .ref as1] (rn m_X3_init 0 [.ref as0] [] h) := by
  refine (tq_dup i_X11_init_118 rfl rfl).trans ?_
  exact c_X3_init i_X11_init_119 (ltd d_X11_init (by decide)) (stOk_2 _ _) rfl
theorem i_X3_init_0 : am_i m_X3_init 0 = some (0, .aload_n 0, 1, [], 0) := rfl
theorem i_X3_init_1 : am_i m_X3_init 1 = some (1, .invokespecial 3, 3, [], 0) := rfl
theorem i_X3_init_4 : am_i m_X3_init 4 = some (4, .aload_n 0, 1, [], 0) := rfl
theorem i_X3_init_5 : am_i m_X3_init 5 = some (5, .new 9, 3, [1], 0) := rfl
theorem b_X3_init_0 {a0 : Nat} {h : am_H} : rn m_X3_init 0 [.ref a0] [] h = rn m_X3_init 8 [.ref a0] [.ref (hnx h), .ref a0] (aO 1 h) := by
  refine (tq_aload_n i_X3_init_0 rfl (isA_ref _) rfl).trans ?_
  refine (tq_init i_X3_init_1 (Nat.le_of_ble_eq_true rfl) rfl).trans ?_
  refine (tq_aload_n i_X3_init_4 rfl (isA_ref _) rfl).trans ?_
  exact tq_new i_X3_init_5 rfl
theorem i_X3_init_8 : am_i m_X3_init 8 = some (8, .dup, 1, [], 0) := rfl
theorem i_X3_init_9 : am_i m_X3_init 9 = some (9, .invokespecial 11, 3, [76], 0) := rfl
theorem b_X3_init_8 {a0 as0 as1 : Nat} {h : am_H} : rn m_X3_init 8 [.ref a0] [.ref as0, .ref as1] h = cl m_X3_init 12 [.ref a0] [.ref as0, .ref as1] (rn m_X1_init 0 [.ref as0] [] h) := by
  refine (tq_dup i_X3_init_8 rfl rfl).trans ?_
  exact c_X1_init i_X3_init_9 (ltd d_X3_init (by decide)) (stOk_2 _ _) rfl
theorem i_X3_init_12 : am_i m_X3_init 12 = some (12, .putfield 12, 3, [3, 0, 2], 0) := rfl
theorem i_X3_init_15 : am_i m_X3_init 15 = some (15, .aload_n 0, 1, [], 0) := rfl
theorem i_X3_init_16 : am_i m_X3_init 16 = some (16, .new 18, 3, [5], 0) := rfl
theorem b_X3_init_12 {a0 as0 as1 : Nat} {h : am_H} (s1 : sh h as1 = (5, 3)) : rn m_X3_init 12 [.ref a0] [.ref as0, .ref as1] h = rn m_X3_init 19 [.ref a0] [.ref (hnx (uF 3 h as1 0 (.ref as0))), .ref a0] (aO 5 (uF 3 h as1 0 (.ref as0))) := by
  refine (tq_putfield i_X3_init_12 s1 (okfA_3_0 (isA_ref _)) rfl).trans ?_
  refine (tq_aload_n i_X3_init_15 rfl (isA_ref _) rfl).trans ?_
  exact tq_new i_X3_init_16 rfl
theorem i_X3_init_19 : am_i m_X3_init 19 = some (19, .dup, 1, [], 0) := rfl
theorem i_X3_init_20 : am_i m_X3_init 20 = some (20, .invokespecial 20, 3, [64], 0) := rfl
theorem b_X3_init_19 {a0 as0 as1 : Nat} {h : am_H} : rn m_X3_init 19 [.ref a0] [.ref as0, .ref as1] h = cl m_X3_init 23 [.ref a0] [.ref as0, .ref as1] (rn m_X5_init 0 [.ref as0] [] h) := by
  refine (tq_dup i_X3_init_19 rfl rfl).trans ?_
  exact c_X5_init i_X3_init_20 (ltd d_X3_init (by decide)) (stOk_2 _ _) rfl
theorem i_X3_init_23 : am_i m_X3_init 23 = some (23, .putfield 21, 3, [3, 1, 2], 0) := rfl
theorem i_X3_init_26 : am_i m_X3_init 26 = some (26, .aload_n 0, 1, [], 0) := rfl
theorem i_X3_init_27 : am_i m_X3_init 27 = some (27, .sipush 256, 3, [], 256) := rfl
theorem i_X3_init_30 : am_i m_X3_init 30 = some (30, .newarray .int, 2, [], 0) := rfl
theorem b_X3_init_23 {a0 as0 as1 : Nat} {h : am_H} (s1 : sh h as1 = (5, 3)) : rn m_X3_init 23 [.ref a0] [.ref as0, .ref as1] h = rn m_X3_init 32 [.ref a0] [.ref (hnx (uF 3 h as1 1 (.ref as0))), .ref a0] (aI 0 256 (uF 3 h as1 1 (.ref as0))) := by
  refine (tq_putfield i_X3_init_23 s1 (okfA_3_1 (isA_ref _)) rfl).trans ?_
  refine (tq_aload_n i_X3_init_26 rfl (isA_ref _) rfl).trans ?_
  refine (tq_sipush i_X3_init_27 rfl).trans ?_
  exact tq_newI (n := 256) (t := 0) i_X3_init_30 w_256 (by decide) rfl (by decide) rfl rfl
theorem i_X3_init_32 : am_i m_X3_init 32 = some (32, .putfield 25, 3, [3, 2, 2], 0) := rfl
theorem i_X3_init_35 : am_i m_X3_init 35 = some (35, .aload_n 0, 1, [], 0) := rfl
theorem i_X3_init_36 : am_i m_X3_init 36 = some (36, .iconst 0, 1, [], 0) := rfl
theorem i_X3_init_37 : am_i m_X3_init 37 = some (37, .putfield 29, 3, [3, 3, 0], 0) := rfl
theorem i_X3_init_40 : am_i m_X3_init 40 = some (40, .aload_n 0, 1, [], 0) := rfl
theorem i_X3_init_41 : am_i m_X3_init 41 = some (41, .iconst (-1), 1, [], -1) := rfl
theorem i_X3_init_42 : am_i m_X3_init 42 = some (42, .putfield 33, 3, [3, 4, 0], 0) := rfl
theorem i_X3_init_45 : am_i m_X3_init 45 = some (45, .aload_n 0, 1, [], 0) := rfl
theorem i_X3_init_46 : am_i m_X3_init 46 = some (46, .iconst 0, 1, [], 0) := rfl
theorem i_X3_init_47 : am_i m_X3_init 47 = some (47, .putfield 36, 3, [3, 5, 0], 0) := rfl
theorem i_X3_init_50 : am_i m_X3_init 50 = some (50, .aload_n 0, 1, [], 0) := rfl
theorem i_X3_init_51 : am_i m_X3_init 51 = some (51, .sipush 256, 3, [], 256) := rfl
theorem i_X3_init_54 : am_i m_X3_init 54 = some (54, .newarray .int, 2, [], 0) := rfl
theorem b_X3_init_32 {a0 as0 as1 : Nat} {h : am_H} (s1 : sh h as1 = (5, 3)) (s2 : sh h a0 = (5, 3)) : rn m_X3_init 32 [.ref a0] [.ref as0, .ref as1] h = rn m_X3_init 56 [.ref a0] [.ref (hnx (uF 3 (uF 3 (uF 3 (uF 3 h as1 2 (.ref as0)) a0 3 (.int (mI 0))) a0 4 (.int (mI (-1)))) a0 5 (.int (mI 0)))), .ref a0] (aI 0 256 (uF 3 (uF 3 (uF 3 (uF 3 h as1 2 (.ref as0)) a0 3 (.int (mI 0))) a0 4 (.int (mI (-1)))) a0 5 (.int (mI 0)))) := by
  refine (tq_putfield i_X3_init_32 s1 (okfA_3_2 (isA_ref _)) rfl).trans ?_
  refine (tq_aload_n i_X3_init_35 rfl (isA_ref _) rfl).trans ?_
  refine (tq_iconst i_X3_init_36 rfl).trans ?_
  refine (tq_putfield i_X3_init_37 ((sh_uF _ _ _ _ _ _).trans s2) (okf_3_3 _) rfl).trans ?_
  refine (tq_aload_n i_X3_init_40 rfl (isA_ref _) rfl).trans ?_
  refine (tq_iconst i_X3_init_41 rfl).trans ?_
  refine (tq_putfield i_X3_init_42 ((sh_uF _ _ _ _ _ _).trans ((sh_uF _ _ _ _ _ _).trans s2)) (okf_3_4 _) rfl).trans ?_
  refine (tq_aload_n i_X3_init_45 rfl (isA_ref _) rfl).trans ?_
  refine (tq_iconst i_X3_init_46 rfl).trans ?_
  refine (tq_putfield i_X3_init_47 ((sh_uF _ _ _ _ _ _).trans ((sh_uF _ _ _ _ _ _).trans ((sh_uF _ _ _ _ _ _).trans s2))) (okfB_3_5 w_0 (by decide)) rfl).trans ?_
  refine (tq_aload_n i_X3_init_50 rfl (isA_ref _) rfl).trans ?_
  refine (tq_sipush i_X3_init_51 rfl).trans ?_
  exact tq_newI (n := 256) (t := 0) i_X3_init_54 w_256 (by decide) rfl (by decide) rfl rfl
theorem i_X3_init_56 : am_i m_X3_init 56 = some (56, .putfield 40, 3, [3, 6, 2], 0) := rfl
theorem i_X3_init_59 : am_i m_X3_init 59 = some (59, .aload_n 0, 1, [], 0) := rfl
theorem i_X3_init_60 : am_i m_X3_init 60 = some (60, .iconst 0, 1, [], 0) := rfl
theorem i_X3_init_61 : am_i m_X3_init 61 = some (61, .putfield 43, 3, [3, 7, 0], 0) := rfl
theorem i_X3_init_64 : am_i m_X3_init 64 = some (64, .aload_n 0, 1, [], 0) := rfl
theorem i_X3_init_65 : am_i m_X3_init 65 = some (65, .sipush 768, 3, [], 768) := rfl
theorem i_X3_init_68 : am_i m_X3_init 68 = some (68, .newarray .int, 2, [], 0) := rfl
theorem b_X3_init_56 {a0 as0 as1 : Nat} {h : am_H} (s1 : sh h as1 = (5, 3)) (s2 : sh h a0 = (5, 3)) : rn m_X3_init 56 [.ref a0] [.ref as0, .ref as1] h = rn m_X3_init 70 [.ref a0] [.ref (hnx (uF 3 (uF 3 h as1 6 (.ref as0)) a0 7 (.int (mI 0)))), .ref a0] (aI 0 768 (uF 3 (uF 3 h as1 6 (.ref as0)) a0 7 (.int (mI 0)))) := by
  refine (tq_putfield i_X3_init_56 s1 (okfA_3_6 (isA_ref _)) rfl).trans ?_
  refine (tq_aload_n i_X3_init_59 rfl (isA_ref _) rfl).trans ?_
  refine (tq_iconst i_X3_init_60 rfl).trans ?_
  refine (tq_putfield i_X3_init_61 ((sh_uF _ _ _ _ _ _).trans s2) (okf_3_7 _) rfl).trans ?_
  refine (tq_aload_n i_X3_init_64 rfl (isA_ref _) rfl).trans ?_
  refine (tq_sipush i_X3_init_65 rfl).trans ?_
  exact tq_newI (n := 768) (t := 0) i_X3_init_68 w_768 (by decide) rfl (by decide) rfl rfl
theorem i_X3_init_70 : am_i m_X3_init 70 = some (70, .putfield 46, 3, [3, 8, 2], 0) := rfl
theorem i_X3_init_73 : am_i m_X3_init 73 = some (73, .aload_n 0, 1, [], 0) := rfl
theorem i_X3_init_74 : am_i m_X3_init 74 = some (74, .iconst 3, 1, [], 3) := rfl
theorem i_X3_init_75 : am_i m_X3_init 75 = some (75, .newarray .int, 2, [], 0) := rfl
theorem b_X3_init_70 {a0 as0 as1 : Nat} {h : am_H} (s1 : sh h as1 = (5, 3)) : rn m_X3_init 70 [.ref a0] [.ref as0, .ref as1] h = rn m_X3_init 77 [.ref a0] [.ref (hnx (uF 3 h as1 8 (.ref as0))), .ref a0] (aI 0 3 (uF 3 h as1 8 (.ref as0))) := by
  refine (tq_putfield i_X3_init_70 s1 (okfA_3_8 (isA_ref _)) rfl).trans ?_
  refine (tq_aload_n i_X3_init_73 rfl (isA_ref _) rfl).trans ?_
  refine (tq_iconst i_X3_init_74 rfl).trans ?_
  exact tq_newI (n := 3) (t := 0) i_X3_init_75 w_3 (by decide) rfl (by decide) rfl rfl
theorem i_X3_init_77 : am_i m_X3_init 77 = some (77, .putfield 49, 3, [3, 9, 2], 0) := rfl
theorem i_X3_init_80 : am_i m_X3_init 80 = some (80, .aload_n 0, 1, [], 0) := rfl
theorem i_X3_init_81 : am_i m_X3_init 81 = some (81, .iconst 0, 1, [], 0) := rfl
theorem i_X3_init_82 : am_i m_X3_init 82 = some (82, .putfield 52, 3, [3, 10, 0], 0) := rfl
theorem i_X3_init_85 : am_i m_X3_init 85 = some (85, .aload_n 0, 1, [], 0) := rfl
theorem i_X3_init_86 : am_i m_X3_init 86 = some (86, .iconst 0, 1, [], 0) := rfl
theorem i_X3_init_87 : am_i m_X3_init 87 = some (87, .putfield 55, 3, [3, 11, 0], 0) := rfl
theorem i_X3_init_90 : am_i m_X3_init 90 = some (90, .return_, 1, [], 0) := rfl
theorem b_X3_init_77 {a0 as0 as1 : Nat} {h : am_H} (s1 : sh h as1 = (5, 3)) (s2 : sh h a0 = (5, 3)) : rn m_X3_init 77 [.ref a0] [.ref as0, .ref as1] h = some (.inl none, uF 3 (uF 3 (uF 3 h as1 9 (.ref as0)) a0 10 (.int (mI 0))) a0 11 (.int (mI 0))) := by
  refine (tq_putfield i_X3_init_77 s1 (okfA_3_9 (isA_ref _)) rfl).trans ?_
  refine (tq_aload_n i_X3_init_80 rfl (isA_ref _) rfl).trans ?_
  refine (tq_iconst i_X3_init_81 rfl).trans ?_
  refine (tq_putfield i_X3_init_82 ((sh_uF _ _ _ _ _ _).trans s2) (okf_3_10 _) rfl).trans ?_
  refine (tq_aload_n i_X3_init_85 rfl (isA_ref _) rfl).trans ?_
  refine (tq_iconst i_X3_init_86 rfl).trans ?_
  refine (tq_putfield i_X3_init_87 ((sh_uF _ _ _ _ _ _).trans ((sh_uF _ _ _ _ _ _).trans s2)) (okf_3_11 _) rfl).trans ?_
  exact tq_return i_X3_init_90 r_X3_init
theorem n_X3 {h : am_H} {s A : Nat} {l : List am_C} (hA : A = hnx h + l.length) : rn m_X3_init 0 [.ref A] [] (tb h s (l ++ [ob 3])) = some (.inl none, tb h (s + 6006) (l ++ [.inr (3, am_fu (am_fu (am_fu (am_fu (am_fu (am_fu (am_fu (am_fu (am_fu (am_fu (am_fu (am_fu (df 3) 0 (.ref (A + 1))) 1 (.ref (A + 10))) 2 (.ref (A + 11))) 3 (.int (mI 0))) 4 (.int (mI (-1)))) 5 (.int (mI 0))) 6 (.ref (A + 12))) 7 (.int (mI 0))) 8 (.ref (A + 13))) 9 (.ref (A + 14))) 10 (.int (mI 0))) 11 (.int (mI 0))), .inr (1, am_fu (am_fu (am_fu (am_fu (am_fu (am_fu (am_fu (am_fu (df 1) 0 (.ref (A + 2))) 1 (.ref (A + 4))) 2 (.ref (A + 6))) 3 (.ref (A + 7))) 4 (.int (mI 128))) 5 (.int (mI 128))) 6 (.ref (A + 8))) 7 (.ref (A + 9))), .inr (4, am_fu (df 4) 0 (.ref (A + 3))), zI 0 2209, .inr (4, am_fu (df 4) 0 (.ref (A + 5))), zI 0 2209, zI 0 8, zI 0 8, zI 0 256, zI 0 16, .inr (5, am_fu (am_fu (am_fu (am_fu (am_fu (am_fu (am_fu (df 5) 0 (.int (mI 0))) 1 (.int (mI 0))) 2 (.int (mI 8))) 3 (.int (mI 0))) 4 (.int (mI 0))) 5 (.int (mI (-1)))) 6 (.int (mI (-1)))), zI 0 256, zI 0 256, zI 0 768, zI 0 3])) := by
  have w0 : am_wf 3 (df 3) = true := rfl
  rw [b_X3_init_0]
  rw [tb_nxk hA, tb_aO]
  simp only [List.append_assoc, List.cons_append, List.nil_append, List.length_cons, List.length_nil, Nat.zero_add, Nat.add_assoc, Nat.reduceAdd, nf_0, nf_1, nf_2, nf_3, nf_4, nf_5, nf_6, nf_7, nf_8, nf_9]
  rw [b_X3_init_8]
  have e := n_X1 (h := h) (s := s + 8) (l := l ++ [ob 3]) (A := A + 1) (by simp only [List.length_append, List.length_cons, List.length_nil]; omega)
  simp only [List.append_assoc, List.cons_append, List.nil_append, List.length_cons, List.length_nil, Nat.zero_add, Nat.add_assoc, Nat.reduceAdd, nf_0, nf_1, nf_2, nf_3, nf_4, nf_5, nf_6, nf_7, nf_8, nf_9] at e
  rw [e, cl_n]
  clear e
  rw [b_X3_init_12 (tb_sh hA w0)]
  rw [tb_uF (k := 0) (v := .ref (A + 1)) hA w0 rfl]
  have w1 := am_wf_fu (k := 0) (v := .ref (A + 1)) w0 rfl
  rw [tb_nxk hA, tb_aO]
  simp only [List.append_assoc, List.cons_append, List.nil_append, List.length_cons, List.length_nil, Nat.zero_add, Nat.add_assoc, Nat.reduceAdd, nf_0, nf_1, nf_2, nf_3, nf_4, nf_5, nf_6, nf_7, nf_8, nf_9]
  rw [b_X3_init_19]
  have e := n_X5 (h := h) (s := s + 4723) (l := l ++ [.inr (3, am_fu (df 3) 0 (.ref (A + 1))), .inr (1, am_fu (am_fu (am_fu (am_fu (am_fu (am_fu (am_fu (am_fu (df 1) 0 (.ref (A + 2))) 1 (.ref (A + 4))) 2 (.ref (A + 6))) 3 (.ref (A + 7))) 4 (.int (mI 128))) 5 (.int (mI 128))) 6 (.ref (A + 8))) 7 (.ref (A + 9))), .inr (4, am_fu (df 4) 0 (.ref (A + 3))), zI 0 2209, .inr (4, am_fu (df 4) 0 (.ref (A + 5))), zI 0 2209, zI 0 8, zI 0 8, zI 0 256, zI 0 16]) (A := A + 10) (by simp only [List.length_append, List.length_cons, List.length_nil]; omega)
  simp only [List.append_assoc, List.cons_append, List.nil_append, List.length_cons, List.length_nil, Nat.zero_add, Nat.add_assoc, Nat.reduceAdd, nf_0, nf_1, nf_2, nf_3, nf_4, nf_5, nf_6, nf_7, nf_8, nf_9] at e
  rw [e, cl_n]
  clear e
  rw [b_X3_init_23 (tb_sh hA w1)]
  rw [tb_uF (k := 1) (v := .ref (A + 10)) hA w1 rfl]
  have w2 := am_wf_fu (k := 1) (v := .ref (A + 10)) w1 rfl
  rw [tb_nxk hA, tb_aI]
  simp only [List.append_assoc, List.cons_append, List.nil_append, List.length_cons, List.length_nil, Nat.zero_add, Nat.add_assoc, Nat.reduceAdd, nf_0, nf_1, nf_2, nf_3, nf_4, nf_5, nf_6, nf_7, nf_8, nf_9]
  rw [b_X3_init_32 (tb_sh hA w2) (tb_sh hA w2)]
  rw [tb_uF (k := 2) (v := .ref (A + 11)) hA w2 rfl]
  have w3 := am_wf_fu (k := 2) (v := .ref (A + 11)) w2 rfl
  rw [tb_uF (k := 3) (v := .int (mI 0)) hA w3 rfl]
  have w4 := am_wf_fu (k := 3) (v := .int (mI 0)) w3 rfl
  rw [tb_uF (k := 4) (v := .int (mI (-1))) hA w4 rfl]
  have w5 := am_wf_fu (k := 4) (v := .int (mI (-1))) w4 rfl
  rw [tb_uF (k := 5) (v := .int (mI 0)) hA w5 rfl]
  have w6 := am_wf_fu (k := 5) (v := .int (mI 0)) w5 rfl
  rw [tb_nxk hA, tb_aI]
  simp only [List.append_assoc, List.cons_append, List.nil_append, List.length_cons, List.length_nil, Nat.zero_add, Nat.add_assoc, Nat.reduceAdd, nf_0, nf_1, nf_2, nf_3, nf_4, nf_5, nf_6, nf_7, nf_8, nf_9]
  rw [b_X3_init_56 (tb_sh hA w6) (tb_sh hA w6)]
  rw [tb_uF (k := 6) (v := .ref (A + 12)) hA w6 rfl]
  have w7 := am_wf_fu (k := 6) (v := .ref (A + 12)) w6 rfl
  rw [tb_uF (k := 7) (v := .int (mI 0)) hA w7 rfl]
  have w8 := am_wf_fu (k := 7) (v := .int (mI 0)) w7 rfl
  rw [tb_nxk hA, tb_aI]
  simp only [List.append_assoc, List.cons_append, List.nil_append, List.length_cons, List.length_nil, Nat.zero_add, Nat.add_assoc, Nat.reduceAdd, nf_0, nf_1, nf_2, nf_3, nf_4, nf_5, nf_6, nf_7, nf_8, nf_9]
  rw [b_X3_init_70 (tb_sh hA w8)]
  rw [tb_uF (k := 8) (v := .ref (A + 13)) hA w8 rfl]
  have w9 := am_wf_fu (k := 8) (v := .ref (A + 13)) w8 rfl
  rw [tb_nxk hA, tb_aI]
  simp only [List.append_assoc, List.cons_append, List.nil_append, List.length_cons, List.length_nil, Nat.zero_add, Nat.add_assoc, Nat.reduceAdd, nf_0, nf_1, nf_2, nf_3, nf_4, nf_5, nf_6, nf_7, nf_8, nf_9]
  rw [b_X3_init_77 (tb_sh hA w9) (tb_sh hA w9)]
  rw [tb_uF (k := 9) (v := .ref (A + 14)) hA w9 rfl]
  have w10 := am_wf_fu (k := 9) (v := .ref (A + 14)) w9 rfl
  rw [tb_uF (k := 10) (v := .int (mI 0)) hA w10 rfl]
  have w11 := am_wf_fu (k := 10) (v := .int (mI 0)) w10 rfl
  rw [tb_uF (k := 11) (v := .int (mI 0)) hA w11 rfl]
theorem i_X11_init_122 : am_i m_X11_init 122 = some (122, .putfield 74, 3, [9, 14, 2], 0) := rfl
theorem i_X11_init_125 : am_i m_X11_init 125 = some (125, .aload_n 0, 1, [], 0) := rfl
theorem i_X11_init_126 : am_i m_X11_init 126 = some (126, .getfield 74, 3, [9, 14, 0], 0) := rfl
theorem i_X11_init_129 : am_i m_X11_init 129 = some (129, .iconst 0, 1, [], 0) := rfl
theorem i_X11_init_130 : am_i m_X11_init 130 = some (130, .invokevirtual 78, 3, [59, 3], 0) := rfl
theorem b_X11_init_122' {a0 as0 : Nat} {h : am_H} (s2 : sh h a0 = (5, 9)) (s5 : sh h as0 = (5, 3)) : rn m_X11_init 122 [.ref a0] [.ref as0, .ref a0] h = cl m_X11_init 133 [.ref a0] [] (rn m_X3_startAt 0 [.ref as0, .int (mI 0)] [] (uF 9 h a0 14 (.ref as0))) := by
  refine (tq_putfield i_X11_init_122 s2 (okfA_9_14 (isA_ref _)) rfl).trans ?_
  refine (tq_aload_n i_X11_init_125 rfl (isA_ref _) rfl).trans ?_
  refine (tq_getfield i_X11_init_126 ((sh_uF _ _ _ _ _ _).trans s2) (gR (g_9_14 ((sh_uF _ _ _ _ _ _).trans s2)) (fA_uF_eq (r := some as0) s2 (okfA_9_14 (isA_ref _)))) (isV_ref _) rfl).trans ?_
  refine (tq_iconst i_X11_init_129 rfl).trans ?_
  exact c_X3_startAt i_X11_init_130 ((sh_uF _ _ _ _ _ _).trans s5) (ltd d_X11_init (by decide)) stOk_0 rfl
theorem n_X11 {h : am_H} {s A : Nat} {l : List am_C} (hA : A = hnx h + l.length) : rn m_X11_init 0 [.ref A] [] (tb h s (l ++ [ob 9])) = cl m_X11_init 133 [.ref A] [] (rn m_X3_startAt 0 [.ref (A + 34), .int (mI 0)] [] (tb h (s + 20218) (l ++ [.inr (9, am_fu (am_fu (am_fu (am_fu (am_fu (am_fu (am_fu (am_fu (am_fu (am_fu (am_fu (am_fu (am_fu (am_fu (am_fu (df 9) 0 (.ref (A + 1))) 1 (.ref (A + 2))) 2 (.int (mI 8))) 3 (.int (mI 7))) 4 (.int (mI 1))) 5 (.int (mI 1))) 6 (.ref (A + 3))) 7 (.ref (A + 4))) 8 (.int (mI 0))) 9 (.ref (A + 5))) 10 (.ref (A + 14))) 11 (.int (mI 0))) 12 (.ref (A + 15))) 13 (.ref (A + 26))) 14 (.ref (A + 34))), zI 0 256, zI 0 256, .inr (0, am_fu (am_fu (am_fu (df 0) 0 (.int (mI 0))) 1 (.int (mI 0))) 2 (.int (mI 0))), zA 5 12, .inr (6, am_fu (am_fu (am_fu (am_fu (am_fu (am_fu (am_fu (am_fu (am_fu (am_fu (am_fu (am_fu (am_fu (am_fu (am_fu (am_fu (df 6) 0 (.int (mI 105))) 1 (.int (mI 0))) 2 (.int (mI 0))) 3 (.int (mI 1))) 4 (.int (mI 0))) 5 (.int (mI 1))) 6 (.int (mI 0))) 7 (.long (mL 0))) 8 (.ref (A + 6))) 9 (.ref (A + 7))) 10 (.ref (A + 8))) 11 (.ref (A + 9))) 12 (.ref (A + 10))) 13 (.ref (A + 11))) 14 (.ref (A + 12))) 15 (.ref (A + 13))), zI 0 0, zI 0 0, zI 0 16, zI 0 16, zI 0 16, zI 0 16, zI 0 256, zI 0 256, zI 0 3, .inr (2, am_fu (am_fu (df 2) 0 (.ref (A + 16))) 1 (.ref (A + 25))), .inr (1, am_fu (am_fu (am_fu (am_fu (am_fu (am_fu (am_fu (am_fu (df 1) 0 (.ref (A + 17))) 1 (.ref (A + 19))) 2 (.ref (A + 21))) 3 (.ref (A + 22))) 4 (.int (mI 128))) 5 (.int (mI 128))) 6 (.ref (A + 23))) 7 (.ref (A + 24))), .inr (4, am_fu (df 4) 0 (.ref (A + 18))), zI 0 2209, .inr (4, am_fu (df 4) 0 (.ref (A + 20))), zI 0 2209, zI 0 8, zI 0 8, zI 0 256, zI 0 16, .inr (5, am_fu (am_fu (am_fu (am_fu (am_fu (am_fu (am_fu (df 5) 0 (.int (mI 0))) 1 (.int (mI 0))) 2 (.int (mI 8))) 3 (.int (mI 0))) 4 (.int (mI 0))) 5 (.int (mI (-1)))) 6 (.int (mI (-1)))), .inr (7, am_fu (am_fu (am_fu (am_fu (df 7) 0 (.ref (A + 27))) 1 (.ref (A + 30))) 2 (.ref (A + 27))) 3 (.ref (A + 33))), .inr (8, am_fu (am_fu (am_fu (am_fu (am_fu (df 8) 0 (.ref (A + 28))) 1 (.ref (A + 29))) 2 (.int (mI 0))) 3 (.long (mL 0))) 4 (.long (mL 4294967295))), zI 0 70, zI 0 4096, .inr (8, am_fu (am_fu (am_fu (am_fu (am_fu (df 8) 0 (.ref (A + 31))) 1 (.ref (A + 32))) 2 (.int (mI 0))) 3 (.long (mL 0))) 4 (.long (mL 4294967295))), zI 0 70, zI 0 4096, .inr (5, am_fu (am_fu (am_fu (am_fu (am_fu (am_fu (am_fu (df 5) 0 (.int (mI 0))) 1 (.int (mI 0))) 2 (.int (mI 8))) 3 (.int (mI 0))) 4 (.int (mI 0))) 5 (.int (mI (-1)))) 6 (.int (mI (-1)))), .inr (3, am_fu (am_fu (am_fu (am_fu (am_fu (am_fu (am_fu (am_fu (am_fu (am_fu (am_fu (am_fu (df 3) 0 (.ref (A + 35))) 1 (.ref (A + 44))) 2 (.ref (A + 45))) 3 (.int (mI 0))) 4 (.int (mI (-1)))) 5 (.int (mI 0))) 6 (.ref (A + 46))) 7 (.int (mI 0))) 8 (.ref (A + 47))) 9 (.ref (A + 48))) 10 (.int (mI 0))) 11 (.int (mI 0))), .inr (1, am_fu (am_fu (am_fu (am_fu (am_fu (am_fu (am_fu (am_fu (df 1) 0 (.ref (A + 36))) 1 (.ref (A + 38))) 2 (.ref (A + 40))) 3 (.ref (A + 41))) 4 (.int (mI 128))) 5 (.int (mI 128))) 6 (.ref (A + 42))) 7 (.ref (A + 43))), .inr (4, am_fu (df 4) 0 (.ref (A + 37))), zI 0 2209, .inr (4, am_fu (df 4) 0 (.ref (A + 39))), zI 0 2209, zI 0 8, zI 0 8, zI 0 256, zI 0 16, .inr (5, am_fu (am_fu (am_fu (am_fu (am_fu (am_fu (am_fu (df 5) 0 (.int (mI 0))) 1 (.int (mI 0))) 2 (.int (mI 8))) 3 (.int (mI 0))) 4 (.int (mI 0))) 5 (.int (mI (-1)))) 6 (.int (mI (-1)))), zI 0 256, zI 0 256, zI 0 768, zI 0 3]))) := by
  have w0 : am_wf 9 (df 9) = true := rfl
  rw [b_X11_init_0]
  rw [tb_nxk hA, tb_aI]
  simp only [List.append_assoc, List.cons_append, List.nil_append, List.length_cons, List.length_nil, Nat.zero_add, Nat.add_assoc, Nat.reduceAdd, nf_0, nf_1, nf_2, nf_3, nf_4, nf_5, nf_6, nf_7, nf_8, nf_9]
  rw [b_X11_init_10 (tb_sh hA w0)]
  rw [tb_uF (k := 0) (v := .ref (A + 1)) hA w0 rfl]
  have w1 := am_wf_fu (k := 0) (v := .ref (A + 1)) w0 rfl
  rw [tb_nxk hA, tb_aI]
  simp only [List.append_assoc, List.cons_append, List.nil_append, List.length_cons, List.length_nil, Nat.zero_add, Nat.add_assoc, Nat.reduceAdd, nf_0, nf_1, nf_2, nf_3, nf_4, nf_5, nf_6, nf_7, nf_8, nf_9]
  rw [b_X11_init_19 (tb_sh hA w1) (tb_sh hA w1)]
  rw [tb_uF (k := 1) (v := .ref (A + 2)) hA w1 rfl]
  have w2 := am_wf_fu (k := 1) (v := .ref (A + 2)) w1 rfl
  rw [tb_uF (k := 2) (v := .int (mI 8)) hA w2 rfl]
  have w3 := am_wf_fu (k := 2) (v := .int (mI 8)) w2 rfl
  rw [tb_uF (k := 3) (v := .int (mI 7)) hA w3 rfl]
  have w4 := am_wf_fu (k := 3) (v := .int (mI 7)) w3 rfl
  rw [tb_uF (k := 4) (v := .int (mI 1)) hA w4 rfl]
  have w5 := am_wf_fu (k := 4) (v := .int (mI 1)) w4 rfl
  rw [tb_uF (k := 5) (v := .int (mI 1)) hA w5 rfl]
  have w6 := am_wf_fu (k := 5) (v := .int (mI 1)) w5 rfl
  rw [tb_nxk hA, tb_aO]
  simp only [List.append_assoc, List.cons_append, List.nil_append, List.length_cons, List.length_nil, Nat.zero_add, Nat.add_assoc, Nat.reduceAdd, nf_0, nf_1, nf_2, nf_3, nf_4, nf_5, nf_6, nf_7, nf_8, nf_9]
  rw [b_X11_init_48]
  have e := n_X0 (h := h) (s := s + 515) (l := l ++ [.inr (9, am_fu (am_fu (am_fu (am_fu (am_fu (am_fu (df 9) 0 (.ref (A + 1))) 1 (.ref (A + 2))) 2 (.int (mI 8))) 3 (.int (mI 7))) 4 (.int (mI 1))) 5 (.int (mI 1))), zI 0 256, zI 0 256]) (A := A + 3) (by simp only [List.length_append, List.length_cons, List.length_nil]; omega)
  simp only [List.append_assoc, List.cons_append, List.nil_append, List.length_cons, List.length_nil, Nat.zero_add, Nat.add_assoc, Nat.reduceAdd, nf_0, nf_1, nf_2, nf_3, nf_4, nf_5, nf_6, nf_7, nf_8, nf_9] at e
  rw [e, cl_n]
  clear e
  rw [b_X11_init_52 (tb_sh hA w6)]
  rw [tb_uF (k := 6) (v := .ref (A + 3)) hA w6 rfl]
  have w7 := am_wf_fu (k := 6) (v := .ref (A + 3)) w6 rfl
  rw [tb_nxk hA, tb_aA]
  simp only [List.append_assoc, List.cons_append, List.nil_append, List.length_cons, List.length_nil, Nat.zero_add, Nat.add_assoc, Nat.reduceAdd, nf_0, nf_1, nf_2, nf_3, nf_4, nf_5, nf_6, nf_7, nf_8, nf_9]
  rw [b_X11_init_61 (tb_sh hA w7) (tb_sh hA w7)]
  rw [tb_uF (k := 7) (v := .ref (A + 4)) hA w7 rfl]
  have w8 := am_wf_fu (k := 7) (v := .ref (A + 4)) w7 rfl
  rw [tb_uF (k := 8) (v := .int (mI 0)) hA w8 rfl]
  have w9 := am_wf_fu (k := 8) (v := .int (mI 0)) w8 rfl
  rw [tb_nxk hA, tb_aO]
  simp only [List.append_assoc, List.cons_append, List.nil_append, List.length_cons, List.length_nil, Nat.zero_add, Nat.add_assoc, Nat.reduceAdd, nf_0, nf_1, nf_2, nf_3, nf_4, nf_5, nf_6, nf_7, nf_8, nf_9]
  rw [b_X11_init_73]
  have e := n_X6 (h := h) (s := s + 543) (l := l ++ [.inr (9, am_fu (am_fu (am_fu (am_fu (am_fu (am_fu (am_fu (am_fu (am_fu (df 9) 0 (.ref (A + 1))) 1 (.ref (A + 2))) 2 (.int (mI 8))) 3 (.int (mI 7))) 4 (.int (mI 1))) 5 (.int (mI 1))) 6 (.ref (A + 3))) 7 (.ref (A + 4))) 8 (.int (mI 0))), zI 0 256, zI 0 256, .inr (0, am_fu (am_fu (am_fu (df 0) 0 (.int (mI 0))) 1 (.int (mI 0))) 2 (.int (mI 0))), zA 5 12]) (A := A + 5) (by simp only [List.length_append, List.length_cons, List.length_nil]; omega)
  simp only [List.append_assoc, List.cons_append, List.nil_append, List.length_cons, List.length_nil, Nat.zero_add, Nat.add_assoc, Nat.reduceAdd, nf_0, nf_1, nf_2, nf_3, nf_4, nf_5, nf_6, nf_7, nf_8, nf_9] at e
  rw [e, cl_n]
  clear e
  rw [b_X11_init_77 (tb_sh hA w9)]
  rw [tb_uF (k := 9) (v := .ref (A + 5)) hA w9 rfl]
  have w10 := am_wf_fu (k := 9) (v := .ref (A + 5)) w9 rfl
  rw [tb_nxk hA, tb_aI]
  simp only [List.append_assoc, List.cons_append, List.nil_append, List.length_cons, List.length_nil, Nat.zero_add, Nat.add_assoc, Nat.reduceAdd, nf_0, nf_1, nf_2, nf_3, nf_4, nf_5, nf_6, nf_7, nf_8, nf_9]
  rw [b_X11_init_84 (tb_sh hA w10) (tb_sh hA w10)]
  rw [tb_uF (k := 10) (v := .ref (A + 14)) hA w10 rfl]
  have w11 := am_wf_fu (k := 10) (v := .ref (A + 14)) w10 rfl
  rw [tb_uF (k := 11) (v := .int (mI 0)) hA w11 rfl]
  have w12 := am_wf_fu (k := 11) (v := .int (mI 0)) w11 rfl
  rw [tb_nxk hA, tb_aO]
  simp only [List.append_assoc, List.cons_append, List.nil_append, List.length_cons, List.length_nil, Nat.zero_add, Nat.add_assoc, Nat.reduceAdd, nf_0, nf_1, nf_2, nf_3, nf_4, nf_5, nf_6, nf_7, nf_8, nf_9]
  rw [b_X11_init_96]
  have e := n_X2 (h := h) (s := s + 1124) (l := l ++ [.inr (9, am_fu (am_fu (am_fu (am_fu (am_fu (am_fu (am_fu (am_fu (am_fu (am_fu (am_fu (am_fu (df 9) 0 (.ref (A + 1))) 1 (.ref (A + 2))) 2 (.int (mI 8))) 3 (.int (mI 7))) 4 (.int (mI 1))) 5 (.int (mI 1))) 6 (.ref (A + 3))) 7 (.ref (A + 4))) 8 (.int (mI 0))) 9 (.ref (A + 5))) 10 (.ref (A + 14))) 11 (.int (mI 0))), zI 0 256, zI 0 256, .inr (0, am_fu (am_fu (am_fu (df 0) 0 (.int (mI 0))) 1 (.int (mI 0))) 2 (.int (mI 0))), zA 5 12, .inr (6, am_fu (am_fu (am_fu (am_fu (am_fu (am_fu (am_fu (am_fu (am_fu (am_fu (am_fu (am_fu (am_fu (am_fu (am_fu (am_fu (df 6) 0 (.int (mI 105))) 1 (.int (mI 0))) 2 (.int (mI 0))) 3 (.int (mI 1))) 4 (.int (mI 0))) 5 (.int (mI 1))) 6 (.int (mI 0))) 7 (.long (mL 0))) 8 (.ref (A + 6))) 9 (.ref (A + 7))) 10 (.ref (A + 8))) 11 (.ref (A + 9))) 12 (.ref (A + 10))) 13 (.ref (A + 11))) 14 (.ref (A + 12))) 15 (.ref (A + 13))), zI 0 0, zI 0 0, zI 0 16, zI 0 16, zI 0 16, zI 0 16, zI 0 256, zI 0 256, zI 0 3]) (A := A + 15) (by simp only [List.length_append, List.length_cons, List.length_nil]; omega)
  simp only [List.append_assoc, List.cons_append, List.nil_append, List.length_cons, List.length_nil, Nat.zero_add, Nat.add_assoc, Nat.reduceAdd, nf_0, nf_1, nf_2, nf_3, nf_4, nf_5, nf_6, nf_7, nf_8, nf_9] at e
  rw [e, cl_n]
  clear e
  rw [b_X11_init_100 (tb_sh hA w12)]
  rw [tb_uF (k := 12) (v := .ref (A + 15)) hA w12 rfl]
  have w13 := am_wf_fu (k := 12) (v := .ref (A + 15)) w12 rfl
  rw [tb_nxk hA, tb_aO]
  simp only [List.append_assoc, List.cons_append, List.nil_append, List.length_cons, List.length_nil, Nat.zero_add, Nat.add_assoc, Nat.reduceAdd, nf_0, nf_1, nf_2, nf_3, nf_4, nf_5, nf_6, nf_7, nf_8, nf_9]
  rw [b_X11_init_107]
  have e := n_X8 (h := h) (s := s + 5851) (l := l ++ [.inr (9, am_fu (am_fu (am_fu (am_fu (am_fu (am_fu (am_fu (am_fu (am_fu (am_fu (am_fu (am_fu (am_fu (df 9) 0 (.ref (A + 1))) 1 (.ref (A + 2))) 2 (.int (mI 8))) 3 (.int (mI 7))) 4 (.int (mI 1))) 5 (.int (mI 1))) 6 (.ref (A + 3))) 7 (.ref (A + 4))) 8 (.int (mI 0))) 9 (.ref (A + 5))) 10 (.ref (A + 14))) 11 (.int (mI 0))) 12 (.ref (A + 15))), zI 0 256, zI 0 256, .inr (0, am_fu (am_fu (am_fu (df 0) 0 (.int (mI 0))) 1 (.int (mI 0))) 2 (.int (mI 0))), zA 5 12, .inr (6, am_fu (am_fu (am_fu (am_fu (am_fu (am_fu (am_fu (am_fu (am_fu (am_fu (am_fu (am_fu (am_fu (am_fu (am_fu (am_fu (df 6) 0 (.int (mI 105))) 1 (.int (mI 0))) 2 (.int (mI 0))) 3 (.int (mI 1))) 4 (.int (mI 0))) 5 (.int (mI 1))) 6 (.int (mI 0))) 7 (.long (mL 0))) 8 (.ref (A + 6))) 9 (.ref (A + 7))) 10 (.ref (A + 8))) 11 (.ref (A + 9))) 12 (.ref (A + 10))) 13 (.ref (A + 11))) 14 (.ref (A + 12))) 15 (.ref (A + 13))), zI 0 0, zI 0 0, zI 0 16, zI 0 16, zI 0 16, zI 0 16, zI 0 256, zI 0 256, zI 0 3, .inr (2, am_fu (am_fu (df 2) 0 (.ref (A + 16))) 1 (.ref (A + 25))), .inr (1, am_fu (am_fu (am_fu (am_fu (am_fu (am_fu (am_fu (am_fu (df 1) 0 (.ref (A + 17))) 1 (.ref (A + 19))) 2 (.ref (A + 21))) 3 (.ref (A + 22))) 4 (.int (mI 128))) 5 (.int (mI 128))) 6 (.ref (A + 23))) 7 (.ref (A + 24))), .inr (4, am_fu (df 4) 0 (.ref (A + 18))), zI 0 2209, .inr (4, am_fu (df 4) 0 (.ref (A + 20))), zI 0 2209, zI 0 8, zI 0 8, zI 0 256, zI 0 16, .inr (5, am_fu (am_fu (am_fu (am_fu (am_fu (am_fu (am_fu (df 5) 0 (.int (mI 0))) 1 (.int (mI 0))) 2 (.int (mI 8))) 3 (.int (mI 0))) 4 (.int (mI 0))) 5 (.int (mI (-1)))) 6 (.int (mI (-1))))]) (A := A + 26) (by simp only [List.length_append, List.length_cons, List.length_nil]; omega)
  simp only [List.append_assoc, List.cons_append, List.nil_append, List.length_cons, List.length_nil, Nat.zero_add, Nat.add_assoc, Nat.reduceAdd, nf_0, nf_1, nf_2, nf_3, nf_4, nf_5, nf_6, nf_7, nf_8, nf_9] at e
  rw [e, cl_n]
  clear e
  rw [b_X11_init_111 (tb_sh hA w13)]
  rw [tb_uF (k := 13) (v := .ref (A + 26)) hA w13 rfl]
  have w14 := am_wf_fu (k := 13) (v := .ref (A + 26)) w13 rfl
  rw [tb_nxk hA, tb_aO]
  simp only [List.append_assoc, List.cons_append, List.nil_append, List.length_cons, List.length_nil, Nat.zero_add, Nat.add_assoc, Nat.reduceAdd, nf_0, nf_1, nf_2, nf_3, nf_4, nf_5, nf_6, nf_7, nf_8, nf_9]
  rw [b_X11_init_118]
  have e := n_X3 (h := h) (s := s + 14212) (l := l ++ [.inr (9, am_fu (am_fu (am_fu (am_fu (am_fu (am_fu (am_fu (am_fu (am_fu (am_fu (am_fu (am_fu (am_fu (am_fu (df 9) 0 (.ref (A + 1))) 1 (.ref (A + 2))) 2 (.int (mI 8))) 3 (.int (mI 7))) 4 (.int (mI 1))) 5 (.int (mI 1))) 6 (.ref (A + 3))) 7 (.ref (A + 4))) 8 (.int (mI 0))) 9 (.ref (A + 5))) 10 (.ref (A + 14))) 11 (.int (mI 0))) 12 (.ref (A + 15))) 13 (.ref (A + 26))), zI 0 256, zI 0 256, .inr (0, am_fu (am_fu (am_fu (df 0) 0 (.int (mI 0))) 1 (.int (mI 0))) 2 (.int (mI 0))), zA 5 12, .inr (6, am_fu (am_fu (am_fu (am_fu (am_fu (am_fu (am_fu (am_fu (am_fu (am_fu (am_fu (am_fu (am_fu (am_fu (am_fu (am_fu (df 6) 0 (.int (mI 105))) 1 (.int (mI 0))) 2 (.int (mI 0))) 3 (.int (mI 1))) 4 (.int (mI 0))) 5 (.int (mI 1))) 6 (.int (mI 0))) 7 (.long (mL 0))) 8 (.ref (A + 6))) 9 (.ref (A + 7))) 10 (.ref (A + 8))) 11 (.ref (A + 9))) 12 (.ref (A + 10))) 13 (.ref (A + 11))) 14 (.ref (A + 12))) 15 (.ref (A + 13))), zI 0 0, zI 0 0, zI 0 16, zI 0 16, zI 0 16, zI 0 16, zI 0 256, zI 0 256, zI 0 3, .inr (2, am_fu (am_fu (df 2) 0 (.ref (A + 16))) 1 (.ref (A + 25))), .inr (1, am_fu (am_fu (am_fu (am_fu (am_fu (am_fu (am_fu (am_fu (df 1) 0 (.ref (A + 17))) 1 (.ref (A + 19))) 2 (.ref (A + 21))) 3 (.ref (A + 22))) 4 (.int (mI 128))) 5 (.int (mI 128))) 6 (.ref (A + 23))) 7 (.ref (A + 24))), .inr (4, am_fu (df 4) 0 (.ref (A + 18))), zI 0 2209, .inr (4, am_fu (df 4) 0 (.ref (A + 20))), zI 0 2209, zI 0 8, zI 0 8, zI 0 256, zI 0 16, .inr (5, am_fu (am_fu (am_fu (am_fu (am_fu (am_fu (am_fu (df 5) 0 (.int (mI 0))) 1 (.int (mI 0))) 2 (.int (mI 8))) 3 (.int (mI 0))) 4 (.int (mI 0))) 5 (.int (mI (-1)))) 6 (.int (mI (-1)))), .inr (7, am_fu (am_fu (am_fu (am_fu (df 7) 0 (.ref (A + 27))) 1 (.ref (A + 30))) 2 (.ref (A + 27))) 3 (.ref (A + 33))), .inr (8, am_fu (am_fu (am_fu (am_fu (am_fu (df 8) 0 (.ref (A + 28))) 1 (.ref (A + 29))) 2 (.int (mI 0))) 3 (.long (mL 0))) 4 (.long (mL 4294967295))), zI 0 70, zI 0 4096, .inr (8, am_fu (am_fu (am_fu (am_fu (am_fu (df 8) 0 (.ref (A + 31))) 1 (.ref (A + 32))) 2 (.int (mI 0))) 3 (.long (mL 0))) 4 (.long (mL 4294967295))), zI 0 70, zI 0 4096, .inr (5, am_fu (am_fu (am_fu (am_fu (am_fu (am_fu (am_fu (df 5) 0 (.int (mI 0))) 1 (.int (mI 0))) 2 (.int (mI 8))) 3 (.int (mI 0))) 4 (.int (mI 0))) 5 (.int (mI (-1)))) 6 (.int (mI (-1))))]) (A := A + 34) (by simp only [List.length_append, List.length_cons, List.length_nil]; omega)
  simp only [List.append_assoc, List.cons_append, List.nil_append, List.length_cons, List.length_nil, Nat.zero_add, Nat.add_assoc, Nat.reduceAdd, nf_0, nf_1, nf_2, nf_3, nf_4, nf_5, nf_6, nf_7, nf_8, nf_9] at e
  rw [e, cl_n]
  clear e
  have wd : am_wf 3 (am_fu (am_fu (am_fu (am_fu (am_fu (am_fu (am_fu (am_fu (am_fu (am_fu (am_fu (am_fu (df 3) 0 (.ref (A + 35))) 1 (.ref (A + 44))) 2 (.ref (A + 45))) 3 (.int (mI 0))) 4 (.int (mI (-1)))) 5 (.int (mI 0))) 6 (.ref (A + 46))) 7 (.int (mI 0))) 8 (.ref (A + 47))) 9 (.ref (A + 48))) 10 (.int (mI 0))) 11 (.int (mI 0))) = true := rfl
  have sd : sh (tb h (s + 20218) (l ++ [.inr (9, am_fu (am_fu (am_fu (am_fu (am_fu (am_fu (am_fu (am_fu (am_fu (am_fu (am_fu (am_fu (am_fu (am_fu (df 9) 0 (.ref (A + 1))) 1 (.ref (A + 2))) 2 (.int (mI 8))) 3 (.int (mI 7))) 4 (.int (mI 1))) 5 (.int (mI 1))) 6 (.ref (A + 3))) 7 (.ref (A + 4))) 8 (.int (mI 0))) 9 (.ref (A + 5))) 10 (.ref (A + 14))) 11 (.int (mI 0))) 12 (.ref (A + 15))) 13 (.ref (A + 26))), zI 0 256, zI 0 256, .inr (0, am_fu (am_fu (am_fu (df 0) 0 (.int (mI 0))) 1 (.int (mI 0))) 2 (.int (mI 0))), zA 5 12, .inr (6, am_fu (am_fu (am_fu (am_fu (am_fu (am_fu (am_fu (am_fu (am_fu (am_fu (am_fu (am_fu (am_fu (am_fu (am_fu (am_fu (df 6) 0 (.int (mI 105))) 1 (.int (mI 0))) 2 (.int (mI 0))) 3 (.int (mI 1))) 4 (.int (mI 0))) 5 (.int (mI 1))) 6 (.int (mI 0))) 7 (.long (mL 0))) 8 (.ref (A + 6))) 9 (.ref (A + 7))) 10 (.ref (A + 8))) 11 (.ref (A + 9))) 12 (.ref (A + 10))) 13 (.ref (A + 11))) 14 (.ref (A + 12))) 15 (.ref (A + 13))), zI 0 0, zI 0 0, zI 0 16, zI 0 16, zI 0 16, zI 0 16, zI 0 256, zI 0 256, zI 0 3, .inr (2, am_fu (am_fu (df 2) 0 (.ref (A + 16))) 1 (.ref (A + 25))), .inr (1, am_fu (am_fu (am_fu (am_fu (am_fu (am_fu (am_fu (am_fu (df 1) 0 (.ref (A + 17))) 1 (.ref (A + 19))) 2 (.ref (A + 21))) 3 (.ref (A + 22))) 4 (.int (mI 128))) 5 (.int (mI 128))) 6 (.ref (A + 23))) 7 (.ref (A + 24))), .inr (4, am_fu (df 4) 0 (.ref (A + 18))), zI 0 2209, .inr (4, am_fu (df 4) 0 (.ref (A + 20))), zI 0 2209, zI 0 8, zI 0 8, zI 0 256, zI 0 16, .inr (5, am_fu (am_fu (am_fu (am_fu (am_fu (am_fu (am_fu (df 5) 0 (.int (mI 0))) 1 (.int (mI 0))) 2 (.int (mI 8))) 3 (.int (mI 0))) 4 (.int (mI 0))) 5 (.int (mI (-1)))) 6 (.int (mI (-1)))), .inr (7, am_fu (am_fu (am_fu (am_fu (df 7) 0 (.ref (A + 27))) 1 (.ref (A + 30))) 2 (.ref (A + 27))) 3 (.ref (A + 33))), .inr (8, am_fu (am_fu (am_fu (am_fu (am_fu (df 8) 0 (.ref (A + 28))) 1 (.ref (A + 29))) 2 (.int (mI 0))) 3 (.long (mL 0))) 4 (.long (mL 4294967295))), zI 0 70, zI 0 4096, .inr (8, am_fu (am_fu (am_fu (am_fu (am_fu (df 8) 0 (.ref (A + 31))) 1 (.ref (A + 32))) 2 (.int (mI 0))) 3 (.long (mL 0))) 4 (.long (mL 4294967295))), zI 0 70, zI 0 4096, .inr (5, am_fu (am_fu (am_fu (am_fu (am_fu (am_fu (am_fu (df 5) 0 (.int (mI 0))) 1 (.int (mI 0))) 2 (.int (mI 8))) 3 (.int (mI 0))) 4 (.int (mI 0))) 5 (.int (mI (-1)))) 6 (.int (mI (-1)))), .inr (3, am_fu (am_fu (am_fu (am_fu (am_fu (am_fu (am_fu (am_fu (am_fu (am_fu (am_fu (am_fu (df 3) 0 (.ref (A + 35))) 1 (.ref (A + 44))) 2 (.ref (A + 45))) 3 (.int (mI 0))) 4 (.int (mI (-1)))) 5 (.int (mI 0))) 6 (.ref (A + 46))) 7 (.int (mI 0))) 8 (.ref (A + 47))) 9 (.ref (A + 48))) 10 (.int (mI 0))) 11 (.int (mI 0))), .inr (1, am_fu (am_fu (am_fu (am_fu (am_fu (am_fu (am_fu (am_fu (df 1) 0 (.ref (A + 36))) 1 (.ref (A + 38))) 2 (.ref (A + 40))) 3 (.ref (A + 41))) 4 (.int (mI 128))) 5 (.int (mI 128))) 6 (.ref (A + 42))) 7 (.ref (A + 43))), .inr (4, am_fu (df 4) 0 (.ref (A + 37))), zI 0 2209, .inr (4, am_fu (df 4) 0 (.ref (A + 39))), zI 0 2209, zI 0 8, zI 0 8, zI 0 256, zI 0 16, .inr (5, am_fu (am_fu (am_fu (am_fu (am_fu (am_fu (am_fu (df 5) 0 (.int (mI 0))) 1 (.int (mI 0))) 2 (.int (mI 8))) 3 (.int (mI 0))) 4 (.int (mI 0))) 5 (.int (mI (-1)))) 6 (.int (mI (-1)))), zI 0 256, zI 0 256, zI 0 768, zI 0 3])) (A + 34) = (5, 3) := by
    have q := tb_sh (h := h) (s := s + 20218) (A := (A + 34)) (l := l ++ [.inr (9, am_fu (am_fu (am_fu (am_fu (am_fu (am_fu (am_fu (am_fu (am_fu (am_fu (am_fu (am_fu (am_fu (am_fu (df 9) 0 (.ref (A + 1))) 1 (.ref (A + 2))) 2 (.int (mI 8))) 3 (.int (mI 7))) 4 (.int (mI 1))) 5 (.int (mI 1))) 6 (.ref (A + 3))) 7 (.ref (A + 4))) 8 (.int (mI 0))) 9 (.ref (A + 5))) 10 (.ref (A + 14))) 11 (.int (mI 0))) 12 (.ref (A + 15))) 13 (.ref (A + 26))), zI 0 256, zI 0 256, .inr (0, am_fu (am_fu (am_fu (df 0) 0 (.int (mI 0))) 1 (.int (mI 0))) 2 (.int (mI 0))), zA 5 12, .inr (6, am_fu (am_fu (am_fu (am_fu (am_fu (am_fu (am_fu (am_fu (am_fu (am_fu (am_fu (am_fu (am_fu (am_fu (am_fu (am_fu (df 6) 0 (.int (mI 105))) 1 (.int (mI 0))) 2 (.int (mI 0))) 3 (.int (mI 1))) 4 (.int (mI 0))) 5 (.int (mI 1))) 6 (.int (mI 0))) 7 (.long (mL 0))) 8 (.ref (A + 6))) 9 (.ref (A + 7))) 10 (.ref (A + 8))) 11 (.ref (A + 9))) 12 (.ref (A + 10))) 13 (.ref (A + 11))) 14 (.ref (A + 12))) 15 (.ref (A + 13))), zI 0 0, zI 0 0, zI 0 16, zI 0 16, zI 0 16, zI 0 16, zI 0 256, zI 0 256, zI 0 3, .inr (2, am_fu (am_fu (df 2) 0 (.ref (A + 16))) 1 (.ref (A + 25))), .inr (1, am_fu (am_fu (am_fu (am_fu (am_fu (am_fu (am_fu (am_fu (df 1) 0 (.ref (A + 17))) 1 (.ref (A + 19))) 2 (.ref (A + 21))) 3 (.ref (A + 22))) 4 (.int (mI 128))) 5 (.int (mI 128))) 6 (.ref (A + 23))) 7 (.ref (A + 24))), .inr (4, am_fu (df 4) 0 (.ref (A + 18))), zI 0 2209, .inr (4, am_fu (df 4) 0 (.ref (A + 20))), zI 0 2209, zI 0 8, zI 0 8, zI 0 256, zI 0 16, .inr (5, am_fu (am_fu (am_fu (am_fu (am_fu (am_fu (am_fu (df 5) 0 (.int (mI 0))) 1 (.int (mI 0))) 2 (.int (mI 8))) 3 (.int (mI 0))) 4 (.int (mI 0))) 5 (.int (mI (-1)))) 6 (.int (mI (-1)))), .inr (7, am_fu (am_fu (am_fu (am_fu (df 7) 0 (.ref (A + 27))) 1 (.ref (A + 30))) 2 (.ref (A + 27))) 3 (.ref (A + 33))), .inr (8, am_fu (am_fu (am_fu (am_fu (am_fu (df 8) 0 (.ref (A + 28))) 1 (.ref (A + 29))) 2 (.int (mI 0))) 3 (.long (mL 0))) 4 (.long (mL 4294967295))), zI 0 70, zI 0 4096, .inr (8, am_fu (am_fu (am_fu (am_fu (am_fu (df 8) 0 (.ref (A + 31))) 1 (.ref (A + 32))) 2 (.int (mI 0))) 3 (.long (mL 0))) 4 (.long (mL 4294967295))), zI 0 70, zI 0 4096, .inr (5, am_fu (am_fu (am_fu (am_fu (am_fu (am_fu (am_fu (df 5) 0 (.int (mI 0))) 1 (.int (mI 0))) 2 (.int (mI 8))) 3 (.int (mI 0))) 4 (.int (mI 0))) 5 (.int (mI (-1)))) 6 (.int (mI (-1))))]) (r := [.inr (1, am_fu (am_fu (am_fu (am_fu (am_fu (am_fu (am_fu (am_fu (df 1) 0 (.ref (A + 36))) 1 (.ref (A + 38))) 2 (.ref (A + 40))) 3 (.ref (A + 41))) 4 (.int (mI 128))) 5 (.int (mI 128))) 6 (.ref (A + 42))) 7 (.ref (A + 43))), .inr (4, am_fu (df 4) 0 (.ref (A + 37))), zI 0 2209, .inr (4, am_fu (df 4) 0 (.ref (A + 39))), zI 0 2209, zI 0 8, zI 0 8, zI 0 256, zI 0 16, .inr (5, am_fu (am_fu (am_fu (am_fu (am_fu (am_fu (am_fu (df 5) 0 (.int (mI 0))) 1 (.int (mI 0))) 2 (.int (mI 8))) 3 (.int (mI 0))) 4 (.int (mI 0))) 5 (.int (mI (-1)))) 6 (.int (mI (-1)))), zI 0 256, zI 0 256, zI 0 768, zI 0 3]) (by simp only [List.length_append, List.length_cons, List.length_nil]; omega) wd
    simp only [List.append_assoc, List.cons_append, List.nil_append] at q
    exact q
  rw [b_X11_init_122' (tb_sh hA w14) sd, tb_uF (k := 14) (v := .ref (A + 34)) hA w14 rfl]
theorem i_X11_init_133 : am_i m_X11_init 133 = some (133, .return_, 1, [], 0) := rfl
theorem b_X11_init_133 {v0 : Value} {h : am_H} : rn m_X11_init 133 [v0] [] h = some (.inl none, h) := by
  exact tq_return i_X11_init_133 r_X11_init
