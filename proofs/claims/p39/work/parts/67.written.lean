/-! ===== the writer's start, its end, its bytes ===== -/
theorem i_X10_start_0 : am_i m_X10_start 0 = some (0, .aload_n 0, 1, [], 0) := rfl
theorem i_X10_start_1 : am_i m_X10_start 1 = some (1, .getfield 9, 3, [8, 0, 0], 0) := rfl
theorem i_X10_start_4 : am_i m_X10_start 4 = some (4, .sipush 1024, 3, [], 1024) := rfl
theorem i_X10_start_7 : am_i m_X10_start 7 = some (7, .invokestatic 29, 3, [34], 0) := rfl
theorem b_X10_start_0 {a0 : Nat} {h : am_H} (k1 : K8 h a0) : rn m_X10_start 0 [.ref a0] [] h = cl m_X10_start 10 [.ref a0] [] (rn m_X7_set 0 [.ref (a0 + 1), .int (mI 1024), am_J] [] h) := by
  refine (tq_aload_n i_X10_start_0 rfl (isA_ref _) rfl).trans ?_
  refine (tq_getfield i_X10_start_1 (K8_s k1) (gR (g_8_0 (K8_s k1)) (K8_e0 k1)) (isV_ref _) rfl).trans ?_
  refine (tq_sipush i_X10_start_4 rfl).trans ?_
  exact c_X7_set i_X10_start_7 (ltd d_X10_start (by decide)) (isA_ref _) stOk_0 rfl
theorem i_X10_start_10 : am_i m_X10_start 10 = some (10, .aload_n 0, 1, [], 0) := rfl
theorem i_X10_start_11 : am_i m_X10_start 11 = some (11, .iconst 0, 1, [], 0) := rfl
theorem i_X10_start_12 : am_i m_X10_start 12 = some (12, .putfield 16, 3, [8, 2, 0], 0) := rfl
theorem i_X10_start_15 : am_i m_X10_start 15 = some (15, .aload_n 0, 1, [], 0) := rfl
theorem i_X10_start_16 : am_i m_X10_start 16 = some (16, .lconst 0, 1, [], 0) := rfl
theorem i_X10_start_17 : am_i m_X10_start 17 = some (17, .putfield 20, 3, [8, 3, 0], 0) := rfl
theorem i_X10_start_20 : am_i m_X10_start 20 = some (20, .aload_n 0, 1, [], 0) := rfl
theorem i_X10_start_21 : am_i m_X10_start 21 = some (21, .ldc2_w 24, 3, [], 4294967295) := rfl
theorem i_X10_start_24 : am_i m_X10_start 24 = some (24, .putfield 26, 3, [8, 4, 0], 0) := rfl
theorem i_X10_start_27 : am_i m_X10_start 27 = some (27, .return_, 1, [], 0) := rfl
theorem b_X10_start_10 {a0 : Nat} {h : am_H} (k1 : K8 h a0) : rn m_X10_start 10 [.ref a0] [] h = some (.inl none, uF 8 (uF 8 (uF 8 h a0 2 (.int (mI 0))) a0 3 (.long (mL 0))) a0 4 (.long (mL 4294967295))) := by
  refine (tq_aload_n i_X10_start_10 rfl (isA_ref _) rfl).trans ?_
  refine (tq_iconst i_X10_start_11 rfl).trans ?_
  refine (tq_putfield i_X10_start_12 (K8_s k1) (okf_8_2 _) rfl).trans ?_
  refine (tq_aload_n i_X10_start_15 rfl (isA_ref _) rfl).trans ?_
  refine (tq_lconst i_X10_start_16 rfl).trans ?_
  refine (tq_putfield i_X10_start_17 ((sh_uF _ _ _ _ _ _).trans (K8_s k1)) (okf_8_3 _) rfl).trans ?_
  refine (tq_aload_n i_X10_start_20 rfl (isA_ref _) rfl).trans ?_
  refine (tq_ldc2_w i_X10_start_21 rfl).trans ?_
  refine (tq_putfield i_X10_start_24 ((sh_uF _ _ _ _ _ _).trans ((sh_uF _ _ _ _ _ _).trans (K8_s k1))) (okf_8_4 _) rfl).trans ?_
  exact tq_return i_X10_start_27 r_X10_start
theorem i_X10_end_0 : am_i m_X10_end 0 = some (0, .iconst 0, 1, [], 0) := rfl
theorem i_X10_end_1 : am_i m_X10_end 1 = some (1, .istore_n 1, 1, [], 0) := rfl
theorem b_X10_end_0 {a0 : Nat} {h : am_H} : rn m_X10_end 0 [.ref a0, am_J] [] h = rn m_X10_end 2 [.ref a0, .int (mI 0)] [] h := by
  refine (tq_iconst i_X10_end_0 rfl).trans ?_
  refine (tq_istore_n (L' := [.ref a0, .int (mI 0)]) i_X10_end_1 rfl rfl).trans ?_
  rfl
theorem i_X10_end_2 : am_i m_X10_end 2 = some (2, .iload_n 1, 1, [], 0) := rfl
theorem i_X10_end_3 : am_i m_X10_end 3 = some (3, .iconst 4, 1, [], 4) := rfl
theorem i_X10_end_4 : am_i m_X10_end 4 = some (4, .if_icmp .ge 13, 3, [], 0) := rfl
theorem i_X10_end_7 : am_i m_X10_end 7 = some (7, .aload_n 0, 1, [], 0) := rfl
theorem i_X10_end_8 : am_i m_X10_end 8 = some (8, .invokevirtual 53, 3, [5, 8], 0) := rfl
theorem i_X10_end_17 : am_i m_X10_end 17 = some (17, .aload_n 0, 1, [], 0) := rfl
theorem i_X10_end_18 : am_i m_X10_end 18 = some (18, .getfield 16, 3, [8, 2, 0], 0) := rfl
theorem i_X10_end_21 : am_i m_X10_end 21 = some (21, .aload_n 0, 1, [], 0) := rfl
theorem i_X10_end_22 : am_i m_X10_end 22 = some (22, .getfield 13, 3, [8, 1, 0], 0) := rfl
theorem i_X10_end_25 : am_i m_X10_end 25 = some (25, .arraylength, 1, [], 0) := rfl
theorem i_X10_end_26 : am_i m_X10_end 26 = some (26, .invokestatic 58, 3, [0, 2], 0) := rfl
theorem i_X10_end_29 : am_i m_X10_end 29 = some (29, .iconst 1, 1, [], 1) := rfl
theorem i_X10_end_30 : am_i m_X10_end 30 = some (30, .isub, 1, [], 0) := rfl
theorem i_X10_end_31 : am_i m_X10_end 31 = some (31, .istore_n 1, 1, [], 0) := rfl
theorem b_X10_end_2 {a0 : Nat} {x1 x1' : Int} {h : am_H} (w1 : wr x1 = x1') (k1 : K8 h a0) : rn m_X10_end 2 [.ref a0, .int (mI x1)] [] h = if 4 ≤ x1' then rn m_X10_end 32 [.ref a0, .int (mI ((min (fZ h a0 2) (4096 : Int)) - 1))] [] h else cl m_X10_end 11 [.ref a0, .int (mI x1)] [] (rn m_X10_giveByte 0 [.ref a0] [] h) := by
  refine (tq_iload_n i_X10_end_2 rfl rfl).trans ?_
  refine (tq_iconst i_X10_end_3 rfl).trans ?_
  refine (tq_icmp_ge (pt := 17) i_X10_end_4 w1 w_4 (by decide) rfl).trans ?_
  refine ite_congr rfl (fun c1 => ?_) (fun c1 => ?_)
  · refine (tq_aload_n i_X10_end_17 rfl (isA_ref _) rfl).trans ?_
    refine (tq_getfield i_X10_end_18 (K8_s k1) (g_8_2 (K8_s k1)) (isV_I _) rfl).trans ?_
    refine (tq_aload_n i_X10_end_21 rfl (isA_ref _) rfl).trans ?_
    refine (tq_getfield i_X10_end_22 (K8_s k1) (gR (g_8_1 (K8_s k1)) (K8_e1 k1)) (isV_ref _) rfl).trans ?_
    refine (tq_alen i_X10_end_25 (K8_s1 k1) (by decide) (by decide) rfl).trans ?_
    rw [(K8_n1 k1)]
    refine (tq_min i_X10_end_26 (wr_fZ _ _ _) (wr_len (K8_s1 k1) (K8_n1 k1) (by decide) (by decide)) (Nat.le_of_ble_eq_true rfl) rfl).trans ?_
    refine (tq_iconst i_X10_end_29 rfl).trans ?_
    refine (tq_isub i_X10_end_30 rfl).trans ?_
    refine (tq_istore_n (L' := [.ref a0, .int (mI ((min (fZ h a0 2) (4096 : Int)) - 1))]) i_X10_end_31 rfl rfl).trans ?_
    rfl
  · refine (tq_aload_n i_X10_end_7 rfl (isA_ref _) rfl).trans ?_
    exact c_X10_giveByte i_X10_end_8 (K8_s k1) (ltd d_X10_end (by decide)) stOk_0 rfl
theorem i_X10_end_11 : am_i m_X10_end 11 = some (11, .iinc 1 1, 3, [], 0) := rfl
theorem i_X10_end_14 : am_i m_X10_end 14 = some (14, .goto (-12), 3, [], 0) := rfl
theorem b_X10_end_11 {a0 : Nat} {x1 : Int} {h : am_H} : rn m_X10_end 11 [.ref a0, .int (mI x1)] [] h = rn m_X10_end 2 [.ref a0, .int (mI (x1 + 1))] [] h := by
  refine (tq_iinc (L' := [.ref a0, .int (mI (x1 + 1))]) i_X10_end_11 rfl rfl rfl).trans ?_
  refine (tq_goto (pc' := 2) i_X10_end_14 (by decide)).trans ?_
  rfl
theorem i_X10_end_32 : am_i m_X10_end 32 = some (32, .iload_n 1, 1, [], 0) := rfl
theorem i_X10_end_33 : am_i m_X10_end 33 = some (33, .ifCond .le 41, 3, [], 0) := rfl
theorem i_X10_end_36 : am_i m_X10_end 36 = some (36, .aload_n 0, 1, [], 0) := rfl
theorem i_X10_end_37 : am_i m_X10_end 37 = some (37, .getfield 13, 3, [8, 1, 0], 0) := rfl
theorem i_X10_end_40 : am_i m_X10_end 40 = some (40, .iload_n 1, 1, [], 0) := rfl
theorem i_X10_end_41 : am_i m_X10_end 41 = some (41, .iconst 1, 1, [], 1) := rfl
theorem i_X10_end_42 : am_i m_X10_end 42 = some (42, .isub, 1, [], 0) := rfl
theorem i_X10_end_43 : am_i m_X10_end 43 = some (43, .dup2, 1, [], 0) := rfl
theorem i_X10_end_44 : am_i m_X10_end 44 = some (44, .iaload, 1, [], 0) := rfl
theorem i_X10_end_45 : am_i m_X10_end 45 = some (45, .aload_n 0, 1, [], 0) := rfl
theorem i_X10_end_46 : am_i m_X10_end 46 = some (46, .getfield 13, 3, [8, 1, 0], 0) := rfl
theorem i_X10_end_49 : am_i m_X10_end 49 = some (49, .iload_n 1, 1, [], 0) := rfl
theorem i_X10_end_50 : am_i m_X10_end 50 = some (50, .iaload, 1, [], 0) := rfl
theorem i_X10_end_51 : am_i m_X10_end 51 = some (51, .bipush 8, 2, [], 8) := rfl
theorem i_X10_end_53 : am_i m_X10_end 53 = some (53, .ishr, 1, [], 0) := rfl
theorem i_X10_end_54 : am_i m_X10_end 54 = some (54, .iadd, 1, [], 0) := rfl
theorem i_X10_end_55 : am_i m_X10_end 55 = some (55, .iastore, 1, [], 0) := rfl
theorem i_X10_end_56 : am_i m_X10_end 56 = some (56, .aload_n 0, 1, [], 0) := rfl
theorem i_X10_end_57 : am_i m_X10_end 57 = some (57, .getfield 13, 3, [8, 1, 0], 0) := rfl
theorem i_X10_end_60 : am_i m_X10_end 60 = some (60, .iload_n 1, 1, [], 0) := rfl
theorem i_X10_end_61 : am_i m_X10_end 61 = some (61, .dup2, 1, [], 0) := rfl
theorem i_X10_end_62 : am_i m_X10_end 62 = some (62, .iaload, 1, [], 0) := rfl
theorem i_X10_end_63 : am_i m_X10_end 63 = some (63, .sipush 255, 3, [], 255) := rfl
theorem i_X10_end_66 : am_i m_X10_end 66 = some (66, .iand, 1, [], 0) := rfl
theorem i_X10_end_67 : am_i m_X10_end 67 = some (67, .iastore, 1, [], 0) := rfl
theorem i_X10_end_68 : am_i m_X10_end 68 = some (68, .iinc 1 (-1), 3, [], 0) := rfl
theorem i_X10_end_71 : am_i m_X10_end 71 = some (71, .goto (-39), 3, [], 0) := rfl
theorem i_X10_end_74 : am_i m_X10_end 74 = some (74, .return_, 1, [], 0) := rfl
theorem b_X10_end_32 {a0 : Nat} {x1 x1' : Int} {h : am_H} (w1 : wr x1 = x1') (k1 : K8 h a0) (g2 : (¬ (x1' ≤ 0)) → (0 ≤ wr (x1 - 1) ∧ wr (x1 - 1) < (4096 : Int))) (g3 : (¬ (x1' ≤ 0)) → (0 ≤ x1' ∧ x1' < (4096 : Int))) : rn m_X10_end 32 [.ref a0, .int (mI x1)] [] h = if x1' ≤ 0 then some (.inl none, h) else rn m_X10_end 32 [.ref a0, .int (mI (x1 + (-1)))] [] (uZ (uZ h (a0 + 2) (wr (x1 - 1)) ((gZ h (a0 + 2) (wr (x1 - 1))) + ((gZ h (a0 + 2) x1') / 2 ^ 8))) (a0 + 2) x1' ((gZ (uZ h (a0 + 2) (wr (x1 - 1)) ((gZ h (a0 + 2) (wr (x1 - 1))) + ((gZ h (a0 + 2) x1') / 2 ^ 8))) (a0 + 2) x1') % 2 ^ 8)) := by
  refine (tq_iload_n i_X10_end_32 rfl rfl).trans ?_
  refine (tq_if_le (pt := 74) i_X10_end_33 w1 (by decide) rfl).trans ?_
  refine ite_congr rfl (fun c1 => ?_) (fun c1 => ?_)
  · exact tq_return i_X10_end_74 r_X10_end
  · refine (tq_aload_n i_X10_end_36 rfl (isA_ref _) rfl).trans ?_
    refine (tq_getfield i_X10_end_37 (K8_s k1) (gR (g_8_1 (K8_s k1)) (K8_e1 k1)) (isV_ref _) rfl).trans ?_
    refine (tq_iload_n i_X10_end_40 rfl rfl).trans ?_
    refine (tq_iconst i_X10_end_41 rfl).trans ?_
    refine (tq_isub i_X10_end_42 rfl).trans ?_
    refine (tq_dup2 i_X10_end_43 rfl rfl rfl).trans ?_
    refine (tq_iaload i_X10_end_44 (K8_s1 k1) (by decide) rfl (g2 c1).1 (lt_gn (K8_n1 k1) (g2 c1).2) rfl).trans ?_
    refine (tq_aload_n i_X10_end_45 rfl (isA_ref _) rfl).trans ?_
    refine (tq_getfield i_X10_end_46 (K8_s k1) (gR (g_8_1 (K8_s k1)) (K8_e1 k1)) (isV_ref _) rfl).trans ?_
    refine (tq_iload_n i_X10_end_49 rfl rfl).trans ?_
    refine (tq_iaload i_X10_end_50 (K8_s1 k1) (by decide) w1 (g3 c1).1 (lt_gn (K8_n1 k1) (g3 c1).2) rfl).trans ?_
    refine (tq_bipush i_X10_end_51 rfl).trans ?_
    refine (tq_ishr (k := 8) i_X10_end_53 (wr_gZ _ _ _) w_8 (by decide) rfl).trans ?_
    refine (tq_iadd i_X10_end_54 rfl).trans ?_
    refine (tq_iastore i_X10_end_55 (K8_s1 k1) rfl (g2 c1).1 (lt_gn (K8_n1 k1) (g2 c1).2) rfl).trans ?_
    refine (tq_aload_n i_X10_end_56 rfl (isA_ref _) rfl).trans ?_
    refine (tq_getfield i_X10_end_57 ((sh_uZ _ _ _ _ _).trans (K8_s k1)) (gR ((g_8_1 ((sh_uZ _ _ _ _ _).trans (K8_s k1))).trans (congrArg am_rv (fA_uZ _ _ _ _ _ _))) (K8_e1 k1)) (isV_ref _) rfl).trans ?_
    refine (tq_iload_n i_X10_end_60 rfl rfl).trans ?_
    refine (tq_dup2 i_X10_end_61 rfl rfl rfl).trans ?_
    refine (tq_iaload i_X10_end_62 ((sh_uZ _ _ _ _ _).trans (K8_s1 k1)) (by decide) w1 (g3 c1).1 (lt_gn ((gn_uZ _ _ _ _ _).trans (K8_n1 k1)) (g3 c1).2) rfl).trans ?_
    refine (tq_sipush i_X10_end_63 rfl).trans ?_
    refine (tq_imask 8 i_X10_end_66 (wr_gZ _ _ _) (by decide) (by decide) rfl).trans ?_
    refine (tq_iastore i_X10_end_67 ((sh_uZ _ _ _ _ _).trans (K8_s1 k1)) w1 (g3 c1).1 (lt_gn ((gn_uZ _ _ _ _ _).trans (K8_n1 k1)) (g3 c1).2) rfl).trans ?_
    refine (tq_iinc (L' := [.ref a0, .int (mI (x1 + (-1)))]) i_X10_end_68 rfl rfl rfl).trans ?_
    refine (tq_goto (pc' := 32) i_X10_end_71 (by decide)).trans ?_
    rfl
theorem i_X10_written_0 : am_i m_X10_written 0 = some (0, .iconst 0, 1, [], 0) := rfl
theorem i_X10_written_1 : am_i m_X10_written 1 = some (1, .aload_n 0, 1, [], 0) := rfl
theorem i_X10_written_2 : am_i m_X10_written 2 = some (2, .getfield 16, 3, [8, 2, 0], 0) := rfl
theorem i_X10_written_5 : am_i m_X10_written 5 = some (5, .invokestatic 72, 3, [0, 1], 0) := rfl
theorem i_X10_written_8 : am_i m_X10_written 8 = some (8, .newarray .int, 2, [], 0) := rfl
theorem b_X10_written_0 {a0 n_8 : Nat} {h : am_H} (k1 : K8 h a0) (g2 : max 0 (fZ h a0 2) = (n_8 : Int)) (g3 : n_8 ≤ 65536) : rn m_X10_written 0 [.ref a0, am_J] [] h = rn m_X10_written 10 [.ref a0, am_J] [.ref (hnx h)] (aI 0 n_8 h) := by
  refine (tq_iconst i_X10_written_0 rfl).trans ?_
  refine (tq_aload_n i_X10_written_1 rfl (isA_ref _) rfl).trans ?_
  refine (tq_getfield i_X10_written_2 (K8_s k1) (g_8_2 (K8_s k1)) (isV_I _) rfl).trans ?_
  refine (tq_max i_X10_written_5 w_0 (wr_fZ _ _ _) (Nat.le_of_ble_eq_true rfl) rfl).trans ?_
  exact tq_newI (n := n_8) (t := 0) i_X10_written_8 ((wr_max w_0 (wr_fZ _ _ _)).trans g2) g3 rfl (by decide) rfl rfl
theorem i_X10_written_10 : am_i m_X10_written 10 = some (10, .astore_n 1, 1, [], 0) := rfl
theorem i_X10_written_11 : am_i m_X10_written 11 = some (11, .aload_n 0, 1, [], 0) := rfl
theorem i_X10_written_12 : am_i m_X10_written 12 = some (12, .getfield 13, 3, [8, 1, 0], 0) := rfl
theorem i_X10_written_15 : am_i m_X10_written 15 = some (15, .aload_n 1, 1, [], 0) := rfl
theorem i_X10_written_16 : am_i m_X10_written 16 = some (16, .invokestatic 75, 3, [31], 0) := rfl
theorem b_X10_written_10 {a0 as0 : Nat} {v1 : Value} {h : am_H} (k1 : K8 h a0) : rn m_X10_written 10 [.ref a0, v1] [.ref as0] h = cl m_X10_written 19 [.ref a0, .ref as0] [] (rn m_X7_copy 0 [.ref (a0 + 2), .ref as0, am_J] [] h) := by
  refine (tq_astore_n (L' := [.ref a0, .ref as0]) i_X10_written_10 (isA_ref _) rfl rfl).trans ?_
  refine (tq_aload_n i_X10_written_11 rfl (isA_ref _) rfl).trans ?_
  refine (tq_getfield i_X10_written_12 (K8_s k1) (gR (g_8_1 (K8_s k1)) (K8_e1 k1)) (isV_ref _) rfl).trans ?_
  refine (tq_aload_n i_X10_written_15 rfl (isA_ref _) rfl).trans ?_
  exact c_X7_copy i_X10_written_16 (ltd d_X10_written (by decide)) (isA_ref _) (isA_ref _) stOk_0 rfl
theorem i_X10_written_19 : am_i m_X10_written 19 = some (19, .aload_n 1, 1, [], 0) := rfl
theorem i_X10_written_20 : am_i m_X10_written 20 = some (20, .areturn, 1, [], 0) := rfl
theorem b_X10_written_19 {v0 : Value} {a1 : Nat} {h : am_H} : rn m_X10_written 19 [v0, .ref a1] [] h = some (.inl (some (.ref a1)), h) := by
  refine (tq_aload_n i_X10_written_19 rfl (isA_ref _) rfl).trans ?_
  exact tq_areturn i_X10_written_20 (isA_ref _) r_X10_written rfl
/-- n digits of 256 whose number is L -/
def Dig (r : Int → Int) (n : Nat) (L : Int) : Prop := vrow r n = L ∧ ∀ i : Int, 0 ≤ i → i < (n : Int) → 0 ≤ r i ∧ r i ≤ 255
theorem Dig_one {r r' : Int → Int} : ∀ {n : Nat} {L : Int}, Dig r n L → Dig r' n L → ∀ i : Int, 0 ≤ i → i < (n : Int) → r i = r' i
  | 0, L, _, _, i, i0, i1 => by omega
  | n + 1, L, p, q, i, i0, i1 => by
    obtain ⟨p1, p2⟩ := p
    obtain ⟨q1, q2⟩ := q
    unfold vrow at p1 q1
    have a := p2 n (by omega) (by omega)
    have b := q2 n (by omega) (by omega)
    by_cases e : i = n
    · rw [e]; omega
    · exact Dig_one (n := n) (L := vrow r n) ⟨rfl, fun j j0 j1 => p2 j j0 (by omega)⟩ ⟨by omega, fun j j0 j1 => q2 j j0 (by omega)⟩ i i0 (by omega)
theorem Dig_congr {r r' : Int → Int} {n : Nat} {L : Int} (h : ∀ i : Int, 0 ≤ i → i < n → r i = r' i) (p : Dig r n L) : Dig r' n L := ⟨(vrow_congr h).symm.trans p.1, fun i i0 i1 => by rw [← h i i0 i1]; exact p.2 i i0 i1⟩
/-- a carry from a place to the one before -/
def cry (r : Int → Int) (p : Nat) (c : Int) : Int → Int := fun i => if i = (p : Int) - 1 then r i + c else if i = (p : Int) then r i - 256 * c else r i
theorem vrow_cry (r : Int → Int) {p : Nat} (c : Int) (hp : 1 ≤ p) : ∀ (d : Nat), vrow (cry r p c) (p + 1 + d) = vrow r (p + 1 + d)
  | 0 => by
    obtain ⟨q, rfl⟩ : ∃ q, p = q + 1 := ⟨p - 1, by omega⟩
    have e1 : vrow (cry r (q + 1) c) q = vrow r q := vrow_congr fun i i0 i1 => by unfold cry; rw [if_neg (by omega), if_neg (by omega)]
    have e2 : cry r (q + 1) c q = r q + c := by unfold cry; rw [if_pos (by omega)]
    have e3 : cry r (q + 1) c ((q + 1 : Nat) : Int) = r ((q + 1 : Nat) : Int) - 256 * c := by unfold cry; rw [if_neg (by omega), if_pos rfl]
    simp only [Nat.add_zero, vrow]
    rw [e1, e2, e3]
    omega
  | d + 1 => by
    have ih := vrow_cry r c hp d
    show vrow (cry r p c) (p + 1 + d) * 256 + cry r p c ((p + 1 + d : Nat) : Int) = vrow r (p + 1 + d) * 256 + r ((p + 1 + d : Nat) : Int)
    have e : cry r p c ((p + 1 + d : Nat) : Int) = r ((p + 1 + d : Nat) : Int) := by unfold cry; rw [if_neg (by omega), if_neg (by omega)]
    rw [ih, e]
theorem vrow_top {r : Int → Int} : ∀ {n : Nat}, (∀ i : Int, 0 ≤ i → i < (n + 1 : Nat) → 0 ≤ r i) → r 0 * 256 ^ n ≤ vrow r (n + 1)
  | 0, h => by
    rw [Int.pow_zero, Int.mul_one]
    show r 0 ≤ 0 * 256 + r 0
    omega
  | n + 1, h => by
    have ih := vrow_top (n := n) fun i i0 i1 => h i i0 (by omega)
    have := h ((n + 1 : Nat) : Int) (by omega) (by omega)
    show _ ≤ vrow r (n + 1) * 256 + r ((n + 1 : Nat) : Int)
    rw [Int.pow_succ, ← Int.mul_assoc]
    omega
theorem start_ok {h : am_H} {w : Nat} (k : K8 h w) : ∃ h', rn m_X10_start 0 [.ref w] [] h = some (.inl none, h') ∧ Md (SW w) h h' ∧ WR h' w A0 0 := by
  have s0 := K8_s k
  have s1 := K8_s0 k
  have m0 : Md (SW w) h (uI h (w + 1) (fset 70 1024 (gI h (w + 1)))) := Md_mono (Md_uI _ _ _) fun c k q => Or.inl q
  have k0 := K8_sm m0.1 k
  have st := b_X10_start_0 k
  rw [set_ok s1 (K8_n0 k), cl_n, b_X10_start_10 k0] at st
  have sc : ∀ i, 0 ≤ i → i < 70 → gZ (uI h (w + 1) (fset 70 1024 (gI h (w + 1)))) (w + 1) i = 1024 := fun i i0 i1 => by
    rw [gZ_uI (sh1 s1)]
    unfold fset
    rw [if_pos ⟨i0, i1⟩]
    decide
  have s0' := (md_sh m0 w).trans s0
  generalize uI h (w + 1) (fset 70 1024 (gI h (w + 1))) = h1 at *
  refine ⟨_, st, Md_tr m0 (Md_tr (Md_mono (Md_uF (Sm_uF_8_2 _ _ _)) fun c k q => Or.inr (Or.inr ⟨q.1, Or.inl q.2⟩)) (Md_tr (Md_mono (Md_uF (Sm_uF_8_3 _ _ _)) fun c k q => Or.inr (Or.inr ⟨q.1, Or.inr (Or.inl q.2)⟩)) (Md_mono (Md_uF (Sm_uF_8_4 _ _ _)) fun c k q => Or.inr (Or.inr ⟨q.1, Or.inr (Or.inr q.2)⟩)))), ?_⟩
  have l3 : fJ (uF 8 (uF 8 (uF 8 h1 w 2 (.int (mI 0))) w 3 (.long (mL 0))) w 4 (.long (mL 4294967295))) w 3 = 0 := by
    rw [fJ_uF_k (by decide), fJ_uF_eq ((sh_uF _ _ _ _ _ _).trans s0') (okf_8_3 _), wl_id (by omega) (by omega)]
  refine ⟨K8_sm (Sm_tr2 (Sm_uF_8_2 _ _ _) (Sm_tr2 (Sm_uF_8_3 _ _ _) (Sm_uF_8_4 _ _ _))) k0, fun i i0 i1 => ?_, ?_, ?_, ?_, ?_, fun i i0 i1 => ?_⟩
  · rw [gZ_uF, gZ_uF, gZ_uF]; exact sc i i0 i1
  · rw [fZ_uF_k (by decide), fZ_uF_k (by decide), fZ_uF_eq s0' (okf_8_2 _), wr_id (by omega) (by omega)]
    rfl
  · rw [fJ_uF_eq ((sh_uF _ _ _ _ _ _).trans ((sh_uF _ _ _ _ _ _).trans s0')) (okf_8_4 _), wl_id (by omega) (by omega)]
    rfl
  · rw [l3]; omega
  · rw [l3]; rfl
  · have : A0.2.2.2 = 0 := rfl
    rw [this] at i1
    omega
/-- four more bytes -/
theorem end_give {w e : Nat} {L : Int} : ∀ (d i : Nat), i + d = 4 → ∀ (h : am_H) (len : Nat) (lo : Int), K8 h w → len + d ≤ 4040 → fZ h w 2 = len → fJ h w 3 = lo → 0 ≤ lo ∧ lo < 4294967296 → vrow (gZ h (w + 2)) len * 4294967296 + lo = L → (∀ j, 0 ≤ j → j < (len : Int) → 0 ≤ gZ h (w + 2) j ∧ gZ h (w + 2) j ≤ 255 + e) → ∃ h', rn m_X10_end 2 [.ref w, .int (mI (i : Int))] [] h = rn m_X10_end 32 [.ref w, .int (mI (((len + d : Nat) : Int) - 1))] [] h' ∧ Md (SW w) h h' ∧ K8 h' w ∧ fZ h' w 2 = (len + d : Nat) ∧ (0 ≤ fJ h' w 3 ∧ fJ h' w 3 < 4294967296) ∧ vrow (gZ h' (w + 2)) (len + d) * 4294967296 + fJ h' w 3 = L * 256 ^ d ∧ ∀ j, 0 ≤ j → j < ((len + d : Nat) : Int) → 0 ≤ gZ h' (w + 2) j ∧ gZ h' (w + 2) j ≤ 255 + e
  | 0, i, hi, h, len, lo, k, hl, e2, e3, hlo, ev, eb => by
    have st := b_X10_end_2 (a0 := w) (h := h) (wr_id (z := (i : Int)) (by omega) (by omega)) k
    rw [if_pos (by omega), e2, show min (len : Int) 4096 = len by omega] at st
    exact ⟨h, st, Md_rf _ _, k, e2, by rw [e3]; exact hlo, by rw [e3, Int.pow_zero, Int.mul_one]; exact ev, eb⟩
  | d + 1, i, hi, h, len, lo, k, hl, e2, e3, hlo, ev, eb => by
    have st := b_X10_end_2 (a0 := w) (h := h) (wr_id (z := (i : Int)) (by omega) (by omega)) k
    rw [if_neg (by omega)] at st
    obtain ⟨h1, r1, m1, g2, g3, g4, g5, g6, g7⟩ := giveByte_ok (len := len) k e2 e3 (by omega) hlo
    rw [r1, cl_n, b_X10_end_11, show (i : Int) + 1 = ((i + 1 : Nat) : Int) by omega] at st
    have vv : vrow (gZ h1 (w + 2)) (len + 1) = vrow (gZ h (w + 2)) len * 256 + lo / 16777216 := by
      show vrow _ len * 256 + gZ h1 (w + 2) (len : Int) = _
      rw [vrow_congr (r' := gZ h (w + 2)) fun i i0 i1 => g7 i (by omega), g6]
    obtain ⟨h2, r2, m2, k2, f2, f3, f4, f5⟩ := end_give (w := w) (e := e) (L := L * 256) d (i + 1) (by omega) h1 (len + 1) (lo * 256 % 4294967296) (K8_sm m1.1 k) (by omega) g2 g3 (by omega) (by rw [vv]; omega) (fun j j0 j1 => by
      by_cases q : j = len
      · rw [q, g6]; omega
      · rw [g7 j q]; exact eb j j0 (by omega))
    have el : len + 1 + d = len + (d + 1) := by omega
    rw [el] at r2 f2 f4 f5
    refine ⟨h2, st.trans r2, Md_tr m1 m2, k2, f2, f3, ?_, f5⟩
    rw [f4, Int.mul_assoc, show (256 : Int) * 256 ^ d = 256 ^ (d + 1) by rw [Int.pow_succ, Int.mul_comm]]
/-- the carries -/
theorem end_carry {w n e : Nat} {L : Int} (hn : n ≤ 4096) (he : e ≤ 20000) : ∀ (p : Nat) (h : am_H), p < n → K8 h w → vrow (gZ h (w + 2)) n = L → (∀ j, 0 ≤ j → j < (p : Int) → 0 ≤ gZ h (w + 2) j ∧ gZ h (w + 2) j ≤ 255 + e) → (0 ≤ gZ h (w + 2) p ∧ gZ h (w + 2) p ≤ 300 + e + 100) → (∀ j, (p : Int) < j → j < (n : Int) → 0 ≤ gZ h (w + 2) j ∧ gZ h (w + 2) j ≤ 255) → ∃ h', rn m_X10_end 32 [.ref w, .int (mI (p : Int))] [] h = some (.inl none, h') ∧ Md (SW w) h h' ∧ (∀ k, fZ h' w k = fZ h w k) ∧ vrow (gZ h' (w + 2)) n = L ∧ (∀ j, 0 < j → j < (n : Int) → 0 ≤ gZ h' (w + 2) j ∧ gZ h' (w + 2) j ≤ 255) ∧ 0 ≤ gZ h' (w + 2) 0
  | 0, h, hp, k, ev, eb, ep, ea => by
    have st := b_X10_end_32 (a0 := w) (h := h) (wr_id (z := ((0 : Nat) : Int)) (by omega) (by omega)) k (fun g => absurd (by omega) g) (fun g => absurd (by omega) g)
    rw [if_pos (by omega)] at st
    exact ⟨h, st, Md_rf _ _, fun _ => rfl, ev, fun j j0 j1 => ea j (by omega) j1, ep.1⟩
  | p + 1, h, hp, k, ev, eb, ep, ea => by
    have w1 : wr (((p + 1 : Nat) : Int) - 1) = (p : Int) := by rw [wr_id (by omega) (by omega)]; omega
    have st := b_X10_end_32 (a0 := w) (h := h) (wr_id (z := ((p + 1 : Nat) : Int)) (by omega) (by omega)) k (fun _ => by rw [w1]; omega) (fun _ => by omega)
    have p8 : (2 : Int) ^ 8 = 256 := rfl
    have s1 := sh1 (K8_s1 k)
    have bp := eb p (by omega) (by omega)
    rw [if_neg (by omega), w1, p8, gZ_uZ_nj _ s1 (show ((p + 1 : Nat) : Int) ≠ (p : Int) by omega), show ((p + 1 : Nat) : Int) + -1 = (p : Int) by omega] at st
    have md : Md (fun c _ => c = w + 2) h (uZ (uZ h (w + 2) p (gZ h (w + 2) p + gZ h (w + 2) ((p + 1 : Nat) : Int) / 256)) (w + 2) ((p + 1 : Nat) : Int) (gZ h (w + 2) ((p + 1 : Nat) : Int) % 256)) := Md_tr (Md_uZ _ _ _ _) (Md_uZ _ _ _ _)
    have rr : gZ (uZ (uZ h (w + 2) p (gZ h (w + 2) p + gZ h (w + 2) ((p + 1 : Nat) : Int) / 256)) (w + 2) ((p + 1 : Nat) : Int) (gZ h (w + 2) ((p + 1 : Nat) : Int) % 256)) (w + 2) = cry (gZ h (w + 2)) (p + 1) (gZ h (w + 2) ((p + 1 : Nat) : Int) / 256) := by
      funext i
      rw [gZ_uZ' (sh1 ((sh_uZ _ _ _ _ _).trans (K8_s1 k))), gZ_uZ' s1]
      unfold cry
      by_cases q1 : i = ((p + 1 : Nat) : Int)
      · rw [if_pos q1, if_neg (by omega), if_pos q1, wr_id (by omega) (by omega), q1]
        omega
      · rw [if_neg q1]
        by_cases q2 : i = (p : Int)
        · rw [if_pos q2, if_pos (by omega), wr_id (by omega) (by omega), q2]
        · rw [if_neg q2, if_neg (by omega), if_neg q1]
    have k1 := K8_sm md.1 k
    obtain ⟨d, hd⟩ : ∃ d, n = p + 1 + 1 + d := ⟨n - (p + 1 + 1), by omega⟩
    have ev1 : vrow (cry (gZ h (w + 2)) (p + 1) (gZ h (w + 2) ((p + 1 : Nat) : Int) / 256)) n = L := by
      rw [← ev, hd]
      exact vrow_cry _ _ (by omega) d
    have fz : ∀ k, fZ (uZ (uZ h (w + 2) p (gZ h (w + 2) p + gZ h (w + 2) ((p + 1 : Nat) : Int) / 256)) (w + 2) ((p + 1 : Nat) : Int) (gZ h (w + 2) ((p + 1 : Nat) : Int) % 256)) w k = fZ h w k := fun k => by rw [fZ_uZ, fZ_uZ]
    generalize uZ (uZ h (w + 2) p (gZ h (w + 2) p + gZ h (w + 2) ((p + 1 : Nat) : Int) / 256)) (w + 2) ((p + 1 : Nat) : Int) (gZ h (w + 2) ((p + 1 : Nat) : Int) % 256) = h1 at *
    obtain ⟨h2, r2, m2, f2, v2, a2, z2⟩ := end_carry (L := L) hn he p h1 (by omega) k1 (by rw [rr]; exact ev1) (fun j j0 j1 => by
      rw [rr]
      unfold cry
      rw [if_neg (by omega), if_neg (by omega)]
      exact eb j j0 (by omega)) (by
      rw [rr]
      unfold cry
      rw [if_pos (by omega)]
      omega) (fun j j0 j1 => by
      rw [rr]
      unfold cry
      rw [if_neg (by omega)]
      by_cases q : j = ((p + 1 : Nat) : Int)
      · rw [if_pos q, q]; omega
      · rw [if_neg q]; exact ea j (by omega) j1)
    exact ⟨h2, st.trans r2, Md_tr (Md_mono md fun c k q => Or.inr (Or.inl q)) m2, fun k => (f2 k).trans (fz k), v2, a2, z2⟩
theorem end_ok {h : am_H} {w e : Nat} {A : cA} (q : WR h w A e) (ok : okA A) (hl : A.2.2.2 ≤ 4000) (he : e ≤ 20000) : ∃ h', rn m_X10_end 0 [.ref w, am_J] [] h = some (.inl none, h') ∧ Md (SW w) h h' ∧ fZ h' w 2 = (A.2.2.2 + 4 : Nat) ∧ Dig (gZ h' (w + 2)) (A.2.2.2 + 4) A.2.1 := by
  obtain ⟨k, q2, q3, q4, q5, q6, q7⟩ := q
  obtain ⟨h1, r1, m1, k1, f1, f3, f4, f5⟩ := end_give (w := w) (e := e) (L := A.2.1) 4 0 (by omega) h A.2.2.2 _ k (by omega) q3 rfl q5 q6 q7
  have p4 : (256 : Int) ^ 4 = 4294967296 := by decide
  rw [p4] at f4
  obtain ⟨h2, r2, m2, g2, g3, g4, g5⟩ := end_carry (w := w) (n := A.2.2.2 + 4) (e := e) (L := A.2.1) (by omega) he (A.2.2.2 + 3) h1 (by omega) k1 (by omega) (fun j j0 j1 => f5 j j0 (by omega)) (by have := f5 ((A.2.2.2 + 3 : Nat) : Int) (by omega) (by omega); omega) (fun j j0 j1 => by omega)
  refine ⟨h2, (b_X10_end_0).trans (r1.trans ?_), Md_tr m1 m2, (g2 2).trans f1, g3, fun i i0 i1 => ?_⟩
  · rw [show ((A.2.2.2 + 4 : Nat) : Int) - 1 = ((A.2.2.2 + 3 : Nat) : Int) by omega]
    exact r2
  · by_cases c : i = 0
    · rw [c]
      refine ⟨g5, ?_⟩
      have tp := vrow_top (r := gZ h2 (w + 2)) (n := A.2.2.2 + 3) fun i i0 i1 => by
        by_cases c : i = 0
        · rw [c]; exact g5
        · exact (g4 i (by omega) (by omega)).1
      have o := ok.2
      have up : A.2.1 < 256 ^ (A.2.2.2 + 3) * 256 := by
        rw [Int.pow_add, Int.mul_assoc, show (256 : Int) ^ 3 * 256 = 4294967296 by decide]
        omega
      have g3' : vrow (gZ h2 (w + 2)) (A.2.2.2 + 3 + 1) = A.2.1 := g3
      rw [g3'] at tp
      have pz : (0 : Int) < 256 ^ (A.2.2.2 + 3) := Int.pow_pos (by decide)
      rcases Int.lt_or_le (gZ h2 (w + 2) 0) 256 with g | g
      · omega
      · have := Int.mul_le_mul_of_nonneg_right g (Int.le_of_lt pz)
        omega
    · exact g4 i (by omega) i1
theorem written_ok {h : am_H} {w n : Nat} (k : K8 h w) (al : w + 2 < hnx h) (e2 : fZ h w 2 = n) (hn : n ≤ 4096) : ∃ h', rn m_X10_written 0 [.ref w, am_J] [] h = some (.inl (some (.ref (hnx h))), h') ∧ Fr (fun _ _ => False) 1 n h h' ∧ hnx h' = hnx h + 1 ∧ sh h' (hnx h) = (1, 0) ∧ gn h' (hnx h) = n ∧ ∀ i, 0 ≤ i → i < (n : Int) → gZ h' (hnx h) i = gZ h (w + 2) i := by
  have st := b_X10_written_0 (a0 := w) (n_8 := n) (h := h) k (by rw [e2]; omega) (by omega)
  have sA : sh (aI 0 n h) (hnx h) = (1, 0) := sh_aI (by omega)
  have nA : gn (aI 0 n h) (hnx h) = n := gn_aI _ _ _
  have frA : Fr (fun _ _ => False) 1 n h (aI 0 n h) := Fr_alc _ _ _
  have k1 := K8_fr frA al k
  have eg : gI (aI 0 n h) (w + 2) = gI h (w + 2) := by
    funext i
    have := frZ frA al (fun q => q)
    have := congrFun this i
    unfold gZ at this
    exact Int32.toInt_inj.mp this
  rw [b_X10_written_10 k1, copy_ok (K8_s1 k1) (K8_n1 k1) sA nA (by omega), cl_n, b_X10_written_19] at st
  have md := Md_uI (aI 0 n h) (hnx h) (fcopy (min 4096 n) (gI (aI 0 n h) (w + 2)) (gI (aI 0 n h) (hnx h)))
  refine ⟨_, st, fr_new md, nx_new md, (md_sh md _).trans sA, (md_gn md _).trans nA, fun i i0 i1 => ?_⟩
  rw [gZ_uI (sh1 sA)]
  unfold fcopy
  rw [if_pos (by omega), eg]
  rfl
