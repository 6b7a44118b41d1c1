/-! ===== the class's bits and numbers ===== -/
theorem i_X10_bit_0 : am_i m_X10_bit 0 = some (0, .aload_n 0, 1, [], 0) := rfl
theorem i_X10_bit_1 : am_i m_X10_bit 1 = some (1, .getfield 9, 3, [8, 0, 0], 0) := rfl
theorem i_X10_bit_4 : am_i m_X10_bit 4 = some (4, .iload_n 1, 1, [], 0) := rfl
theorem i_X10_bit_5 : am_i m_X10_bit 5 = some (5, .invokestatic 35, 3, [32], 0) := rfl
theorem i_X10_bit_8 : am_i m_X10_bit 8 = some (8, .istore_n 3, 1, [], 0) := rfl
theorem i_X10_bit_9 : am_i m_X10_bit 9 = some (9, .aload_n 0, 1, [], 0) := rfl
theorem i_X10_bit_10 : am_i m_X10_bit 10 = some (10, .getfield 26, 3, [8, 4, 0], 0) := rfl
theorem i_X10_bit_13 : am_i m_X10_bit 13 = some (13, .ldc2_w 39, 3, [], 2048) := rfl
theorem i_X10_bit_16 : am_i m_X10_bit 16 = some (16, .ldiv, 1, [], 0) := rfl
theorem i_X10_bit_17 : am_i m_X10_bit 17 = some (17, .iload_n 3, 1, [], 0) := rfl
theorem i_X10_bit_18 : am_i m_X10_bit 18 = some (18, .i2l, 1, [], 0) := rfl
theorem i_X10_bit_19 : am_i m_X10_bit 19 = some (19, .lmul, 1, [], 0) := rfl
theorem i_X10_bit_20 : am_i m_X10_bit 20 = some (20, .lstore 4, 2, [], 0) := rfl
theorem i_X10_bit_22 : am_i m_X10_bit 22 = some (22, .iload_n 2, 1, [], 0) := rfl
theorem i_X10_bit_23 : am_i m_X10_bit 23 = some (23, .ifCond .eq 33, 3, [], 0) := rfl
theorem i_X10_bit_26 : am_i m_X10_bit 26 = some (26, .aload_n 0, 1, [], 0) := rfl
theorem i_X10_bit_27 : am_i m_X10_bit 27 = some (27, .getfield 9, 3, [8, 0, 0], 0) := rfl
theorem i_X10_bit_30 : am_i m_X10_bit 30 = some (30, .iload_n 1, 1, [], 0) := rfl
theorem i_X10_bit_31 : am_i m_X10_bit 31 = some (31, .iload_n 3, 1, [], 0) := rfl
theorem i_X10_bit_32 : am_i m_X10_bit 32 = some (32, .iload_n 3, 1, [], 0) := rfl
theorem i_X10_bit_33 : am_i m_X10_bit 33 = some (33, .bipush 32, 2, [], 32) := rfl
theorem i_X10_bit_35 : am_i m_X10_bit 35 = some (35, .idiv, 1, [], 0) := rfl
theorem i_X10_bit_36 : am_i m_X10_bit 36 = some (36, .isub, 1, [], 0) := rfl
theorem i_X10_bit_37 : am_i m_X10_bit 37 = some (37, .invokestatic 41, 3, [33], 0) := rfl
theorem i_X10_bit_40 : am_i m_X10_bit 40 = some (40, .aload_n 0, 1, [], 0) := rfl
theorem i_X10_bit_41 : am_i m_X10_bit 41 = some (41, .lload 4, 2, [], 0) := rfl
theorem i_X10_bit_43 : am_i m_X10_bit 43 = some (43, .aload_n 0, 1, [], 0) := rfl
theorem i_X10_bit_44 : am_i m_X10_bit 44 = some (44, .getfield 26, 3, [8, 4, 0], 0) := rfl
theorem i_X10_bit_47 : am_i m_X10_bit 47 = some (47, .lload 4, 2, [], 0) := rfl
theorem i_X10_bit_49 : am_i m_X10_bit 49 = some (49, .lsub, 1, [], 0) := rfl
theorem i_X10_bit_50 : am_i m_X10_bit 50 = some (50, .invokevirtual 45, 3, [46, 8], 0) := rfl
theorem i_X10_bit_56 : am_i m_X10_bit 56 = some (56, .aload_n 0, 1, [], 0) := rfl
theorem i_X10_bit_57 : am_i m_X10_bit 57 = some (57, .getfield 9, 3, [8, 0, 0], 0) := rfl
theorem i_X10_bit_60 : am_i m_X10_bit 60 = some (60, .iload_n 1, 1, [], 0) := rfl
theorem i_X10_bit_61 : am_i m_X10_bit 61 = some (61, .iload_n 3, 1, [], 0) := rfl
theorem i_X10_bit_62 : am_i m_X10_bit 62 = some (62, .sipush 2048, 3, [], 2048) := rfl
theorem i_X10_bit_65 : am_i m_X10_bit 65 = some (65, .iload_n 3, 1, [], 0) := rfl
theorem i_X10_bit_66 : am_i m_X10_bit 66 = some (66, .isub, 1, [], 0) := rfl
theorem i_X10_bit_67 : am_i m_X10_bit 67 = some (67, .bipush 32, 2, [], 32) := rfl
theorem i_X10_bit_69 : am_i m_X10_bit 69 = some (69, .idiv, 1, [], 0) := rfl
theorem i_X10_bit_70 : am_i m_X10_bit 70 = some (70, .iadd, 1, [], 0) := rfl
theorem i_X10_bit_71 : am_i m_X10_bit 71 = some (71, .invokestatic 41, 3, [33], 0) := rfl
theorem i_X10_bit_74 : am_i m_X10_bit 74 = some (74, .aload_n 0, 1, [], 0) := rfl
theorem i_X10_bit_75 : am_i m_X10_bit 75 = some (75, .lconst 0, 1, [], 0) := rfl
theorem i_X10_bit_76 : am_i m_X10_bit 76 = some (76, .lload 4, 2, [], 0) := rfl
theorem i_X10_bit_78 : am_i m_X10_bit 78 = some (78, .invokevirtual 45, 3, [46, 8], 0) := rfl
theorem b_X10_bit_0 {a0 : Nat} {x1 x2 x1' x2' : Int} {h : am_H} (w1 : wr x1 = x1') (w2 : wr x2 = x2') (k1 : K8 h a0) (g2 : 0 ≤ x1' ∧ x1' < (70 : Int)) : rn m_X10_bit 0 [.ref a0, .int (mI x1), .int (mI x2), am_J, am_J, am_J] [] h = if x2' = 0 then cl m_X10_bit 81 [.ref a0, .int (mI x1), .int (mI x2), .int (mI (gZ h (a0 + 1) x1')), .long (mL ((Int.tdiv (fJ h a0 4) 2048) * (gZ h (a0 + 1) x1'))), am_J] [] (rn m_X10_narrow 0 [.ref a0, .long (mL 0), am_J, .long (mL ((Int.tdiv (fJ h a0 4) 2048) * (gZ h (a0 + 1) x1'))), am_J, am_J] [] (uZ h (a0 + 1) x1' ((gZ h (a0 + 1) x1') + (Int.tdiv (wr (2048 - (gZ h (a0 + 1) x1'))) 32)))) else cl m_X10_bit 53 [.ref a0, .int (mI x1), .int (mI x2), .int (mI (gZ h (a0 + 1) x1')), .long (mL ((Int.tdiv (fJ h a0 4) 2048) * (gZ h (a0 + 1) x1'))), am_J] [] (rn m_X10_narrow 0 [.ref a0, .long (mL ((Int.tdiv (fJ h a0 4) 2048) * (gZ h (a0 + 1) x1'))), am_J, .long (mL ((fJ h a0 4) - ((Int.tdiv (fJ h a0 4) 2048) * (gZ h (a0 + 1) x1')))), am_J, am_J] [] (uZ h (a0 + 1) x1' ((gZ h (a0 + 1) x1') - (Int.tdiv (gZ h (a0 + 1) x1') 32)))) := by
  refine (tq_aload_n i_X10_bit_0 rfl (isA_ref _) rfl).trans ?_
  refine (tq_getfield i_X10_bit_1 (K8_s k1) (gR (g_8_0 (K8_s k1)) (K8_e0 k1)) (isV_ref _) rfl).trans ?_
  refine (tq_iload_n i_X10_bit_4 rfl rfl).trans ?_
  refine (c_X7_get i_X10_bit_5 (ltd d_X10_bit (by decide)) (isA_ref _) stOk_0 rfl).trans ?_
  refine (congrArg (cl _ _ _ _) (get_ok w1 (K8_n0 k1) (K8_s0 k1) (by decide) g2)).trans ?_
  refine (cl_v _ _ _ _ _ _).trans ?_
  refine (tq_istore_n (L' := [.ref a0, .int (mI x1), .int (mI x2), .int (mI (gZ h (a0 + 1) x1')), am_J, am_J]) i_X10_bit_8 rfl rfl).trans ?_
  refine (tq_aload_n i_X10_bit_9 rfl (isA_ref _) rfl).trans ?_
  refine (tq_getfield i_X10_bit_10 (K8_s k1) (g_8_4 (K8_s k1)) (isV_J _) rfl).trans ?_
  refine (tq_ldc2_w i_X10_bit_13 rfl).trans ?_
  refine (tq_ldiv i_X10_bit_16 (wl_fJ _ _ _) wl_2048 (by decide) rfl).trans ?_
  refine (tq_iload_n i_X10_bit_17 rfl rfl).trans ?_
  refine (tq_i2l i_X10_bit_18 (wr_gZ _ _ _) rfl).trans ?_
  refine (tq_lmul i_X10_bit_19 rfl).trans ?_
  refine (tq_lstore (L' := [.ref a0, .int (mI x1), .int (mI x2), .int (mI (gZ h (a0 + 1) x1')), .long (mL ((Int.tdiv (fJ h a0 4) 2048) * (gZ h (a0 + 1) x1'))), am_J]) i_X10_bit_20 rfl rfl).trans ?_
  refine (tq_iload_n i_X10_bit_22 rfl rfl).trans ?_
  refine (tq_if_eq (pt := 56) i_X10_bit_23 w2 (by decide) rfl).trans ?_
  refine ite_congr rfl (fun c1 => ?_) (fun c1 => ?_)
  · refine (tq_aload_n i_X10_bit_56 rfl (isA_ref _) rfl).trans ?_
    refine (tq_getfield i_X10_bit_57 (K8_s k1) (gR (g_8_0 (K8_s k1)) (K8_e0 k1)) (isV_ref _) rfl).trans ?_
    refine (tq_iload_n i_X10_bit_60 rfl rfl).trans ?_
    refine (tq_iload_n i_X10_bit_61 rfl rfl).trans ?_
    refine (tq_sipush i_X10_bit_62 rfl).trans ?_
    refine (tq_iload_n i_X10_bit_65 rfl rfl).trans ?_
    refine (tq_isub i_X10_bit_66 rfl).trans ?_
    refine (tq_bipush i_X10_bit_67 rfl).trans ?_
    refine (tq_idiv i_X10_bit_69 rfl w_32 (by decide) rfl).trans ?_
    refine (tq_iadd i_X10_bit_70 rfl).trans ?_
    refine (c_X7_put i_X10_bit_71 (ltd d_X10_bit (by decide)) (isA_ref _) stOk_0 rfl).trans ?_
    refine (congrArg (cl _ _ _ _) (put_ok w1 (K8_n0 k1) (K8_s0 k1) g2)).trans ?_
    refine (cl_n _ _ _ _ _).trans ?_
    refine (tq_aload_n i_X10_bit_74 rfl (isA_ref _) rfl).trans ?_
    refine (tq_lconst i_X10_bit_75 rfl).trans ?_
    refine (tq_lload i_X10_bit_76 rfl rfl).trans ?_
    exact c_X10_narrow i_X10_bit_78 ((sh_uZ _ _ _ _ _).trans (K8_s k1)) (ltd d_X10_bit (by decide)) stOk_0 rfl
  · refine (tq_aload_n i_X10_bit_26 rfl (isA_ref _) rfl).trans ?_
    refine (tq_getfield i_X10_bit_27 (K8_s k1) (gR (g_8_0 (K8_s k1)) (K8_e0 k1)) (isV_ref _) rfl).trans ?_
    refine (tq_iload_n i_X10_bit_30 rfl rfl).trans ?_
    refine (tq_iload_n i_X10_bit_31 rfl rfl).trans ?_
    refine (tq_iload_n i_X10_bit_32 rfl rfl).trans ?_
    refine (tq_bipush i_X10_bit_33 rfl).trans ?_
    refine (tq_idiv i_X10_bit_35 (wr_gZ _ _ _) w_32 (by decide) rfl).trans ?_
    refine (tq_isub i_X10_bit_36 rfl).trans ?_
    refine (c_X7_put i_X10_bit_37 (ltd d_X10_bit (by decide)) (isA_ref _) stOk_0 rfl).trans ?_
    refine (congrArg (cl _ _ _ _) (put_ok w1 (K8_n0 k1) (K8_s0 k1) g2)).trans ?_
    refine (cl_n _ _ _ _ _).trans ?_
    refine (tq_aload_n i_X10_bit_40 rfl (isA_ref _) rfl).trans ?_
    refine (tq_lload i_X10_bit_41 rfl rfl).trans ?_
    refine (tq_aload_n i_X10_bit_43 rfl (isA_ref _) rfl).trans ?_
    refine (tq_getfield i_X10_bit_44 ((sh_uZ _ _ _ _ _).trans (K8_s k1)) ((g_8_4 ((sh_uZ _ _ _ _ _).trans (K8_s k1))).trans (congrArg (fun z => Value.long (mL z)) (fJ_uZ _ _ _ _ _ _))) (isV_J _) rfl).trans ?_
    refine (tq_lload i_X10_bit_47 rfl rfl).trans ?_
    refine (tq_lsub i_X10_bit_49 rfl).trans ?_
    exact c_X10_narrow i_X10_bit_50 ((sh_uZ _ _ _ _ _).trans (K8_s k1)) (ltd d_X10_bit (by decide)) stOk_0 rfl
theorem i_X10_bit_53 : am_i m_X10_bit 53 = some (53, .goto 28, 3, [], 0) := rfl
theorem b_X10_bit_53 {v0 v1 v2 v3 v4 v5 : Value} {h : am_H} : rn m_X10_bit 53 [v0, v1, v2, v3, v4, v5] [] h = rn m_X10_bit 81 [v0, v1, v2, v3, v4, v5] [] h := by
  refine (tq_goto (pc' := 81) i_X10_bit_53 (by decide)).trans ?_
  rfl
theorem i_X10_bit_81 : am_i m_X10_bit 81 = some (81, .return_, 1, [], 0) := rfl
theorem b_X10_bit_81 {v0 v1 v2 v3 v4 v5 : Value} {h : am_H} : rn m_X10_bit 81 [v0, v1, v2, v3, v4, v5] [] h = some (.inl none, h) := by
  exact tq_return i_X10_bit_81 r_X10_bit
theorem i_X10_plain_0 : am_i m_X10_plain 0 = some (0, .aload_n 0, 1, [], 0) := rfl
theorem i_X10_plain_1 : am_i m_X10_plain 1 = some (1, .getfield 26, 3, [8, 4, 0], 0) := rfl
theorem i_X10_plain_4 : am_i m_X10_plain 4 = some (4, .ldc2_w 49, 3, [], 2) := rfl
theorem i_X10_plain_7 : am_i m_X10_plain 7 = some (7, .ldiv, 1, [], 0) := rfl
theorem i_X10_plain_8 : am_i m_X10_plain 8 = some (8, .lstore_n 2, 1, [], 0) := rfl
theorem i_X10_plain_9 : am_i m_X10_plain 9 = some (9, .aload_n 0, 1, [], 0) := rfl
theorem i_X10_plain_10 : am_i m_X10_plain 10 = some (10, .iload_n 1, 1, [], 0) := rfl
theorem i_X10_plain_11 : am_i m_X10_plain 11 = some (11, .ifCond .eq 7, 3, [], 0) := rfl
theorem i_X10_plain_14 : am_i m_X10_plain 14 = some (14, .lload_n 2, 1, [], 0) := rfl
theorem i_X10_plain_15 : am_i m_X10_plain 15 = some (15, .goto 4, 3, [], 0) := rfl
theorem i_X10_plain_18 : am_i m_X10_plain 18 = some (18, .lconst 0, 1, [], 0) := rfl
theorem i_X10_plain_19 : am_i m_X10_plain 19 = some (19, .lload_n 2, 1, [], 0) := rfl
theorem i_X10_plain_20 : am_i m_X10_plain 20 = some (20, .invokevirtual 45, 3, [46, 8], 0) := rfl
theorem b_X10_plain_0 {a0 : Nat} {x1 x1' : Int} {h : am_H} (w1 : wr x1 = x1') (k1 : K8 h a0) : rn m_X10_plain 0 [.ref a0, .int (mI x1), am_J, am_J] [] h = cl m_X10_plain 23 [.ref a0, .int (mI x1), .long (mL (Int.tdiv (fJ h a0 4) 2)), am_J] [] (rn m_X10_narrow 0 [.ref a0, .long (mL (if x1' = 0 then 0 else Int.tdiv (fJ h a0 4) 2)), am_J, .long (mL (Int.tdiv (fJ h a0 4) 2)), am_J, am_J] [] h) := by
  refine (tq_aload_n i_X10_plain_0 rfl (isA_ref _) rfl).trans ?_
  refine (tq_getfield i_X10_plain_1 (K8_s k1) (g_8_4 (K8_s k1)) (isV_J _) rfl).trans ?_
  refine (tq_ldc2_w i_X10_plain_4 rfl).trans ?_
  refine (tq_ldiv i_X10_plain_7 (wl_fJ _ _ _) wl_2 (by decide) rfl).trans ?_
  refine (tq_lstore_n (L' := [.ref a0, .int (mI x1), .long (mL (Int.tdiv (fJ h a0 4) 2)), am_J]) i_X10_plain_8 rfl rfl).trans ?_
  refine (tq_aload_n i_X10_plain_9 rfl (isA_ref _) rfl).trans ?_
  refine (tq_iload_n i_X10_plain_10 rfl rfl).trans ?_
  refine (tq_if_eq (pt := 18) i_X10_plain_11 w1 (by decide) rfl).trans ?_
  refine Eq.trans (b := if x1' = 0 then rn m_X10_plain 19 [.ref a0, .int (mI x1), .long (mL (Int.tdiv (fJ h a0 4) 2)), am_J] [.long (mL 0), .ref a0] h else rn m_X10_plain 19 [.ref a0, .int (mI x1), .long (mL (Int.tdiv (fJ h a0 4) 2)), am_J] [.long (mL (Int.tdiv (fJ h a0 4) 2)), .ref a0] h) (ite_congr rfl (fun c1 => ?_) (fun c1 => ?_)) ?_
  · refine (tq_lconst i_X10_plain_18 rfl).trans ?_
    rfl
  · refine (tq_lload_n i_X10_plain_14 rfl rfl).trans ?_
    refine (tq_goto (pc' := 19) i_X10_plain_15 (by decide)).trans ?_
    rfl
  refine Eq.trans ite_J ?_
  refine (tq_lload_n i_X10_plain_19 rfl rfl).trans ?_
  exact c_X10_narrow i_X10_plain_20 (K8_s k1) (ltd d_X10_plain (by decide)) stOk_0 rfl
theorem i_X10_plain_23 : am_i m_X10_plain 23 = some (23, .return_, 1, [], 0) := rfl
theorem b_X10_plain_23 {v0 v1 v2 v3 : Value} {h : am_H} : rn m_X10_plain 23 [v0, v1, v2, v3] [] h = some (.inl none, h) := by
  exact tq_return i_X10_plain_23 r_X10_plain
theorem lgt (w e : Nat) : w + 1 ≠ w ∧ w + 2 ≠ w := by omega
theorem bit_ok {h : am_H} {w e : Nat} {A : cA} {c x1 x2 x' : Int} {b : Bool} (w1 : wr x1 = c) (w2 : wr x2 = x') (hb : x' = 0 ↔ b = false) (q : WR h w A e) (ok : okA A) (hl : A.2.2.2 ≤ 4000) (he : e ≤ 20000) (hc : 0 ≤ c ∧ c < 70) : ∃ h', rn m_X10_bit 0 [.ref w, .int (mI x1), .int (mI x2), am_J, am_J, am_J] [] h = some (.inl none, h') ∧ Md (SW w) h h' ∧ WR h' w (stA A (c, b)) (e + 1) := by
  obtain ⟨k, q2, q3, q4, q5, q6, q7⟩ := id q
  have bb := bdA_b ok c
  have o1 := ok.1 c
  have o2 := ok.2.1
  have o4 := ok.2.2
  have st := b_X10_bit_0 (a0 := w) (h := h) w1 w2 k hc
  rw [q4, q2 c hc.1 hc.2, wr_id (z := 2048 - A.1 c) (by omega) (by omega), tdv (x := A.2.2.1) (by omega), tdv (x := A.1 c) (by omega), tdv (x := 2048 - A.1 c) (by omega)] at st
  have eb : A.2.2.1 / 2048 * A.1 c = bdA A c := rfl
  rw [eb] at st
  have s1 := sh1 (K8_s0 k)
  have m1 : ∀ v, Md (fun c _ => c = w + 1) h (uZ h (w + 1) c v) := fun v => Md_uZ _ _ _ _
  have W1 : ∀ v, -100000 ≤ v ∧ v ≤ 100000 → WF (uZ h (w + 1) c v) w (setA A.1 c v) A.2.1 A.2.2.1 A.2.2.2 e := by
    intro v hv
    have e2 : gZ (uZ h (w + 1) c v) (w + 2) = gZ h (w + 2) := md_Z (m1 v) (by omega)
    refine ⟨K8_sm (m1 v).1 k, fun i i0 i1 => ?_, (md_fZ (m1 v) (by omega)).trans q3, (md_fJ (m1 v) (by omega)).trans q4, by rw [md_fJ (m1 v) (by omega)]; exact q5, by rw [md_fJ (m1 v) (by omega), e2]; exact q6, by rw [e2]; exact q7⟩
    rw [gZ_uZ' s1]
    unfold setA
    split
    · exact wr_id (by omega) (by omega)
    · exact q2 i i0 i1
  unfold stA
  rw [if_neg (by omega)]
  cases b with
  | false =>
    have x0 := hb.mpr rfl
    rw [if_pos x0] at st
    obtain ⟨h2, e2, m2, r2⟩ := narrow_ok (a := 0) (nw := bdA A c) (W1 (A.1 c + (2048 - A.1 c) / 32) (by omega)) hl he (by omega) (by omega) (by omega)
    rw [e2, cl_n, b_X10_bit_81] at st
    rw [if_neg (show ¬ ((c, false) : Int × Bool).2 = true from Bool.false_ne_true)]
    rw [Int.add_zero] at r2
    exact ⟨h2, st, Md_tr (Md_mono (m1 _) fun c k q => Or.inl q) m2, r2⟩
  | true =>
    have x0 : ¬ x' = 0 := fun q => by have := hb.mp q; cases this
    rw [if_neg x0] at st
    obtain ⟨h2, e2, m2, r2⟩ := narrow_ok (a := bdA A c) (nw := A.2.2.1 - bdA A c) (W1 (A.1 c - A.1 c / 32) (by omega)) hl he (by omega) (by omega) (by omega)
    rw [e2, cl_n, b_X10_bit_53, b_X10_bit_81] at st
    rw [if_pos rfl]
    exact ⟨h2, st, Md_tr (Md_mono (m1 _) fun c k q => Or.inl q) m2, r2⟩
theorem plain_ok {h : am_H} {w e : Nat} {A : cA} {x1 x' : Int} {b : Bool} (w1 : wr x1 = x') (hb : x' = 0 ↔ b = false) (q : WR h w A e) (ok : okA A) (hl : A.2.2.2 ≤ 4000) (he : e ≤ 20000) : ∃ h', rn m_X10_plain 0 [.ref w, .int (mI x1), am_J, am_J] [] h = some (.inl none, h') ∧ Md (SW w) h h' ∧ WR h' w (stA A (-1, b)) (e + 1) := by
  obtain ⟨k, q2, q3, q4, q5, q6, q7⟩ := id q
  have o2 := ok.2.1
  have o4 := ok.2.2
  have st := b_X10_plain_0 (a0 := w) (h := h) w1 k
  rw [q4, tdv (by omega)] at st
  unfold stA
  rw [if_pos (show (((-1 : Int), b) : Int × Bool).1 < 0 from (by decide : (-1 : Int) < 0))]
  have key : (if x' = 0 then 0 else A.2.2.1 / 2) = (if b = true then A.2.2.1 / 2 else 0) := by
    cases b with
    | false => rw [if_pos (hb.mpr rfl), if_neg (by decide)]
    | true => rw [if_neg (fun q => by have := hb.mp q; cases this), if_pos rfl]
  rw [key] at st
  obtain ⟨h2, e2, m2, r2⟩ := narrow_ok (a := if b = true then A.2.2.1 / 2 else 0) (nw := A.2.2.1 / 2) q hl he (by split <;> omega) (by omega) (by split <;> omega)
  rw [e2, cl_n, b_X10_plain_23] at st
  exact ⟨h2, st, m2, r2⟩
/-- the bits of a number -/
def evB (c n : Int) : Nat → Int → List (Int × Bool)
  | 0, _ => []
  | f + 1, j => (c + min j 5, decide (j < n)) :: (if j < n then evB c n f (j + 1) else [])
def hl (m : Int) : Nat := Nat.log2 m.toNat
def evD (m : Int) : Nat → List (Int × Bool)
  | 0 => []
  | t + 1 => (-1, decide (m / 2 ^ t % 2 = 1)) :: evD m t
def evR (m : Int) : List (Int × Bool) := List.replicate (hl m) (-1, true) ++ ((-1, false) :: evD m (hl m))
def evN (c n : Int) : List (Int × Bool) := evB c n 12 0 ++ (if 11 < n then evR (n - 11) else [])
theorem hl_ok {m : Int} (hm : 1 ≤ m) (i : Nat) : 1 < m / 2 ^ i ↔ i < hl m := by
  have h0 : m.toNat ≠ 0 := by omega
  have key := Nat.le_log2 (n := m.toNat) (k := i + 1) h0
  have e : m / 2 ^ i = ((m.toNat / 2 ^ i : Nat) : Int) := by
    rw [Int.natCast_ediv, Int.natCast_pow]
    rw [Int.toNat_of_nonneg (by omega)]
    rfl
  have e2 : 1 < m.toNat / 2 ^ i ↔ 2 ^ (i + 1) ≤ m.toNat := by
    rw [Nat.pow_succ, Nat.mul_comm]
    exact Nat.le_div_iff_mul_le (Nat.pow_pos (by decide))
  unfold hl
  rw [e]
  constructor
  · intro q
    exact key.mpr (e2.mp (by omega))
  · intro q
    have := e2.mpr (key.mp q)
    omega
theorem hl_b {m : Int} {t : Nat} (hm : 1 ≤ m) (h : m < 2 ^ (t + 1)) : hl m ≤ t := by
  rcases Nat.lt_or_ge t (hl m) with g | g
  · exfalso
    have := (hl_ok hm t).mpr g
    have p : (0 : Int) < 2 ^ t := Int.pow_pos (by decide)
    have e : (2 : Int) ^ (t + 1) = 2 ^ t * 2 := Int.pow_succ _ _
    have : m / 2 ^ t < 2 := Int.ediv_lt_of_lt_mul p (by rw [Int.mul_comm]; omega)
    omega
  · exact g
/-- a run of the writer that gives these bits -/
def Wr (h h' : am_H) (w : Nat) (A : cA) (e : Nat) (es : List (Int × Bool)) : Prop := Md (SW w) h h' ∧ WR h' w (runA A es) (e + es.length)
/-- the writer is fit for bits: c contexts', p plain ones -/
def fit (A : cA) (c p e : Nat) : Prop := okA A ∧ potA A c p ∧ c ≤ 4228 ∧ p ≤ 5504 ∧ e ≤ c + p
theorem nCP_len (es : List (Int × Bool)) : es.length = nC es + nP es := by
  induction es with
  | nil => rfl
  | cons x xs ih =>
    simp only [List.length_cons, nC, nP, ih]
    split <;> omega
theorem fit_run {A : cA} {c p e : Nat} {es : List (Int × Bool)} (f : okA A ∧ potA A c p ∧ e ≤ c + p) (hc : c + nC es ≤ 4228) (hp : p + nP es ≤ 5504) : fit (runA A es) (c + nC es) (p + nP es) (e + es.length) := by
  obtain ⟨f1, f2, f5⟩ := f
  have := runA_ok es f1 f2
  refine ⟨this.1, this.2, hc, hp, ?_⟩
  have := nCP_len es
  omega
theorem i_X10_number_0 : am_i m_X10_number 0 = some (0, .iconst 1, 1, [], 1) := rfl
theorem i_X10_number_1 : am_i m_X10_number 1 = some (1, .istore_n 3, 1, [], 0) := rfl
theorem i_X10_number_2 : am_i m_X10_number 2 = some (2, .iconst 0, 1, [], 0) := rfl
theorem i_X10_number_3 : am_i m_X10_number 3 = some (3, .istore 4, 2, [], 0) := rfl
theorem b_X10_number_0 {a0 : Nat} {x1 x2 : Int} {h : am_H} : rn m_X10_number 0 [.ref a0, .int (mI x1), .int (mI x2), am_J, am_J, am_J, am_J] [] h = rn m_X10_number 5 [.ref a0, .int (mI x1), .int (mI x2), .int (mI 1), .int (mI 0), am_J, am_J] [] h := by
  refine (tq_iconst i_X10_number_0 rfl).trans ?_
  refine (tq_istore_n (L' := [.ref a0, .int (mI x1), .int (mI x2), .int (mI 1), am_J, am_J, am_J]) i_X10_number_1 rfl rfl).trans ?_
  refine (tq_iconst i_X10_number_2 rfl).trans ?_
  refine (tq_istore (L' := [.ref a0, .int (mI x1), .int (mI x2), .int (mI 1), .int (mI 0), am_J, am_J]) i_X10_number_3 rfl rfl).trans ?_
  rfl
theorem i_X10_number_5 : am_i m_X10_number 5 = some (5, .iload 4, 2, [], 0) := rfl
theorem i_X10_number_7 : am_i m_X10_number 7 = some (7, .bipush 11, 2, [], 11) := rfl
theorem i_X10_number_9 : am_i m_X10_number 9 = some (9, .if_icmp .gt 38, 3, [], 0) := rfl
theorem i_X10_number_12 : am_i m_X10_number 12 = some (12, .iload_n 3, 1, [], 0) := rfl
theorem i_X10_number_13 : am_i m_X10_number 13 = some (13, .ifCond .eq 34, 3, [], 0) := rfl
theorem i_X10_number_16 : am_i m_X10_number 16 = some (16, .iload_n 2, 1, [], 0) := rfl
theorem i_X10_number_17 : am_i m_X10_number 17 = some (17, .iload 4, 2, [], 0) := rfl
theorem i_X10_number_19 : am_i m_X10_number 19 = some (19, .if_icmp .le 7, 3, [], 0) := rfl
theorem i_X10_number_22 : am_i m_X10_number 22 = some (22, .iconst 1, 1, [], 1) := rfl
theorem i_X10_number_23 : am_i m_X10_number 23 = some (23, .goto 4, 3, [], 0) := rfl
theorem i_X10_number_26 : am_i m_X10_number 26 = some (26, .iconst 0, 1, [], 0) := rfl
theorem i_X10_number_27 : am_i m_X10_number 27 = some (27, .istore_n 3, 1, [], 0) := rfl
theorem i_X10_number_28 : am_i m_X10_number 28 = some (28, .aload_n 0, 1, [], 0) := rfl
theorem i_X10_number_29 : am_i m_X10_number 29 = some (29, .iload_n 1, 1, [], 0) := rfl
theorem i_X10_number_30 : am_i m_X10_number 30 = some (30, .iload 4, 2, [], 0) := rfl
theorem i_X10_number_32 : am_i m_X10_number 32 = some (32, .iconst 5, 1, [], 5) := rfl
theorem i_X10_number_33 : am_i m_X10_number 33 = some (33, .invokestatic 58, 3, [0, 2], 0) := rfl
theorem i_X10_number_36 : am_i m_X10_number 36 = some (36, .iadd, 1, [], 0) := rfl
theorem i_X10_number_37 : am_i m_X10_number 37 = some (37, .iload_n 3, 1, [], 0) := rfl
theorem i_X10_number_38 : am_i m_X10_number 38 = some (38, .invokevirtual 64, 3, [72, 8], 0) := rfl
theorem i_X10_number_47 : am_i m_X10_number 47 = some (47, .iload_n 3, 1, [], 0) := rfl
theorem i_X10_number_48 : am_i m_X10_number 48 = some (48, .ifCond .ne 4, 3, [], 0) := rfl
theorem i_X10_number_51 : am_i m_X10_number 51 = some (51, .return_, 1, [], 0) := rfl
theorem i_X10_number_52 : am_i m_X10_number 52 = some (52, .iload_n 2, 1, [], 0) := rfl
theorem i_X10_number_53 : am_i m_X10_number 53 = some (53, .bipush 11, 2, [], 11) := rfl
theorem i_X10_number_55 : am_i m_X10_number 55 = some (55, .isub, 1, [], 0) := rfl
theorem i_X10_number_56 : am_i m_X10_number 56 = some (56, .istore 4, 2, [], 0) := rfl
theorem i_X10_number_58 : am_i m_X10_number 58 = some (58, .iconst 0, 1, [], 0) := rfl
theorem i_X10_number_59 : am_i m_X10_number 59 = some (59, .istore 5, 2, [], 0) := rfl
theorem i_X10_number_61 : am_i m_X10_number 61 = some (61, .iload 4, 2, [], 0) := rfl
theorem i_X10_number_63 : am_i m_X10_number 63 = some (63, .istore 6, 2, [], 0) := rfl
theorem b_X10_number_5 {a0 : Nat} {x1 x2 x3 x4 x2' x3' x4' : Int} {v5 v6 : Value} {h : am_H} (w2 : wr x2 = x2') (w3 : wr x3 = x3') (w4 : wr x4 = x4') (k1 : K8 h a0) : rn m_X10_number 5 [.ref a0, .int (mI x1), .int (mI x2), .int (mI x3), .int (mI x4), v5, v6] [] h = if 11 < x4' then if ¬ x3' = 0 then rn m_X10_number 65 [.ref a0, .int (mI x1), .int (mI x2), .int (mI x3), .int (mI (x2 - 11)), .int (mI 0), .int (mI (x2 - 11))] [] h else some (.inl none, h) else if x3' = 0 then if ¬ x3' = 0 then rn m_X10_number 65 [.ref a0, .int (mI x1), .int (mI x2), .int (mI x3), .int (mI (x2 - 11)), .int (mI 0), .int (mI (x2 - 11))] [] h else some (.inl none, h) else cl m_X10_number 41 [.ref a0, .int (mI x1), .int (mI x2), .int (mI (bZ (¬ (x2' ≤ x4')))), .int (mI x4), v5, v6] [] (rn m_X10_bit 0 [.ref a0, .int (mI (x1 + (min x4' 5))), .int (mI (bZ (¬ (x2' ≤ x4')))), am_J, am_J, am_J] [] h) := by
  refine (tq_iload i_X10_number_5 rfl rfl).trans ?_
  refine (tq_bipush i_X10_number_7 rfl).trans ?_
  refine (tq_icmp_gt (pt := 47) i_X10_number_9 w4 w_11 (by decide) rfl).trans ?_
  refine ite_congr rfl (fun c1 => ?_) (fun c1 => ?_)
  · refine (tq_iload_n i_X10_number_47 rfl rfl).trans ?_
    refine (tq_if_ne (pt := 52) i_X10_number_48 w3 (by decide) rfl).trans ?_
    refine ite_congr rfl (fun c2 => ?_) (fun c2 => ?_)
    · refine (tq_iload_n i_X10_number_52 rfl rfl).trans ?_
      refine (tq_bipush i_X10_number_53 rfl).trans ?_
      refine (tq_isub i_X10_number_55 rfl).trans ?_
      refine (tq_istore (L' := [.ref a0, .int (mI x1), .int (mI x2), .int (mI x3), .int (mI (x2 - 11)), v5, v6]) i_X10_number_56 rfl rfl).trans ?_
      refine (tq_iconst i_X10_number_58 rfl).trans ?_
      refine (tq_istore (L' := [.ref a0, .int (mI x1), .int (mI x2), .int (mI x3), .int (mI (x2 - 11)), .int (mI 0), v6]) i_X10_number_59 rfl rfl).trans ?_
      refine (tq_iload i_X10_number_61 rfl rfl).trans ?_
      refine (tq_istore (L' := [.ref a0, .int (mI x1), .int (mI x2), .int (mI x3), .int (mI (x2 - 11)), .int (mI 0), .int (mI (x2 - 11))]) i_X10_number_63 rfl rfl).trans ?_
      rfl
    · exact tq_return i_X10_number_51 r_X10_number
  · refine (tq_iload_n i_X10_number_12 rfl rfl).trans ?_
    refine (tq_if_eq (pt := 47) i_X10_number_13 w3 (by decide) rfl).trans ?_
    refine ite_congr rfl (fun c3 => ?_) (fun c3 => ?_)
    · refine (tq_iload_n i_X10_number_47 rfl rfl).trans ?_
      refine (tq_if_ne (pt := 52) i_X10_number_48 w3 (by decide) rfl).trans ?_
      refine ite_congr rfl (fun c4 => ?_) (fun c4 => ?_)
      · refine (tq_iload_n i_X10_number_52 rfl rfl).trans ?_
        refine (tq_bipush i_X10_number_53 rfl).trans ?_
        refine (tq_isub i_X10_number_55 rfl).trans ?_
        refine (tq_istore (L' := [.ref a0, .int (mI x1), .int (mI x2), .int (mI x3), .int (mI (x2 - 11)), v5, v6]) i_X10_number_56 rfl rfl).trans ?_
        refine (tq_iconst i_X10_number_58 rfl).trans ?_
        refine (tq_istore (L' := [.ref a0, .int (mI x1), .int (mI x2), .int (mI x3), .int (mI (x2 - 11)), .int (mI 0), v6]) i_X10_number_59 rfl rfl).trans ?_
        refine (tq_iload i_X10_number_61 rfl rfl).trans ?_
        refine (tq_istore (L' := [.ref a0, .int (mI x1), .int (mI x2), .int (mI x3), .int (mI (x2 - 11)), .int (mI 0), .int (mI (x2 - 11))]) i_X10_number_63 rfl rfl).trans ?_
        rfl
      · exact tq_return i_X10_number_51 r_X10_number
    · refine (tq_iload_n i_X10_number_16 rfl rfl).trans ?_
      refine (tq_iload i_X10_number_17 rfl rfl).trans ?_
      refine (tq_icmp_le (pt := 26) i_X10_number_19 w2 w4 (by decide) rfl).trans ?_
      refine Eq.trans (b := if x2' ≤ x4' then rn m_X10_number 27 [.ref a0, .int (mI x1), .int (mI x2), .int (mI x3), .int (mI x4), v5, v6] [.int (mI 0)] h else rn m_X10_number 27 [.ref a0, .int (mI x1), .int (mI x2), .int (mI x3), .int (mI x4), v5, v6] [.int (mI 1)] h) (ite_congr rfl (fun c5 => ?_) (fun c5 => ?_)) ?_
      · refine (tq_iconst i_X10_number_26 rfl).trans ?_
        rfl
      · refine (tq_iconst i_X10_number_22 rfl).trans ?_
        refine (tq_goto (pc' := 27) i_X10_number_23 (by decide)).trans ?_
        rfl
      refine Eq.trans ite_b01 ?_
      refine (tq_istore_n (L' := [.ref a0, .int (mI x1), .int (mI x2), .int (mI (bZ (¬ (x2' ≤ x4')))), .int (mI x4), v5, v6]) i_X10_number_27 rfl rfl).trans ?_
      refine (tq_aload_n i_X10_number_28 rfl (isA_ref _) rfl).trans ?_
      refine (tq_iload_n i_X10_number_29 rfl rfl).trans ?_
      refine (tq_iload i_X10_number_30 rfl rfl).trans ?_
      refine (tq_iconst i_X10_number_32 rfl).trans ?_
      refine (tq_min i_X10_number_33 w4 w_5 (Nat.le_of_ble_eq_true rfl) rfl).trans ?_
      refine (tq_iadd i_X10_number_36 rfl).trans ?_
      refine (tq_iload_n i_X10_number_37 rfl rfl).trans ?_
      exact c_X10_bit i_X10_number_38 (K8_s k1) (ltd d_X10_number (by decide)) stOk_0 rfl
theorem i_X10_number_41 : am_i m_X10_number 41 = some (41, .iinc 4 1, 3, [], 0) := rfl
theorem i_X10_number_44 : am_i m_X10_number 44 = some (44, .goto (-39), 3, [], 0) := rfl
theorem b_X10_number_41 {a0 : Nat} {x1 x2 x3 x4 : Int} {v5 v6 : Value} {h : am_H} : rn m_X10_number 41 [.ref a0, .int (mI x1), .int (mI x2), .int (mI x3), .int (mI x4), v5, v6] [] h = rn m_X10_number 5 [.ref a0, .int (mI x1), .int (mI x2), .int (mI x3), .int (mI (x4 + 1)), v5, v6] [] h := by
  refine (tq_iinc (L' := [.ref a0, .int (mI x1), .int (mI x2), .int (mI x3), .int (mI (x4 + 1)), v5, v6]) i_X10_number_41 rfl rfl rfl).trans ?_
  refine (tq_goto (pc' := 5) i_X10_number_44 (by decide)).trans ?_
  rfl
theorem i_X10_number_65 : am_i m_X10_number 65 = some (65, .iload 6, 2, [], 0) := rfl
theorem i_X10_number_67 : am_i m_X10_number 67 = some (67, .iconst 1, 1, [], 1) := rfl
theorem i_X10_number_68 : am_i m_X10_number 68 = some (68, .if_icmp .le 20, 3, [], 0) := rfl
theorem i_X10_number_71 : am_i m_X10_number 71 = some (71, .aload_n 0, 1, [], 0) := rfl
theorem i_X10_number_72 : am_i m_X10_number 72 = some (72, .iconst 1, 1, [], 1) := rfl
theorem i_X10_number_73 : am_i m_X10_number 73 = some (73, .invokevirtual 68, 3, [73, 8], 0) := rfl
theorem i_X10_number_88 : am_i m_X10_number 88 = some (88, .aload_n 0, 1, [], 0) := rfl
theorem i_X10_number_89 : am_i m_X10_number 89 = some (89, .iconst 0, 1, [], 0) := rfl
theorem i_X10_number_90 : am_i m_X10_number 90 = some (90, .invokevirtual 68, 3, [73, 8], 0) := rfl
theorem b_X10_number_65 {a0 : Nat} {v1 v2 v3 : Value} {x4 x5 x6 x6' : Int} {h : am_H} (w6 : wr x6 = x6') (k1 : K8 h a0) : rn m_X10_number 65 [.ref a0, v1, v2, v3, .int (mI x4), .int (mI x5), .int (mI x6)] [] h = if x6' ≤ 1 then cl m_X10_number 93 [.ref a0, v1, v2, v3, .int (mI x4), .int (mI x5), .int (mI x6)] [] (rn m_X10_plain 0 [.ref a0, .int (mI 0), am_J, am_J] [] h) else cl m_X10_number 76 [.ref a0, v1, v2, v3, .int (mI x4), .int (mI x5), .int (mI x6)] [] (rn m_X10_plain 0 [.ref a0, .int (mI 1), am_J, am_J] [] h) := by
  refine (tq_iload i_X10_number_65 rfl rfl).trans ?_
  refine (tq_iconst i_X10_number_67 rfl).trans ?_
  refine (tq_icmp_le (pt := 88) i_X10_number_68 w6 w_1 (by decide) rfl).trans ?_
  refine ite_congr rfl (fun c1 => ?_) (fun c1 => ?_)
  · refine (tq_aload_n i_X10_number_88 rfl (isA_ref _) rfl).trans ?_
    refine (tq_iconst i_X10_number_89 rfl).trans ?_
    exact c_X10_plain i_X10_number_90 (K8_s k1) (ltd d_X10_number (by decide)) stOk_0 rfl
  · refine (tq_aload_n i_X10_number_71 rfl (isA_ref _) rfl).trans ?_
    refine (tq_iconst i_X10_number_72 rfl).trans ?_
    exact c_X10_plain i_X10_number_73 (K8_s k1) (ltd d_X10_number (by decide)) stOk_0 rfl
theorem i_X10_number_76 : am_i m_X10_number 76 = some (76, .iinc 5 1, 3, [], 0) := rfl
theorem i_X10_number_79 : am_i m_X10_number 79 = some (79, .iload 6, 2, [], 0) := rfl
theorem i_X10_number_81 : am_i m_X10_number 81 = some (81, .iconst 2, 1, [], 2) := rfl
theorem i_X10_number_82 : am_i m_X10_number 82 = some (82, .idiv, 1, [], 0) := rfl
theorem i_X10_number_83 : am_i m_X10_number 83 = some (83, .istore 6, 2, [], 0) := rfl
theorem i_X10_number_85 : am_i m_X10_number 85 = some (85, .goto (-20), 3, [], 0) := rfl
theorem b_X10_number_76 {a0 : Nat} {v1 v2 v3 : Value} {x4 x5 x6 x6' : Int} {h : am_H} (w6 : wr x6 = x6') : rn m_X10_number 76 [.ref a0, v1, v2, v3, .int (mI x4), .int (mI x5), .int (mI x6)] [] h = rn m_X10_number 65 [.ref a0, v1, v2, v3, .int (mI x4), .int (mI (x5 + 1)), .int (mI (Int.tdiv x6' 2))] [] h := by
  refine (tq_iinc (L' := [.ref a0, v1, v2, v3, .int (mI x4), .int (mI (x5 + 1)), .int (mI x6)]) i_X10_number_76 rfl rfl rfl).trans ?_
  refine (tq_iload i_X10_number_79 rfl rfl).trans ?_
  refine (tq_iconst i_X10_number_81 rfl).trans ?_
  refine (tq_idiv i_X10_number_82 w6 w_2 (by decide) rfl).trans ?_
  refine (tq_istore (L' := [.ref a0, v1, v2, v3, .int (mI x4), .int (mI (x5 + 1)), .int (mI (Int.tdiv x6' 2))]) i_X10_number_83 rfl rfl).trans ?_
  refine (tq_goto (pc' := 65) i_X10_number_85 (by decide)).trans ?_
  rfl
theorem i_X10_number_93 : am_i m_X10_number 93 = some (93, .iload 5, 2, [], 0) := rfl
theorem i_X10_number_95 : am_i m_X10_number 95 = some (95, .iconst 1, 1, [], 1) := rfl
theorem i_X10_number_96 : am_i m_X10_number 96 = some (96, .isub, 1, [], 0) := rfl
theorem i_X10_number_97 : am_i m_X10_number 97 = some (97, .istore 6, 2, [], 0) := rfl
theorem b_X10_number_93 {a0 : Nat} {v1 v2 v3 v6 : Value} {x4 x5 : Int} {h : am_H} : rn m_X10_number 93 [.ref a0, v1, v2, v3, .int (mI x4), .int (mI x5), v6] [] h = rn m_X10_number 99 [.ref a0, v1, v2, v3, .int (mI x4), .int (mI x5), .int (mI (x5 - 1))] [] h := by
  refine (tq_iload i_X10_number_93 rfl rfl).trans ?_
  refine (tq_iconst i_X10_number_95 rfl).trans ?_
  refine (tq_isub i_X10_number_96 rfl).trans ?_
  refine (tq_istore (L' := [.ref a0, v1, v2, v3, .int (mI x4), .int (mI x5), .int (mI (x5 - 1))]) i_X10_number_97 rfl rfl).trans ?_
  rfl
theorem i_X10_number_99 : am_i m_X10_number 99 = some (99, .iload 6, 2, [], 0) := rfl
theorem i_X10_number_101 : am_i m_X10_number 101 = some (101, .ifCond .lt 28, 3, [], 0) := rfl
theorem i_X10_number_104 : am_i m_X10_number 104 = some (104, .aload_n 0, 1, [], 0) := rfl
theorem i_X10_number_105 : am_i m_X10_number 105 = some (105, .iload 4, 2, [], 0) := rfl
theorem i_X10_number_107 : am_i m_X10_number 107 = some (107, .iload 6, 2, [], 0) := rfl
theorem i_X10_number_109 : am_i m_X10_number 109 = some (109, .ishr, 1, [], 0) := rfl
theorem i_X10_number_110 : am_i m_X10_number 110 = some (110, .iconst 1, 1, [], 1) := rfl
theorem i_X10_number_111 : am_i m_X10_number 111 = some (111, .iand, 1, [], 0) := rfl
theorem i_X10_number_112 : am_i m_X10_number 112 = some (112, .ifCond .eq 7, 3, [], 0) := rfl
theorem i_X10_number_115 : am_i m_X10_number 115 = some (115, .iconst 1, 1, [], 1) := rfl
theorem i_X10_number_116 : am_i m_X10_number 116 = some (116, .goto 4, 3, [], 0) := rfl
theorem i_X10_number_119 : am_i m_X10_number 119 = some (119, .iconst 0, 1, [], 0) := rfl
theorem i_X10_number_120 : am_i m_X10_number 120 = some (120, .invokevirtual 68, 3, [73, 8], 0) := rfl
theorem i_X10_number_129 : am_i m_X10_number 129 = some (129, .return_, 1, [], 0) := rfl
theorem b_X10_number_99 {a0 k_109 : Nat} {v1 v2 v3 v5 : Value} {x4 x6 x4' x6' : Int} {h : am_H} (w4 : wr x4 = x4') (w6 : wr x6 = x6') (g1 : (¬ (x6' < 0)) → (x6' = (k_109 : Int))) (g2 : (¬ (x6' < 0)) → (k_109 < 32)) (k3 : K8 h a0) : rn m_X10_number 99 [.ref a0, v1, v2, v3, .int (mI x4), v5, .int (mI x6)] [] h = if x6' < 0 then some (.inl none, h) else cl m_X10_number 123 [.ref a0, v1, v2, v3, .int (mI x4), v5, .int (mI x6)] [] (rn m_X10_plain 0 [.ref a0, .int (mI (bZ (¬ (((wr (x4' / 2 ^ k_109)) % 2 ^ 1) = 0)))), am_J, am_J] [] h) := by
  refine (tq_iload i_X10_number_99 rfl rfl).trans ?_
  refine (tq_if_lt (pt := 129) i_X10_number_101 w6 (by decide) rfl).trans ?_
  refine ite_congr rfl (fun c1 => ?_) (fun c1 => ?_)
  · exact tq_return i_X10_number_129 r_X10_number
  · refine (tq_aload_n i_X10_number_104 rfl (isA_ref _) rfl).trans ?_
    refine (tq_iload i_X10_number_105 rfl rfl).trans ?_
    refine (tq_iload i_X10_number_107 rfl rfl).trans ?_
    refine (tq_ishr i_X10_number_109 w4 (w6.trans (g1 c1)) (g2 c1) rfl).trans ?_
    refine (tq_iconst i_X10_number_110 rfl).trans ?_
    refine (tq_imask 1 i_X10_number_111 rfl (by decide) (by decide) rfl).trans ?_
    refine (tq_if_eq (pt := 119) i_X10_number_112 (wr_mask (by decide)) (by decide) rfl).trans ?_
    refine Eq.trans (b := if ((wr (x4' / 2 ^ k_109)) % 2 ^ 1) = 0 then rn m_X10_number 120 [.ref a0, v1, v2, v3, .int (mI x4), v5, .int (mI x6)] [.int (mI 0), .ref a0] h else rn m_X10_number 120 [.ref a0, v1, v2, v3, .int (mI x4), v5, .int (mI x6)] [.int (mI 1), .ref a0] h) (ite_congr rfl (fun c2 => ?_) (fun c2 => ?_)) ?_
    · refine (tq_iconst i_X10_number_119 rfl).trans ?_
      rfl
    · refine (tq_iconst i_X10_number_115 rfl).trans ?_
      refine (tq_goto (pc' := 120) i_X10_number_116 (by decide)).trans ?_
      rfl
    refine Eq.trans ite_b01 ?_
    exact c_X10_plain i_X10_number_120 (K8_s k3) (ltd d_X10_number (by decide)) stOk_0 rfl
theorem i_X10_number_123 : am_i m_X10_number 123 = some (123, .iinc 6 (-1), 3, [], 0) := rfl
theorem i_X10_number_126 : am_i m_X10_number 126 = some (126, .goto (-27), 3, [], 0) := rfl
theorem b_X10_number_123 {a0 : Nat} {v1 v2 v3 v5 : Value} {x4 x6 : Int} {h : am_H} : rn m_X10_number 123 [.ref a0, v1, v2, v3, .int (mI x4), v5, .int (mI x6)] [] h = rn m_X10_number 99 [.ref a0, v1, v2, v3, .int (mI x4), (am_k1 v5), .int (mI (x6 + (-1)))] [] h := by
  refine (tq_iinc (L' := [.ref a0, v1, v2, v3, .int (mI x4), (am_k1 v5), .int (mI (x6 + (-1)))]) i_X10_number_123 rfl rfl rfl).trans ?_
  refine (tq_goto (pc' := 99) i_X10_number_126 (by decide)).trans ?_
  rfl
theorem nC_evB {c n : Int} (hc : 0 ≤ c) : ∀ (f : Nat) (j : Int), 0 ≤ j → nC (evB c n f j) ≤ f ∧ nP (evB c n f j) = 0
  | 0, _, _ => ⟨Nat.le_refl _, rfl⟩
  | f + 1, j, j0 => by
    have ih := nC_evB (n := n) hc f (j + 1) (by omega)
    have e : ¬ (c + min j 5 < 0) := by omega
    by_cases q : j < n
    · simp only [evB, if_pos q, nC, nP]
      rw [if_neg e, if_neg e]
      omega
    · simp only [evB, if_neg q, nC, nP]
      rw [if_neg e, if_neg e]
      omega
theorem nC_evD (m : Int) : ∀ t : Nat, nC (evD m t) = 0 ∧ nP (evD m t) = t
  | 0 => ⟨rfl, rfl⟩
  | t + 1 => by
    have ih := nC_evD m t
    unfold evD
    simp only [nC, nP]
    rw [if_pos (by decide), if_pos (by decide)]
    omega
theorem nC_rep (b : Bool) : ∀ t : Nat, nC (List.replicate t ((-1 : Int), b)) = 0 ∧ nP (List.replicate t ((-1 : Int), b)) = t
  | 0 => ⟨rfl, rfl⟩
  | t + 1 => by
    have ih := nC_rep b t
    rw [List.replicate_succ]
    simp only [nC, nP]
    rw [if_pos (by decide), if_pos (by decide)]
    omega
theorem nC_evR (m : Int) : nC (evR m) = 0 ∧ nP (evR m) = 2 * hl m + 1 := by
  unfold evR
  rw [nC_app, nP_app]
  have a := nC_rep true (hl m)
  have b := nC_evD m (hl m)
  simp only [nC, nP]
  rw [if_pos (by decide), if_pos (by decide)]
  omega
theorem nC_evN {c n : Int} (hc : 0 ≤ c) : nC (evN c n) ≤ 12 ∧ nP (evN c n) ≤ (if 11 < n then 2 * hl (n - 11) + 1 else 0) := by
  unfold evN
  rw [nC_app, nP_app]
  have a := nC_evB (n := n) hc 12 0 (by omega)
  split
  · have := nC_evR (n - 11); omega
  · simp only [nC, nP]; omega
