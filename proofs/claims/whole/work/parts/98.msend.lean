/-! ===== the model sends ===== -/
theorem agr_all {pd : Nat → Int → Int} {p p' : Int → Int} (h : agr 16 pd pd p p') : ∀ i, 0 ≤ i → i < 256 → p i = p' i := fun i i0 i1 => by
  obtain ⟨e, s0, s1⟩ := pl_xy (x := i % 16) (y := i / 16) (by omega) (by omega)
  have := ((h _ s0 s1).2 (4 * (i / 16 % 4) + i % 16 % 4) (by omega) (by omega)).2
  rw [e, show 16 * (i / 16) + i % 16 = i by omega] at this
  exact this
section MSD
variable {σ : St} {h h' : am_H} {D : Nat} {c : Int}
theorem i_X12_send_0 : am_i m_X12_send 0 = some (0, .aload_n 0, 1, [], 0) := rfl
theorem i_X12_send_1 : am_i m_X12_send 1 = some (1, .aload_n 0, 1, [], 0) := rfl
theorem i_X12_send_2 : am_i m_X12_send 2 = some (2, .getfield 355, 3, [10, 39, 0], 0) := rfl
theorem i_X12_send_5 : am_i m_X12_send 5 = some (5, .aload_n 0, 1, [], 0) := rfl
theorem i_X12_send_6 : am_i m_X12_send 6 = some (6, .getfield 305, 3, [10, 9, 0], 0) := rfl
theorem i_X12_send_9 : am_i m_X12_send 9 = some (9, .if_icmp .lt 7, 3, [], 0) := rfl
theorem i_X12_send_12 : am_i m_X12_send 12 = some (12, .iconst 1, 1, [], 1) := rfl
theorem i_X12_send_13 : am_i m_X12_send 13 = some (13, .goto 34, 3, [], 0) := rfl
theorem i_X12_send_16 : am_i m_X12_send 16 = some (16, .iload_n 1, 1, [], 0) := rfl
theorem i_X12_send_17 : am_i m_X12_send 17 = some (17, .iconst 0, 1, [], 0) := rfl
theorem i_X12_send_18 : am_i m_X12_send 18 = some (18, .aload_n 0, 1, [], 0) := rfl
theorem i_X12_send_19 : am_i m_X12_send 19 = some (19, .getfield 49, 3, [10, 13, 0], 0) := rfl
theorem i_X12_send_22 : am_i m_X12_send 22 = some (22, .aload_n 0, 1, [], 0) := rfl
theorem i_X12_send_23 : am_i m_X12_send 23 = some (23, .getfield 355, 3, [10, 39, 0], 0) := rfl
theorem i_X12_send_26 : am_i m_X12_send 26 = some (26, .iaload, 1, [], 0) := rfl
theorem i_X12_send_27 : am_i m_X12_send 27 = some (27, .iconst 2, 1, [], 2) := rfl
theorem i_X12_send_28 : am_i m_X12_send 28 = some (28, .if_icmp .ne 7, 3, [], 0) := rfl
theorem i_X12_send_31 : am_i m_X12_send 31 = some (31, .iconst 3, 1, [], 3) := rfl
theorem i_X12_send_32 : am_i m_X12_send 32 = some (32, .goto 4, 3, [], 0) := rfl
theorem i_X12_send_35 : am_i m_X12_send 35 = some (35, .iconst 1, 1, [], 1) := rfl
theorem i_X12_send_36 : am_i m_X12_send 36 = some (36, .invokestatic 113, 3, [27], 0) := rfl
theorem i_X12_send_39 : am_i m_X12_send 39 = some (39, .ifCond .ne 7, 3, [], 0) := rfl
theorem i_X12_send_42 : am_i m_X12_send 42 = some (42, .iconst 2, 1, [], 2) := rfl
theorem i_X12_send_43 : am_i m_X12_send 43 = some (43, .goto 4, 3, [], 0) := rfl
theorem i_X12_send_46 : am_i m_X12_send 46 = some (46, .iconst 0, 1, [], 0) := rfl
theorem i_X12_send_47 : am_i m_X12_send 47 = some (47, .putfield 110, 3, [10, 0, 0], 0) := rfl
theorem i_X12_send_50 : am_i m_X12_send 50 = some (50, .aload_n 0, 1, [], 0) := rfl
theorem i_X12_send_51 : am_i m_X12_send 51 = some (51, .getfield 110, 3, [10, 0, 0], 0) := rfl
theorem i_X12_send_54 : am_i m_X12_send 54 = some (54, .ifCond .le 6, 3, [], 0) := rfl
theorem i_X12_send_57 : am_i m_X12_send 57 = some (57, .bipush 32, 2, [], 32) := rfl
theorem i_X12_send_59 : am_i m_X12_send 59 = some (59, .ireturn, 1, [], 0) := rfl
theorem i_X12_send_60 : am_i m_X12_send 60 = some (60, .iload_n 1, 1, [], 0) := rfl
theorem i_X12_send_61 : am_i m_X12_send 61 = some (61, .ifCond .ne 39, 3, [], 0) := rfl
theorem i_X12_send_64 : am_i m_X12_send 64 = some (64, .aload_n 0, 1, [], 0) := rfl
theorem i_X12_send_65 : am_i m_X12_send 65 = some (65, .aload_n 0, 1, [], 0) := rfl
theorem i_X12_send_66 : am_i m_X12_send 66 = some (66, .getfield 56, 3, [10, 15, 0], 0) := rfl
theorem i_X12_send_69 : am_i m_X12_send 69 = some (69, .aload_n 0, 1, [], 0) := rfl
theorem i_X12_send_70 : am_i m_X12_send 70 = some (70, .getfield 355, 3, [10, 39, 0], 0) := rfl
theorem i_X12_send_73 : am_i m_X12_send 73 = some (73, .iaload, 1, [], 0) := rfl
theorem i_X12_send_74 : am_i m_X12_send 74 = some (74, .invokevirtual 358, 3, [28, 10], 0) := rfl
theorem i_X12_send_100 : am_i m_X12_send 100 = some (100, .iconst 0, 1, [], 0) := rfl
theorem i_X12_send_101 : am_i m_X12_send 101 = some (101, .istore_n 2, 1, [], 0) := rfl
theorem i_X12_send_102 : am_i m_X12_send 102 = some (102, .aload_n 0, 1, [], 0) := rfl
theorem i_X12_send_103 : am_i m_X12_send 103 = some (103, .aload_n 0, 1, [], 0) := rfl
theorem i_X12_send_104 : am_i m_X12_send 104 = some (104, .aload_n 0, 1, [], 0) := rfl
theorem i_X12_send_105 : am_i m_X12_send 105 = some (105, .getfield 355, 3, [10, 39, 0], 0) := rfl
theorem i_X12_send_108 : am_i m_X12_send 108 = some (108, .iload_n 1, 1, [], 0) := rfl
theorem i_X12_send_109 : am_i m_X12_send 109 = some (109, .invokevirtual 361, 3, [203, 10], 0) := rfl
theorem b_X12_send_0 {a0 : Nat} {x1 x1' : Int} {h : am_H} (w1 : wr x1 = x1') (k1 : K10 h a0) (g2 : ((fZ h a0 39) < (fZ h a0 9)) → (0 ≤ fZ h a0 39 ∧ fZ h a0 39 < (12 : Int))) (g3 : ((if (fZ h a0 39) < (fZ h a0 9) then ((if (¬ (x1' < 0) ∧ (¬ ((if ¬ (gZ h (a0 + 5) (fZ h a0 39)) = 2 then (1 : Int) else 3) < x1'))) then (0 : Int) else 2) : Int) else 1) ≤ 0) → (¬ (¬ x1' = 0)) → (0 ≤ fZ h a0 39 ∧ fZ h a0 39 < (12 : Int))) : rn m_X12_send 0 [.ref a0, .int (mI x1), am_J, am_J] [] h = if (if (fZ h a0 39) < (fZ h a0 9) then ((if (¬ (x1' < 0) ∧ (¬ ((if ¬ (gZ h (a0 + 5) (fZ h a0 39)) = 2 then (1 : Int) else 3) < x1'))) then (0 : Int) else 2) : Int) else 1) ≤ 0 then if ¬ x1' = 0 then cl m_X12_send 112 [.ref a0, .int (mI x1), .int (mI 0), am_J] [.ref a0] (rn m_X12_decodes 0 [.ref a0, .int (mI (fZ h a0 39)), .int (mI x1), am_J, am_J, am_J, am_J, am_J, am_J, am_J, am_J, am_J, am_J, am_J] [] (uF 10 h a0 0 (.int (mI (if (fZ h a0 39) < (fZ h a0 9) then ((if (¬ (x1' < 0) ∧ (¬ ((if ¬ (gZ h (a0 + 5) (fZ h a0 39)) = 2 then (1 : Int) else 3) < x1'))) then (0 : Int) else 2) : Int) else 1))))) else cl m_X12_send 77 [.ref a0, .int (mI x1), am_J, am_J] [] (rn m_X12_isGood 0 [.ref a0, .int (mI (gZ (uF 10 h a0 0 (.int (mI (if (fZ h a0 39) < (fZ h a0 9) then ((if (¬ (x1' < 0) ∧ (¬ ((if ¬ (gZ h (a0 + 5) (fZ h a0 39)) = 2 then (1 : Int) else 3) < x1'))) then (0 : Int) else 2) : Int) else 1)))) (a0 + 7) (fZ h a0 39)))] [] (uF 10 h a0 0 (.int (mI (if (fZ h a0 39) < (fZ h a0 9) then ((if (¬ (x1' < 0) ∧ (¬ ((if ¬ (gZ h (a0 + 5) (fZ h a0 39)) = 2 then (1 : Int) else 3) < x1'))) then (0 : Int) else 2) : Int) else 1))))) else some (.inl (some (.int (mI 32))), uF 10 h a0 0 (.int (mI (if (fZ h a0 39) < (fZ h a0 9) then ((if (¬ (x1' < 0) ∧ (¬ ((if ¬ (gZ h (a0 + 5) (fZ h a0 39)) = 2 then (1 : Int) else 3) < x1'))) then (0 : Int) else 2) : Int) else 1)))) := by
  refine (tq_aload_n i_X12_send_0 rfl (isA_ref _) rfl).trans ?_
  refine (tq_aload_n i_X12_send_1 rfl (isA_ref _) rfl).trans ?_
  refine (tq_getfield i_X12_send_2 (K10_s k1) (g_10_39 (K10_s k1)) (isV_I _) rfl).trans ?_
  refine (tq_aload_n i_X12_send_5 rfl (isA_ref _) rfl).trans ?_
  refine (tq_getfield i_X12_send_6 (K10_s k1) (g_10_9 (K10_s k1)) (isV_I _) rfl).trans ?_
  refine (tq_icmp_lt (pt := 16) i_X12_send_9 (wr_fZ _ _ _) (wr_fZ _ _ _) (by decide) rfl).trans ?_
  refine Eq.trans (b := if (fZ h a0 39) < (fZ h a0 9) then rn m_X12_send 47 [.ref a0, .int (mI x1), am_J, am_J] [.int (mI (if (¬ (x1' < 0) ∧ (¬ ((if ¬ (gZ h (a0 + 5) (fZ h a0 39)) = 2 then (1 : Int) else 3) < x1'))) then (0 : Int) else 2)), .ref a0] h else rn m_X12_send 47 [.ref a0, .int (mI x1), am_J, am_J] [.int (mI 1), .ref a0] h) (ite_congr rfl (fun c1 => ?_) (fun c1 => ?_)) ?_
  · refine (tq_iload_n i_X12_send_16 rfl rfl).trans ?_
    refine (tq_iconst i_X12_send_17 rfl).trans ?_
    refine (tq_aload_n i_X12_send_18 rfl (isA_ref _) rfl).trans ?_
    refine (tq_getfield i_X12_send_19 (K10_s k1) (gR (g_10_13 (K10_s k1)) (K10_e13 k1)) (isV_ref _) rfl).trans ?_
    refine (tq_aload_n i_X12_send_22 rfl (isA_ref _) rfl).trans ?_
    refine (tq_getfield i_X12_send_23 (K10_s k1) (g_10_39 (K10_s k1)) (isV_I _) rfl).trans ?_
    refine (tq_iaload i_X12_send_26 (K10_s13 k1) (by decide) (wr_fZ _ _ _) (g2 c1).1 (lt_gn (K10_n13 k1) (g2 c1).2) rfl).trans ?_
    refine (tq_iconst i_X12_send_27 rfl).trans ?_
    refine (tq_icmp_ne (pt := 35) i_X12_send_28 (wr_gZ _ _ _) w_2 (by decide) rfl).trans ?_
    refine Eq.trans (b := if ¬ (gZ h (a0 + 5) (fZ h a0 39)) = 2 then rn m_X12_send 36 [.ref a0, .int (mI x1), am_J, am_J] [.int (mI 1), .int (mI 0), .int (mI x1), .ref a0] h else rn m_X12_send 36 [.ref a0, .int (mI x1), am_J, am_J] [.int (mI 3), .int (mI 0), .int (mI x1), .ref a0] h) (ite_congr rfl (fun c2 => ?_) (fun c2 => ?_)) ?_
    · refine (tq_iconst i_X12_send_35 rfl).trans ?_
      rfl
    · refine (tq_iconst i_X12_send_31 rfl).trans ?_
      refine (tq_goto (pc' := 36) i_X12_send_32 (by decide)).trans ?_
      rfl
    refine Eq.trans ite_I ?_
    refine (c_X12_in i_X12_send_36 (ltd d_X12_send (by decide)) (stOk_1 _) rfl).trans ?_
    refine (congrArg (cl _ _ _ _) (b_X12_in_0 w1 w_0 (wr_ite w_1 w_3))).trans ?_
    refine (cl_v _ _ _ _ _ _).trans ?_
    refine (tq_ifb_ne (pt := 46) i_X12_send_39 (by decide) rfl).trans ?_
    refine Eq.trans (b := if (¬ (x1' < 0) ∧ (¬ ((if ¬ (gZ h (a0 + 5) (fZ h a0 39)) = 2 then (1 : Int) else 3) < x1'))) then rn m_X12_send 47 [.ref a0, .int (mI x1), am_J, am_J] [.int (mI 0), .ref a0] h else rn m_X12_send 47 [.ref a0, .int (mI x1), am_J, am_J] [.int (mI 2), .ref a0] h) (ite_congr rfl (fun c3 => ?_) (fun c3 => ?_)) ?_
    · refine (tq_iconst i_X12_send_46 rfl).trans ?_
      rfl
    · refine (tq_iconst i_X12_send_42 rfl).trans ?_
      refine (tq_goto (pc' := 47) i_X12_send_43 (by decide)).trans ?_
      rfl
    exact ite_I
  · refine (tq_iconst i_X12_send_12 rfl).trans ?_
    refine (tq_goto (pc' := 47) i_X12_send_13 (by decide)).trans ?_
    rfl
  refine Eq.trans ite_I ?_
  refine (tq_putfield i_X12_send_47 (K10_s k1) (okf_10_0 _) rfl).trans ?_
  refine (tq_aload_n i_X12_send_50 rfl (isA_ref _) rfl).trans ?_
  refine (tq_getfield i_X12_send_51 ((sh_uF _ _ _ _ _ _).trans (K10_s k1)) (gV_uF_eq (K10_s k1) (okf_10_0 _)) (isV_I _) rfl).trans ?_
  refine (tq_if_le (pt := 60) i_X12_send_54 (wr_ite (wr_ite w_0 w_2) w_1) (by decide) rfl).trans ?_
  refine ite_congr rfl (fun c4 => ?_) (fun c4 => ?_)
  · refine (tq_iload_n i_X12_send_60 rfl rfl).trans ?_
    refine (tq_if_ne (pt := 100) i_X12_send_61 w1 (by decide) rfl).trans ?_
    refine ite_congr rfl (fun c5 => ?_) (fun c5 => ?_)
    · refine (tq_iconst i_X12_send_100 rfl).trans ?_
      refine (tq_istore_n (L' := [.ref a0, .int (mI x1), .int (mI 0), am_J]) i_X12_send_101 rfl rfl).trans ?_
      refine (tq_aload_n i_X12_send_102 rfl (isA_ref _) rfl).trans ?_
      refine (tq_aload_n i_X12_send_103 rfl (isA_ref _) rfl).trans ?_
      refine (tq_aload_n i_X12_send_104 rfl (isA_ref _) rfl).trans ?_
      refine (tq_getfield i_X12_send_105 ((sh_uF _ _ _ _ _ _).trans (K10_s k1)) ((g_10_39 ((sh_uF _ _ _ _ _ _).trans (K10_s k1))).trans (congrArg (fun z => Value.int (mI z)) (fZ_uF_nk (K10_s k1) (okf_10_0 _) (by decide)))) (isV_I _) rfl).trans ?_
      refine (tq_iload_n i_X12_send_108 rfl rfl).trans ?_
      exact c_X12_decodes i_X12_send_109 ((sh_uF _ _ _ _ _ _).trans (K10_s k1)) (ltd d_X12_send (by decide)) (stOk_1 _) rfl
    · refine (tq_aload_n i_X12_send_64 rfl (isA_ref _) rfl).trans ?_
      refine (tq_aload_n i_X12_send_65 rfl (isA_ref _) rfl).trans ?_
      refine (tq_getfield i_X12_send_66 ((sh_uF _ _ _ _ _ _).trans (K10_s k1)) (gR ((g_10_15 ((sh_uF _ _ _ _ _ _).trans (K10_s k1))).trans (congrArg am_rv (fA_uF_nk (K10_s k1) (okf_10_0 _) (by decide)))) (K10_e15 k1)) (isV_ref _) rfl).trans ?_
      refine (tq_aload_n i_X12_send_69 rfl (isA_ref _) rfl).trans ?_
      refine (tq_getfield i_X12_send_70 ((sh_uF _ _ _ _ _ _).trans (K10_s k1)) ((g_10_39 ((sh_uF _ _ _ _ _ _).trans (K10_s k1))).trans (congrArg (fun z => Value.int (mI z)) (fZ_uF_nk (K10_s k1) (okf_10_0 _) (by decide)))) (isV_I _) rfl).trans ?_
      refine (tq_iaload i_X12_send_73 ((sh_uF _ _ _ _ _ _).trans (K10_s15 k1)) (by decide) (wr_fZ _ _ _) (g3 c4 c5).1 (lt_gn ((gn_uF _ _ _ _ _ _).trans (K10_n15 k1)) (g3 c4 c5).2) rfl).trans ?_
      exact c_X12_isGood i_X12_send_74 ((sh_uF _ _ _ _ _ _).trans (K10_s k1)) (ltd d_X12_send (by decide)) stOk_0 rfl
  · refine (tq_bipush i_X12_send_57 rfl).trans ?_
    exact tq_ireturn i_X12_send_59 r_X12_send (okC w_32 (by decide))
theorem i_X12_send_77 : am_i m_X12_send 77 = some (77, .ifCond .eq 23, 3, [], 0) := rfl
theorem i_X12_send_80 : am_i m_X12_send 80 = some (80, .aload_n 0, 1, [], 0) := rfl
theorem i_X12_send_81 : am_i m_X12_send 81 = some (81, .aload_n 0, 1, [], 0) := rfl
theorem i_X12_send_82 : am_i m_X12_send 82 = some (82, .getfield 59, 3, [10, 16, 0], 0) := rfl
theorem i_X12_send_85 : am_i m_X12_send 85 = some (85, .aload_n 0, 1, [], 0) := rfl
theorem i_X12_send_86 : am_i m_X12_send 86 = some (86, .getfield 355, 3, [10, 39, 0], 0) := rfl
theorem i_X12_send_89 : am_i m_X12_send 89 = some (89, .iaload, 1, [], 0) := rfl
theorem i_X12_send_90 : am_i m_X12_send 90 = some (90, .invokevirtual 358, 3, [28, 10], 0) := rfl
theorem b_X12_send_77 {a0 : Nat} {x1 xs0 xs0' : Int} {v2 v3 : Value} {h : am_H} (ws0 : wr xs0 = xs0') (k1 : K10 h a0) (g2 : (¬ (xs0' = 0)) → (0 ≤ fZ h a0 39 ∧ fZ h a0 39 < (12 : Int))) : rn m_X12_send 77 [.ref a0, .int (mI x1), v2, v3] [.int (mI xs0)] h = if xs0' = 0 then cl m_X12_send 112 [.ref a0, .int (mI x1), .int (mI 0), v3] [.ref a0] (rn m_X12_decodes 0 [.ref a0, .int (mI (fZ h a0 39)), .int (mI x1), am_J, am_J, am_J, am_J, am_J, am_J, am_J, am_J, am_J, am_J, am_J] [] h) else cl m_X12_send 93 [.ref a0, .int (mI x1), v2, v3] [] (rn m_X12_isGood 0 [.ref a0, .int (mI (gZ h (a0 + 8) (fZ h a0 39)))] [] h) := by
  refine (tq_if_eq (pt := 100) i_X12_send_77 ws0 (by decide) rfl).trans ?_
  refine ite_congr rfl (fun c1 => ?_) (fun c1 => ?_)
  · refine (tq_iconst i_X12_send_100 rfl).trans ?_
    refine (tq_istore_n (L' := [.ref a0, .int (mI x1), .int (mI 0), v3]) i_X12_send_101 rfl rfl).trans ?_
    refine (tq_aload_n i_X12_send_102 rfl (isA_ref _) rfl).trans ?_
    refine (tq_aload_n i_X12_send_103 rfl (isA_ref _) rfl).trans ?_
    refine (tq_aload_n i_X12_send_104 rfl (isA_ref _) rfl).trans ?_
    refine (tq_getfield i_X12_send_105 (K10_s k1) (g_10_39 (K10_s k1)) (isV_I _) rfl).trans ?_
    refine (tq_iload_n i_X12_send_108 rfl rfl).trans ?_
    exact c_X12_decodes i_X12_send_109 (K10_s k1) (ltd d_X12_send (by decide)) (stOk_1 _) rfl
  · refine (tq_aload_n i_X12_send_80 rfl (isA_ref _) rfl).trans ?_
    refine (tq_aload_n i_X12_send_81 rfl (isA_ref _) rfl).trans ?_
    refine (tq_getfield i_X12_send_82 (K10_s k1) (gR (g_10_16 (K10_s k1)) (K10_e16 k1)) (isV_ref _) rfl).trans ?_
    refine (tq_aload_n i_X12_send_85 rfl (isA_ref _) rfl).trans ?_
    refine (tq_getfield i_X12_send_86 (K10_s k1) (g_10_39 (K10_s k1)) (isV_I _) rfl).trans ?_
    refine (tq_iaload i_X12_send_89 (K10_s16 k1) (by decide) (wr_fZ _ _ _) (g2 c1).1 (lt_gn (K10_n16 k1) (g2 c1).2) rfl).trans ?_
    exact c_X12_isGood i_X12_send_90 (K10_s k1) (ltd d_X12_send (by decide)) stOk_0 rfl
theorem i_X12_send_93 : am_i m_X12_send 93 = some (93, .ifCond .eq 7, 3, [], 0) := rfl
theorem i_X12_send_96 : am_i m_X12_send 96 = some (96, .iconst 1, 1, [], 1) := rfl
theorem i_X12_send_97 : am_i m_X12_send 97 = some (97, .goto 4, 3, [], 0) := rfl
theorem b_X12_send_93 {a0 : Nat} {x1 xs0 xs0' : Int} {v2 v3 : Value} {h : am_H} (ws0 : wr xs0 = xs0') (k1 : K10 h a0) : rn m_X12_send 93 [.ref a0, .int (mI x1), v2, v3] [.int (mI xs0)] h = cl m_X12_send 112 [.ref a0, .int (mI x1), .int (mI (bZ (¬ (xs0' = 0)))), v3] [.ref a0] (rn m_X12_decodes 0 [.ref a0, .int (mI (fZ h a0 39)), .int (mI x1), am_J, am_J, am_J, am_J, am_J, am_J, am_J, am_J, am_J, am_J, am_J] [] h) := by
  refine (tq_if_eq (pt := 100) i_X12_send_93 ws0 (by decide) rfl).trans ?_
  refine Eq.trans (b := if xs0' = 0 then rn m_X12_send 101 [.ref a0, .int (mI x1), v2, v3] [.int (mI 0)] h else rn m_X12_send 101 [.ref a0, .int (mI x1), v2, v3] [.int (mI 1)] h) (ite_congr rfl (fun c1 => ?_) (fun c1 => ?_)) ?_
  · refine (tq_iconst i_X12_send_100 rfl).trans ?_
    rfl
  · refine (tq_iconst i_X12_send_96 rfl).trans ?_
    refine (tq_goto (pc' := 101) i_X12_send_97 (by decide)).trans ?_
    rfl
  refine Eq.trans ite_b01 ?_
  refine (tq_istore_n (L' := [.ref a0, .int (mI x1), .int (mI (bZ (¬ (xs0' = 0)))), v3]) i_X12_send_101 rfl rfl).trans ?_
  refine (tq_aload_n i_X12_send_102 rfl (isA_ref _) rfl).trans ?_
  refine (tq_aload_n i_X12_send_103 rfl (isA_ref _) rfl).trans ?_
  refine (tq_aload_n i_X12_send_104 rfl (isA_ref _) rfl).trans ?_
  refine (tq_getfield i_X12_send_105 (K10_s k1) (g_10_39 (K10_s k1)) (isV_I _) rfl).trans ?_
  refine (tq_iload_n i_X12_send_108 rfl rfl).trans ?_
  exact c_X12_decodes i_X12_send_109 (K10_s k1) (ltd d_X12_send (by decide)) (stOk_1 _) rfl
theorem i_X12_send_112 : am_i m_X12_send 112 = some (112, .putfield 344, 3, [10, 41, 0], 0) := rfl
theorem i_X12_send_115 : am_i m_X12_send 115 = some (115, .aload_n 0, 1, [], 0) := rfl
theorem i_X12_send_116 : am_i m_X12_send 116 = some (116, .aload_n 0, 1, [], 0) := rfl
theorem i_X12_send_117 : am_i m_X12_send 117 = some (117, .getfield 355, 3, [10, 39, 0], 0) := rfl
theorem i_X12_send_120 : am_i m_X12_send 120 = some (120, .putfield 101, 3, [10, 40, 0], 0) := rfl
theorem i_X12_send_123 : am_i m_X12_send 123 = some (123, .aload_n 0, 1, [], 0) := rfl
theorem i_X12_send_124 : am_i m_X12_send 124 = some (124, .iload_n 2, 1, [], 0) := rfl
theorem i_X12_send_125 : am_i m_X12_send 125 = some (125, .putfield 365, 3, [10, 42, 0], 0) := rfl
theorem i_X12_send_128 : am_i m_X12_send 128 = some (128, .aload_n 0, 1, [], 0) := rfl
theorem i_X12_send_129 : am_i m_X12_send 129 = some (129, .dup, 1, [], 0) := rfl
theorem i_X12_send_130 : am_i m_X12_send 130 = some (130, .getfield 368, 3, [10, 46, 0], 0) := rfl
theorem i_X12_send_133 : am_i m_X12_send 133 = some (133, .iconst 1, 1, [], 1) := rfl
theorem i_X12_send_134 : am_i m_X12_send 134 = some (134, .iadd, 1, [], 0) := rfl
theorem i_X12_send_135 : am_i m_X12_send 135 = some (135, .putfield 368, 3, [10, 46, 0], 0) := rfl
theorem i_X12_send_138 : am_i m_X12_send 138 = some (138, .aload_n 0, 1, [], 0) := rfl
theorem i_X12_send_139 : am_i m_X12_send 139 = some (139, .dup, 1, [], 0) := rfl
theorem i_X12_send_140 : am_i m_X12_send 140 = some (140, .getfield 371, 3, [10, 47, 0], 0) := rfl
theorem i_X12_send_143 : am_i m_X12_send 143 = some (143, .iload_n 2, 1, [], 0) := rfl
theorem i_X12_send_144 : am_i m_X12_send 144 = some (144, .ifCond .eq 7, 3, [], 0) := rfl
theorem i_X12_send_147 : am_i m_X12_send 147 = some (147, .iconst 1, 1, [], 1) := rfl
theorem i_X12_send_148 : am_i m_X12_send 148 = some (148, .goto 4, 3, [], 0) := rfl
theorem i_X12_send_151 : am_i m_X12_send 151 = some (151, .iconst 0, 1, [], 0) := rfl
theorem i_X12_send_152 : am_i m_X12_send 152 = some (152, .iadd, 1, [], 0) := rfl
theorem i_X12_send_153 : am_i m_X12_send 153 = some (153, .putfield 371, 3, [10, 47, 0], 0) := rfl
theorem i_X12_send_156 : am_i m_X12_send 156 = some (156, .aload_n 0, 1, [], 0) := rfl
theorem i_X12_send_157 : am_i m_X12_send 157 = some (157, .getfield 52, 3, [10, 14, 0], 0) := rfl
theorem i_X12_send_160 : am_i m_X12_send 160 = some (160, .aload_n 0, 1, [], 0) := rfl
theorem i_X12_send_161 : am_i m_X12_send 161 = some (161, .getfield 355, 3, [10, 39, 0], 0) := rfl
theorem i_X12_send_164 : am_i m_X12_send 164 = some (164, .baload, 1, [], 0) := rfl
theorem i_X12_send_165 : am_i m_X12_send 165 = some (165, .ifCond .eq 81, 3, [], 0) := rfl
theorem i_X12_send_168 : am_i m_X12_send 168 = some (168, .aload_n 0, 1, [], 0) := rfl
theorem i_X12_send_169 : am_i m_X12_send 169 = some (169, .getfield 341, 3, [10, 45, 0], 0) := rfl
theorem i_X12_send_172 : am_i m_X12_send 172 = some (172, .iconst 2, 1, [], 2) := rfl
theorem i_X12_send_173 : am_i m_X12_send 173 = some (173, .invokestatic 3, 3, [0, 2], 0) := rfl
theorem i_X12_send_176 : am_i m_X12_send 176 = some (176, .istore_n 3, 1, [], 0) := rfl
theorem i_X12_send_246 : am_i m_X12_send 246 = some (246, .aload_n 0, 1, [], 0) := rfl
theorem i_X12_send_247 : am_i m_X12_send 247 = some (247, .dup, 1, [], 0) := rfl
theorem i_X12_send_248 : am_i m_X12_send 248 = some (248, .getfield 355, 3, [10, 39, 0], 0) := rfl
theorem i_X12_send_251 : am_i m_X12_send 251 = some (251, .iconst 1, 1, [], 1) := rfl
theorem i_X12_send_252 : am_i m_X12_send 252 = some (252, .iadd, 1, [], 0) := rfl
theorem i_X12_send_253 : am_i m_X12_send 253 = some (253, .putfield 355, 3, [10, 39, 0], 0) := rfl
theorem i_X12_send_256 : am_i m_X12_send 256 = some (256, .iload_n 2, 1, [], 0) := rfl
theorem i_X12_send_257 : am_i m_X12_send 257 = some (257, .ifCond .eq 8, 3, [], 0) := rfl
theorem i_X12_send_260 : am_i m_X12_send 260 = some (260, .bipush 99, 2, [], 99) := rfl
theorem i_X12_send_262 : am_i m_X12_send 262 = some (262, .goto 5, 3, [], 0) := rfl
theorem i_X12_send_265 : am_i m_X12_send 265 = some (265, .bipush 98, 2, [], 98) := rfl
theorem i_X12_send_267 : am_i m_X12_send 267 = some (267, .ireturn, 1, [], 0) := rfl
theorem b_X12_send_112 {a0 as0 as1 : Nat} {v1 v3 : Value} {x2 x2' : Int} {h : am_H} (w2 : wr x2 = x2') (k1 : K10 h as1) (k2 : K10 h a0) (g3 : x2' = 0 ∨ x2' = 1) (g4 : 0 ≤ fZ h a0 39 ∧ fZ h a0 39 < (12 : Int)) (g5 : ((gZ (uF 10 (uF 10 (uF 10 (uF 10 (uF 10 h as1 41 (.ref as0)) a0 40 (.int (mI (fZ h a0 39)))) a0 42 (.int (mI x2))) a0 46 (.int (mI ((fZ h a0 46) + 1)))) a0 47 (.int (mI ((fZ h a0 47) + (bZ (¬ (x2' = 0))))))) (a0 + 6) (fZ h a0 39)) = 0) → (0 ≤ (if x2' = 0 then (98 : Int) else 99) ∧ (if x2' = 0 then (98 : Int) else 99) ≤ 65535)) : rn m_X12_send 112 [.ref a0, v1, .int (mI x2), v3] [.ref as0, .ref as1] h = if (gZ (uF 10 (uF 10 (uF 10 (uF 10 (uF 10 h as1 41 (.ref as0)) a0 40 (.int (mI (fZ h a0 39)))) a0 42 (.int (mI x2))) a0 46 (.int (mI ((fZ h a0 46) + 1)))) a0 47 (.int (mI ((fZ h a0 47) + (bZ (¬ (x2' = 0))))))) (a0 + 6) (fZ h a0 39)) = 0 then some (.inl (some (.int (mI (if x2' = 0 then (98 : Int) else 99)))), uF 10 (uF 10 (uF 10 (uF 10 (uF 10 (uF 10 h as1 41 (.ref as0)) a0 40 (.int (mI (fZ h a0 39)))) a0 42 (.int (mI x2))) a0 46 (.int (mI ((fZ h a0 46) + 1)))) a0 47 (.int (mI ((fZ h a0 47) + (bZ (¬ (x2' = 0))))))) a0 39 (.int (mI ((fZ h a0 39) + 1)))) else rn m_X12_send 177 [.ref a0, v1, .int (mI x2), .int (mI (min (fZ h a0 45) 2))] [] (uF 10 (uF 10 (uF 10 (uF 10 (uF 10 h as1 41 (.ref as0)) a0 40 (.int (mI (fZ h a0 39)))) a0 42 (.int (mI x2))) a0 46 (.int (mI ((fZ h a0 46) + 1)))) a0 47 (.int (mI ((fZ h a0 47) + (bZ (¬ (x2' = 0))))))) := by
  refine (tq_putfield i_X12_send_112 (K10_s k1) (okfA_10_41 (isA_ref _)) rfl).trans ?_
  refine (tq_aload_n i_X12_send_115 rfl (isA_ref _) rfl).trans ?_
  refine (tq_aload_n i_X12_send_116 rfl (isA_ref _) rfl).trans ?_
  refine (tq_getfield i_X12_send_117 ((sh_uF _ _ _ _ _ _).trans (K10_s k2)) ((g_10_39 ((sh_uF _ _ _ _ _ _).trans (K10_s k2))).trans (congrArg (fun z => Value.int (mI z)) (fZ_uF_nk (K10_s k1) (okfA_10_41 (isA_ref _)) (by decide)))) (isV_I _) rfl).trans ?_
  refine (tq_putfield i_X12_send_120 ((sh_uF _ _ _ _ _ _).trans (K10_s k2)) (okf_10_40 _) rfl).trans ?_
  refine (tq_aload_n i_X12_send_123 rfl (isA_ref _) rfl).trans ?_
  refine (tq_iload_n i_X12_send_124 rfl rfl).trans ?_
  refine (tq_putfield i_X12_send_125 ((sh_uF _ _ _ _ _ _).trans ((sh_uF _ _ _ _ _ _).trans (K10_s k2))) (okfB_10_42 w2 g3) rfl).trans ?_
  refine (tq_aload_n i_X12_send_128 rfl (isA_ref _) rfl).trans ?_
  refine (tq_dup i_X12_send_129 rfl rfl).trans ?_
  refine (tq_getfield i_X12_send_130 ((sh_uF _ _ _ _ _ _).trans ((sh_uF _ _ _ _ _ _).trans ((sh_uF _ _ _ _ _ _).trans (K10_s k2)))) ((g_10_46 ((sh_uF _ _ _ _ _ _).trans ((sh_uF _ _ _ _ _ _).trans ((sh_uF _ _ _ _ _ _).trans (K10_s k2))))).trans (congrArg (fun z => Value.int (mI z)) ((fZ_uF_nk ((sh_uF _ _ _ _ _ _).trans ((sh_uF _ _ _ _ _ _).trans (K10_s k2))) (okfB_10_42 w2 g3) (by decide)).trans ((fZ_uF_nk ((sh_uF _ _ _ _ _ _).trans (K10_s k2)) (okf_10_40 _) (by decide)).trans (fZ_uF_nk (K10_s k1) (okfA_10_41 (isA_ref _)) (by decide)))))) (isV_I _) rfl).trans ?_
  refine (tq_iconst i_X12_send_133 rfl).trans ?_
  refine (tq_iadd i_X12_send_134 rfl).trans ?_
  refine (tq_putfield i_X12_send_135 ((sh_uF _ _ _ _ _ _).trans ((sh_uF _ _ _ _ _ _).trans ((sh_uF _ _ _ _ _ _).trans (K10_s k2)))) (okf_10_46 _) rfl).trans ?_
  refine (tq_aload_n i_X12_send_138 rfl (isA_ref _) rfl).trans ?_
  refine (tq_dup i_X12_send_139 rfl rfl).trans ?_
  refine (tq_getfield i_X12_send_140 ((sh_uF _ _ _ _ _ _).trans ((sh_uF _ _ _ _ _ _).trans ((sh_uF _ _ _ _ _ _).trans ((sh_uF _ _ _ _ _ _).trans (K10_s k2))))) ((g_10_47 ((sh_uF _ _ _ _ _ _).trans ((sh_uF _ _ _ _ _ _).trans ((sh_uF _ _ _ _ _ _).trans ((sh_uF _ _ _ _ _ _).trans (K10_s k2)))))).trans (congrArg (fun z => Value.int (mI z)) ((fZ_uF_nk ((sh_uF _ _ _ _ _ _).trans ((sh_uF _ _ _ _ _ _).trans ((sh_uF _ _ _ _ _ _).trans (K10_s k2)))) (okf_10_46 _) (by decide)).trans ((fZ_uF_nk ((sh_uF _ _ _ _ _ _).trans ((sh_uF _ _ _ _ _ _).trans (K10_s k2))) (okfB_10_42 w2 g3) (by decide)).trans ((fZ_uF_nk ((sh_uF _ _ _ _ _ _).trans (K10_s k2)) (okf_10_40 _) (by decide)).trans (fZ_uF_nk (K10_s k1) (okfA_10_41 (isA_ref _)) (by decide))))))) (isV_I _) rfl).trans ?_
  refine (tq_iload_n i_X12_send_143 rfl rfl).trans ?_
  refine (tq_if_eq (pt := 151) i_X12_send_144 w2 (by decide) rfl).trans ?_
  refine Eq.trans (b := if x2' = 0 then rn m_X12_send 152 [.ref a0, v1, .int (mI x2), v3] [.int (mI 0), .int (mI (fZ h a0 47)), .ref a0] (uF 10 (uF 10 (uF 10 (uF 10 h as1 41 (.ref as0)) a0 40 (.int (mI (fZ h a0 39)))) a0 42 (.int (mI x2))) a0 46 (.int (mI ((fZ h a0 46) + 1)))) else rn m_X12_send 152 [.ref a0, v1, .int (mI x2), v3] [.int (mI 1), .int (mI (fZ h a0 47)), .ref a0] (uF 10 (uF 10 (uF 10 (uF 10 h as1 41 (.ref as0)) a0 40 (.int (mI (fZ h a0 39)))) a0 42 (.int (mI x2))) a0 46 (.int (mI ((fZ h a0 46) + 1))))) (ite_congr rfl (fun c1 => ?_) (fun c1 => ?_)) ?_
  · refine (tq_iconst i_X12_send_151 rfl).trans ?_
    rfl
  · refine (tq_iconst i_X12_send_147 rfl).trans ?_
    refine (tq_goto (pc' := 152) i_X12_send_148 (by decide)).trans ?_
    rfl
  refine Eq.trans ite_b01 ?_
  refine (tq_iadd i_X12_send_152 rfl).trans ?_
  refine (tq_putfield i_X12_send_153 ((sh_uF _ _ _ _ _ _).trans ((sh_uF _ _ _ _ _ _).trans ((sh_uF _ _ _ _ _ _).trans ((sh_uF _ _ _ _ _ _).trans (K10_s k2))))) (okf_10_47 _) rfl).trans ?_
  refine (tq_aload_n i_X12_send_156 rfl (isA_ref _) rfl).trans ?_
  refine (tq_getfield i_X12_send_157 ((sh_uF _ _ _ _ _ _).trans ((sh_uF _ _ _ _ _ _).trans ((sh_uF _ _ _ _ _ _).trans ((sh_uF _ _ _ _ _ _).trans ((sh_uF _ _ _ _ _ _).trans (K10_s k2)))))) (gR ((g_10_14 ((sh_uF _ _ _ _ _ _).trans ((sh_uF _ _ _ _ _ _).trans ((sh_uF _ _ _ _ _ _).trans ((sh_uF _ _ _ _ _ _).trans ((sh_uF _ _ _ _ _ _).trans (K10_s k2))))))).trans (congrArg am_rv ((fA_uF_nk ((sh_uF _ _ _ _ _ _).trans ((sh_uF _ _ _ _ _ _).trans ((sh_uF _ _ _ _ _ _).trans ((sh_uF _ _ _ _ _ _).trans (K10_s k2))))) (okf_10_47 _) (by decide)).trans ((fA_uF_nk ((sh_uF _ _ _ _ _ _).trans ((sh_uF _ _ _ _ _ _).trans ((sh_uF _ _ _ _ _ _).trans (K10_s k2)))) (okf_10_46 _) (by decide)).trans ((fA_uF_nk ((sh_uF _ _ _ _ _ _).trans ((sh_uF _ _ _ _ _ _).trans (K10_s k2))) (okfB_10_42 w2 g3) (by decide)).trans ((fA_uF_nk ((sh_uF _ _ _ _ _ _).trans (K10_s k2)) (okf_10_40 _) (by decide)).trans (fA_uF_nk (K10_s k1) (okfA_10_41 (isA_ref _)) (by decide)))))))) (K10_e14 k2)) (isV_ref _) rfl).trans ?_
  refine (tq_aload_n i_X12_send_160 rfl (isA_ref _) rfl).trans ?_
  refine (tq_getfield i_X12_send_161 ((sh_uF _ _ _ _ _ _).trans ((sh_uF _ _ _ _ _ _).trans ((sh_uF _ _ _ _ _ _).trans ((sh_uF _ _ _ _ _ _).trans ((sh_uF _ _ _ _ _ _).trans (K10_s k2)))))) ((g_10_39 ((sh_uF _ _ _ _ _ _).trans ((sh_uF _ _ _ _ _ _).trans ((sh_uF _ _ _ _ _ _).trans ((sh_uF _ _ _ _ _ _).trans ((sh_uF _ _ _ _ _ _).trans (K10_s k2))))))).trans (congrArg (fun z => Value.int (mI z)) ((fZ_uF_nk ((sh_uF _ _ _ _ _ _).trans ((sh_uF _ _ _ _ _ _).trans ((sh_uF _ _ _ _ _ _).trans ((sh_uF _ _ _ _ _ _).trans (K10_s k2))))) (okf_10_47 _) (by decide)).trans ((fZ_uF_nk ((sh_uF _ _ _ _ _ _).trans ((sh_uF _ _ _ _ _ _).trans ((sh_uF _ _ _ _ _ _).trans (K10_s k2)))) (okf_10_46 _) (by decide)).trans ((fZ_uF_nk ((sh_uF _ _ _ _ _ _).trans ((sh_uF _ _ _ _ _ _).trans (K10_s k2))) (okfB_10_42 w2 g3) (by decide)).trans ((fZ_uF_nk ((sh_uF _ _ _ _ _ _).trans (K10_s k2)) (okf_10_40 _) (by decide)).trans (fZ_uF_nk (K10_s k1) (okfA_10_41 (isA_ref _)) (by decide)))))))) (isV_I _) rfl).trans ?_
  refine (tq_baload i_X12_send_164 ((sh_uF _ _ _ _ _ _).trans ((sh_uF _ _ _ _ _ _).trans ((sh_uF _ _ _ _ _ _).trans ((sh_uF _ _ _ _ _ _).trans ((sh_uF _ _ _ _ _ _).trans (K10_s14 k2)))))) rfl (wr_fZ _ _ _) g4.1 (lt_gn ((gn_uF _ _ _ _ _ _).trans ((gn_uF _ _ _ _ _ _).trans ((gn_uF _ _ _ _ _ _).trans ((gn_uF _ _ _ _ _ _).trans ((gn_uF _ _ _ _ _ _).trans (K10_n14 k2)))))) g4.2) rfl).trans ?_
  refine (tq_if_eq (pt := 246) i_X12_send_165 (wr_gZ _ _ _) (by decide) rfl).trans ?_
  refine ite_congr rfl (fun c2 => ?_) (fun c2 => ?_)
  · refine (tq_aload_n i_X12_send_246 rfl (isA_ref _) rfl).trans ?_
    refine (tq_dup i_X12_send_247 rfl rfl).trans ?_
    refine (tq_getfield i_X12_send_248 ((sh_uF _ _ _ _ _ _).trans ((sh_uF _ _ _ _ _ _).trans ((sh_uF _ _ _ _ _ _).trans ((sh_uF _ _ _ _ _ _).trans ((sh_uF _ _ _ _ _ _).trans (K10_s k2)))))) ((g_10_39 ((sh_uF _ _ _ _ _ _).trans ((sh_uF _ _ _ _ _ _).trans ((sh_uF _ _ _ _ _ _).trans ((sh_uF _ _ _ _ _ _).trans ((sh_uF _ _ _ _ _ _).trans (K10_s k2))))))).trans (congrArg (fun z => Value.int (mI z)) ((fZ_uF_nk ((sh_uF _ _ _ _ _ _).trans ((sh_uF _ _ _ _ _ _).trans ((sh_uF _ _ _ _ _ _).trans ((sh_uF _ _ _ _ _ _).trans (K10_s k2))))) (okf_10_47 _) (by decide)).trans ((fZ_uF_nk ((sh_uF _ _ _ _ _ _).trans ((sh_uF _ _ _ _ _ _).trans ((sh_uF _ _ _ _ _ _).trans (K10_s k2)))) (okf_10_46 _) (by decide)).trans ((fZ_uF_nk ((sh_uF _ _ _ _ _ _).trans ((sh_uF _ _ _ _ _ _).trans (K10_s k2))) (okfB_10_42 w2 g3) (by decide)).trans ((fZ_uF_nk ((sh_uF _ _ _ _ _ _).trans (K10_s k2)) (okf_10_40 _) (by decide)).trans (fZ_uF_nk (K10_s k1) (okfA_10_41 (isA_ref _)) (by decide)))))))) (isV_I _) rfl).trans ?_
    refine (tq_iconst i_X12_send_251 rfl).trans ?_
    refine (tq_iadd i_X12_send_252 rfl).trans ?_
    refine (tq_putfield i_X12_send_253 ((sh_uF _ _ _ _ _ _).trans ((sh_uF _ _ _ _ _ _).trans ((sh_uF _ _ _ _ _ _).trans ((sh_uF _ _ _ _ _ _).trans ((sh_uF _ _ _ _ _ _).trans (K10_s k2)))))) (okf_10_39 _) rfl).trans ?_
    refine (tq_iload_n i_X12_send_256 rfl rfl).trans ?_
    refine (tq_if_eq (pt := 265) i_X12_send_257 w2 (by decide) rfl).trans ?_
    refine Eq.trans (b := if x2' = 0 then rn m_X12_send 267 [.ref a0, v1, .int (mI x2), v3] [.int (mI 98)] (uF 10 (uF 10 (uF 10 (uF 10 (uF 10 (uF 10 h as1 41 (.ref as0)) a0 40 (.int (mI (fZ h a0 39)))) a0 42 (.int (mI x2))) a0 46 (.int (mI ((fZ h a0 46) + 1)))) a0 47 (.int (mI ((fZ h a0 47) + (bZ (¬ (x2' = 0))))))) a0 39 (.int (mI ((fZ h a0 39) + 1)))) else rn m_X12_send 267 [.ref a0, v1, .int (mI x2), v3] [.int (mI 99)] (uF 10 (uF 10 (uF 10 (uF 10 (uF 10 (uF 10 h as1 41 (.ref as0)) a0 40 (.int (mI (fZ h a0 39)))) a0 42 (.int (mI x2))) a0 46 (.int (mI ((fZ h a0 46) + 1)))) a0 47 (.int (mI ((fZ h a0 47) + (bZ (¬ (x2' = 0))))))) a0 39 (.int (mI ((fZ h a0 39) + 1))))) (ite_congr rfl (fun c3 => ?_) (fun c3 => ?_)) ?_
    · refine (tq_bipush i_X12_send_265 rfl).trans ?_
      rfl
    · refine (tq_bipush i_X12_send_260 rfl).trans ?_
      refine (tq_goto (pc' := 267) i_X12_send_262 (by decide)).trans ?_
      rfl
    refine Eq.trans ite_I ?_
    exact tq_ireturn i_X12_send_267 r_X12_send (okC (wr_ite w_98 w_99) (g5 c2))
  · refine (tq_aload_n i_X12_send_168 rfl (isA_ref _) rfl).trans ?_
    refine (tq_getfield i_X12_send_169 ((sh_uF _ _ _ _ _ _).trans ((sh_uF _ _ _ _ _ _).trans ((sh_uF _ _ _ _ _ _).trans ((sh_uF _ _ _ _ _ _).trans ((sh_uF _ _ _ _ _ _).trans (K10_s k2)))))) ((g_10_45 ((sh_uF _ _ _ _ _ _).trans ((sh_uF _ _ _ _ _ _).trans ((sh_uF _ _ _ _ _ _).trans ((sh_uF _ _ _ _ _ _).trans ((sh_uF _ _ _ _ _ _).trans (K10_s k2))))))).trans (congrArg (fun z => Value.int (mI z)) ((fZ_uF_nk ((sh_uF _ _ _ _ _ _).trans ((sh_uF _ _ _ _ _ _).trans ((sh_uF _ _ _ _ _ _).trans ((sh_uF _ _ _ _ _ _).trans (K10_s k2))))) (okf_10_47 _) (by decide)).trans ((fZ_uF_nk ((sh_uF _ _ _ _ _ _).trans ((sh_uF _ _ _ _ _ _).trans ((sh_uF _ _ _ _ _ _).trans (K10_s k2)))) (okf_10_46 _) (by decide)).trans ((fZ_uF_nk ((sh_uF _ _ _ _ _ _).trans ((sh_uF _ _ _ _ _ _).trans (K10_s k2))) (okfB_10_42 w2 g3) (by decide)).trans ((fZ_uF_nk ((sh_uF _ _ _ _ _ _).trans (K10_s k2)) (okf_10_40 _) (by decide)).trans (fZ_uF_nk (K10_s k1) (okfA_10_41 (isA_ref _)) (by decide)))))))) (isV_I _) rfl).trans ?_
    refine (tq_iconst i_X12_send_172 rfl).trans ?_
    refine (tq_min i_X12_send_173 (wr_fZ _ _ _) w_2 (Nat.le_of_ble_eq_true rfl) rfl).trans ?_
    refine (tq_istore_n (L' := [.ref a0, v1, .int (mI x2), .int (mI (min (fZ h a0 45) 2))]) i_X12_send_176 rfl rfl).trans ?_
    rfl
theorem i_X12_send_177 : am_i m_X12_send 177 = some (177, .iload_n 3, 1, [], 0) := rfl
theorem i_X12_send_178 : am_i m_X12_send 178 = some (178, .ifCond .le 37, 3, [], 0) := rfl
theorem i_X12_send_181 : am_i m_X12_send 181 = some (181, .aload_n 0, 1, [], 0) := rfl
theorem i_X12_send_182 : am_i m_X12_send 182 = some (182, .getfield 104, 3, [10, 43, 0], 0) := rfl
theorem i_X12_send_185 : am_i m_X12_send 185 = some (185, .iload_n 3, 1, [], 0) := rfl
theorem i_X12_send_186 : am_i m_X12_send 186 = some (186, .aload_n 0, 1, [], 0) := rfl
theorem i_X12_send_187 : am_i m_X12_send 187 = some (187, .getfield 104, 3, [10, 43, 0], 0) := rfl
theorem i_X12_send_190 : am_i m_X12_send 190 = some (190, .iload_n 3, 1, [], 0) := rfl
theorem i_X12_send_191 : am_i m_X12_send 191 = some (191, .iconst 1, 1, [], 1) := rfl
theorem i_X12_send_192 : am_i m_X12_send 192 = some (192, .isub, 1, [], 0) := rfl
theorem i_X12_send_193 : am_i m_X12_send 193 = some (193, .aaload, 1, [], 0) := rfl
theorem i_X12_send_194 : am_i m_X12_send 194 = some (194, .aastore, 1, [], 0) := rfl
theorem i_X12_send_195 : am_i m_X12_send 195 = some (195, .aload_n 0, 1, [], 0) := rfl
theorem i_X12_send_196 : am_i m_X12_send 196 = some (196, .getfield 107, 3, [10, 44, 0], 0) := rfl
theorem i_X12_send_199 : am_i m_X12_send 199 = some (199, .iload_n 3, 1, [], 0) := rfl
theorem i_X12_send_200 : am_i m_X12_send 200 = some (200, .aload_n 0, 1, [], 0) := rfl
theorem i_X12_send_201 : am_i m_X12_send 201 = some (201, .getfield 107, 3, [10, 44, 0], 0) := rfl
theorem i_X12_send_204 : am_i m_X12_send 204 = some (204, .iload_n 3, 1, [], 0) := rfl
theorem i_X12_send_205 : am_i m_X12_send 205 = some (205, .iconst 1, 1, [], 1) := rfl
theorem i_X12_send_206 : am_i m_X12_send 206 = some (206, .isub, 1, [], 0) := rfl
theorem i_X12_send_207 : am_i m_X12_send 207 = some (207, .baload, 1, [], 0) := rfl
theorem i_X12_send_208 : am_i m_X12_send 208 = some (208, .bastore, 1, [], 0) := rfl
theorem i_X12_send_209 : am_i m_X12_send 209 = some (209, .iinc 3 (-1), 3, [], 0) := rfl
theorem i_X12_send_212 : am_i m_X12_send 212 = some (212, .goto (-35), 3, [], 0) := rfl
theorem i_X12_send_215 : am_i m_X12_send 215 = some (215, .aload_n 0, 1, [], 0) := rfl
theorem i_X12_send_216 : am_i m_X12_send 216 = some (216, .getfield 104, 3, [10, 43, 0], 0) := rfl
theorem i_X12_send_219 : am_i m_X12_send 219 = some (219, .iconst 0, 1, [], 0) := rfl
theorem i_X12_send_220 : am_i m_X12_send 220 = some (220, .aload_n 0, 1, [], 0) := rfl
theorem i_X12_send_221 : am_i m_X12_send 221 = some (221, .getfield 344, 3, [10, 41, 0], 0) := rfl
theorem i_X12_send_224 : am_i m_X12_send 224 = some (224, .aastore, 1, [], 0) := rfl
theorem i_X12_send_225 : am_i m_X12_send 225 = some (225, .aload_n 0, 1, [], 0) := rfl
theorem i_X12_send_226 : am_i m_X12_send 226 = some (226, .getfield 107, 3, [10, 44, 0], 0) := rfl
theorem i_X12_send_229 : am_i m_X12_send 229 = some (229, .iconst 0, 1, [], 0) := rfl
theorem i_X12_send_230 : am_i m_X12_send 230 = some (230, .iload_n 2, 1, [], 0) := rfl
theorem i_X12_send_231 : am_i m_X12_send 231 = some (231, .bastore, 1, [], 0) := rfl
theorem i_X12_send_232 : am_i m_X12_send 232 = some (232, .aload_n 0, 1, [], 0) := rfl
theorem i_X12_send_233 : am_i m_X12_send 233 = some (233, .iconst 3, 1, [], 3) := rfl
theorem i_X12_send_234 : am_i m_X12_send 234 = some (234, .aload_n 0, 1, [], 0) := rfl
theorem i_X12_send_235 : am_i m_X12_send 235 = some (235, .getfield 341, 3, [10, 45, 0], 0) := rfl
theorem i_X12_send_238 : am_i m_X12_send 238 = some (238, .iconst 1, 1, [], 1) := rfl
theorem i_X12_send_239 : am_i m_X12_send 239 = some (239, .iadd, 1, [], 0) := rfl
theorem i_X12_send_240 : am_i m_X12_send 240 = some (240, .invokestatic 3, 3, [0, 2], 0) := rfl
theorem i_X12_send_243 : am_i m_X12_send 243 = some (243, .putfield 341, 3, [10, 45, 0], 0) := rfl
theorem b_X12_send_177 {a0 b_193 : Nat} {v1 : Value} {x2 x3 x2' x3' : Int} {h : am_H} (w2 : wr x2 = x2') (w3 : wr x3 = x3') (k1 : K10 h a0) (g2 : (x3' ≤ 0) → ((0 : Int) ≤ 0 ∧ 0 < (3 : Int))) (g3 : (x3' ≤ 0) → (elok h 6 (fA h a0 41))) (g4 : (x3' ≤ 0) → (x2' = 0 ∨ x2' = 1)) (g5 : (x3' ≤ 0) → (0 ≤ (if x2' = 0 then (98 : Int) else 99) ∧ (if x2' = 0 then (98 : Int) else 99) ≤ 65535)) (g6 : (¬ (x3' ≤ 0)) → (0 ≤ wr (x3 - 1) ∧ wr (x3 - 1) < (3 : Int))) (e7 : (¬ (x3' ≤ 0)) → (gA h (a0 + 21) (wr (x3 - 1)) = some b_193)) (g8 : (¬ (x3' ≤ 0)) → (0 ≤ x3' ∧ x3' < (3 : Int))) (s9 : (¬ (x3' ≤ 0)) → (sh h b_193 = (1, 0))) (g10 : (¬ (x3' ≤ 0)) → (gZ (uA h (a0 + 21) x3' (some b_193)) (a0 + 22) (wr (x3 - 1)) = 0 ∨ gZ (uA h (a0 + 21) x3' (some b_193)) (a0 + 22) (wr (x3 - 1)) = 1)) : rn m_X12_send 177 [.ref a0, v1, .int (mI x2), .int (mI x3)] [] h = if x3' ≤ 0 then some (.inl (some (.int (mI (if x2' = 0 then (98 : Int) else 99)))), uF 10 (uF 10 (uZ (uA h (a0 + 21) 0 (fA h a0 41)) (a0 + 22) 0 x2) a0 45 (.int (mI (min 3 (wr ((fZ h a0 45) + 1)))))) a0 39 (.int (mI ((fZ h a0 39) + 1)))) else rn m_X12_send 177 [.ref a0, v1, .int (mI x2), .int (mI (x3 + (-1)))] [] (uZ (uA h (a0 + 21) x3' (some b_193)) (a0 + 22) x3' (gZ (uA h (a0 + 21) x3' (some b_193)) (a0 + 22) (wr (x3 - 1)))) := by
  refine (tq_iload_n i_X12_send_177 rfl rfl).trans ?_
  refine (tq_if_le (pt := 215) i_X12_send_178 w3 (by decide) rfl).trans ?_
  refine ite_congr rfl (fun c1 => ?_) (fun c1 => ?_)
  · refine (tq_aload_n i_X12_send_215 rfl (isA_ref _) rfl).trans ?_
    refine (tq_getfield i_X12_send_216 (K10_s k1) (gR (g_10_43 (K10_s k1)) (K10_e43 k1)) (isV_ref _) rfl).trans ?_
    refine (tq_iconst i_X12_send_219 rfl).trans ?_
    refine (tq_aload_n i_X12_send_220 rfl (isA_ref _) rfl).trans ?_
    refine (tq_getfield i_X12_send_221 (K10_s k1) (g_10_41 (K10_s k1)) (isV_rv _) rfl).trans ?_
    refine (tq_aastore (r := fA h a0 41) i_X12_send_224 (K10_s43 k1) (g3 c1) w_0 (g2 c1).1 (lt_gn (K10_n43 k1) (g2 c1).2) rfl).trans ?_
    refine (tq_aload_n i_X12_send_225 rfl (isA_ref _) rfl).trans ?_
    refine (tq_getfield i_X12_send_226 ((sh_uA _ _ _ _ _).trans (K10_s k1)) (gR ((g_10_44 ((sh_uA _ _ _ _ _).trans (K10_s k1))).trans (congrArg am_rv (fA_uA _ _ _ _ _ _))) (K10_e44 k1)) (isV_ref _) rfl).trans ?_
    refine (tq_iconst i_X12_send_229 rfl).trans ?_
    refine (tq_iload_n i_X12_send_230 rfl rfl).trans ?_
    refine (tq_bastore i_X12_send_231 ((sh_uA _ _ _ _ _).trans (K10_s44 k1)) (okB w2 (g4 c1)) w_0 (g2 c1).1 (lt_gn ((gn_uA _ _ _ _ _).trans (K10_n44 k1)) (g2 c1).2) rfl).trans ?_
    refine (tq_aload_n i_X12_send_232 rfl (isA_ref _) rfl).trans ?_
    refine (tq_iconst i_X12_send_233 rfl).trans ?_
    refine (tq_aload_n i_X12_send_234 rfl (isA_ref _) rfl).trans ?_
    refine (tq_getfield i_X12_send_235 ((sh_uZ _ _ _ _ _).trans ((sh_uA _ _ _ _ _).trans (K10_s k1))) ((g_10_45 ((sh_uZ _ _ _ _ _).trans ((sh_uA _ _ _ _ _).trans (K10_s k1)))).trans (congrArg (fun z => Value.int (mI z)) ((fZ_uZ _ _ _ _ _ _).trans (fZ_uA _ _ _ _ _ _)))) (isV_I _) rfl).trans ?_
    refine (tq_iconst i_X12_send_238 rfl).trans ?_
    refine (tq_iadd i_X12_send_239 rfl).trans ?_
    refine (tq_min i_X12_send_240 w_3 rfl (Nat.le_of_ble_eq_true rfl) rfl).trans ?_
    refine (tq_putfield i_X12_send_243 ((sh_uZ _ _ _ _ _).trans ((sh_uA _ _ _ _ _).trans (K10_s k1))) (okf_10_45 _) rfl).trans ?_
    refine (tq_aload_n i_X12_send_246 rfl (isA_ref _) rfl).trans ?_
    refine (tq_dup i_X12_send_247 rfl rfl).trans ?_
    refine (tq_getfield i_X12_send_248 ((sh_uF _ _ _ _ _ _).trans ((sh_uZ _ _ _ _ _).trans ((sh_uA _ _ _ _ _).trans (K10_s k1)))) ((g_10_39 ((sh_uF _ _ _ _ _ _).trans ((sh_uZ _ _ _ _ _).trans ((sh_uA _ _ _ _ _).trans (K10_s k1))))).trans (congrArg (fun z => Value.int (mI z)) ((fZ_uF_nk ((sh_uZ _ _ _ _ _).trans ((sh_uA _ _ _ _ _).trans (K10_s k1))) (okf_10_45 _) (by decide)).trans ((fZ_uZ _ _ _ _ _ _).trans (fZ_uA _ _ _ _ _ _))))) (isV_I _) rfl).trans ?_
    refine (tq_iconst i_X12_send_251 rfl).trans ?_
    refine (tq_iadd i_X12_send_252 rfl).trans ?_
    refine (tq_putfield i_X12_send_253 ((sh_uF _ _ _ _ _ _).trans ((sh_uZ _ _ _ _ _).trans ((sh_uA _ _ _ _ _).trans (K10_s k1)))) (okf_10_39 _) rfl).trans ?_
    refine (tq_iload_n i_X12_send_256 rfl rfl).trans ?_
    refine (tq_if_eq (pt := 265) i_X12_send_257 w2 (by decide) rfl).trans ?_
    refine Eq.trans (b := if x2' = 0 then rn m_X12_send 267 [.ref a0, v1, .int (mI x2), .int (mI x3)] [.int (mI 98)] (uF 10 (uF 10 (uZ (uA h (a0 + 21) 0 (fA h a0 41)) (a0 + 22) 0 x2) a0 45 (.int (mI (min 3 (wr ((fZ h a0 45) + 1)))))) a0 39 (.int (mI ((fZ h a0 39) + 1)))) else rn m_X12_send 267 [.ref a0, v1, .int (mI x2), .int (mI x3)] [.int (mI 99)] (uF 10 (uF 10 (uZ (uA h (a0 + 21) 0 (fA h a0 41)) (a0 + 22) 0 x2) a0 45 (.int (mI (min 3 (wr ((fZ h a0 45) + 1)))))) a0 39 (.int (mI ((fZ h a0 39) + 1))))) (ite_congr rfl (fun c2 => ?_) (fun c2 => ?_)) ?_
    · refine (tq_bipush i_X12_send_265 rfl).trans ?_
      rfl
    · refine (tq_bipush i_X12_send_260 rfl).trans ?_
      refine (tq_goto (pc' := 267) i_X12_send_262 (by decide)).trans ?_
      rfl
    refine Eq.trans ite_I ?_
    exact tq_ireturn i_X12_send_267 r_X12_send (okC (wr_ite w_98 w_99) (g5 c1))
  · refine (tq_aload_n i_X12_send_181 rfl (isA_ref _) rfl).trans ?_
    refine (tq_getfield i_X12_send_182 (K10_s k1) (gR (g_10_43 (K10_s k1)) (K10_e43 k1)) (isV_ref _) rfl).trans ?_
    refine (tq_iload_n i_X12_send_185 rfl rfl).trans ?_
    refine (tq_aload_n i_X12_send_186 rfl (isA_ref _) rfl).trans ?_
    refine (tq_getfield i_X12_send_187 (K10_s k1) (gR (g_10_43 (K10_s k1)) (K10_e43 k1)) (isV_ref _) rfl).trans ?_
    refine (tq_iload_n i_X12_send_190 rfl rfl).trans ?_
    refine (tq_iconst i_X12_send_191 rfl).trans ?_
    refine (tq_isub i_X12_send_192 rfl).trans ?_
    refine (tq_aaload i_X12_send_193 (K10_s43 k1) rfl (g6 c1).1 (lt_gn (K10_n43 k1) (g6 c1).2) rfl).trans ?_
    rw [(e7 c1)]
    simp only [am_rv]
    refine (tq_aastore (r := (some b_193)) i_X12_send_194 (K10_s43 k1) (elok_6 (s9 c1)) w3 (g8 c1).1 (lt_gn (K10_n43 k1) (g8 c1).2) rfl).trans ?_
    refine (tq_aload_n i_X12_send_195 rfl (isA_ref _) rfl).trans ?_
    refine (tq_getfield i_X12_send_196 ((sh_uA _ _ _ _ _).trans (K10_s k1)) (gR ((g_10_44 ((sh_uA _ _ _ _ _).trans (K10_s k1))).trans (congrArg am_rv (fA_uA _ _ _ _ _ _))) (K10_e44 k1)) (isV_ref _) rfl).trans ?_
    refine (tq_iload_n i_X12_send_199 rfl rfl).trans ?_
    refine (tq_aload_n i_X12_send_200 rfl (isA_ref _) rfl).trans ?_
    refine (tq_getfield i_X12_send_201 ((sh_uA _ _ _ _ _).trans (K10_s k1)) (gR ((g_10_44 ((sh_uA _ _ _ _ _).trans (K10_s k1))).trans (congrArg am_rv (fA_uA _ _ _ _ _ _))) (K10_e44 k1)) (isV_ref _) rfl).trans ?_
    refine (tq_iload_n i_X12_send_204 rfl rfl).trans ?_
    refine (tq_iconst i_X12_send_205 rfl).trans ?_
    refine (tq_isub i_X12_send_206 rfl).trans ?_
    refine (tq_baload i_X12_send_207 ((sh_uA _ _ _ _ _).trans (K10_s44 k1)) rfl rfl (g6 c1).1 (lt_gn ((gn_uA _ _ _ _ _).trans (K10_n44 k1)) (g6 c1).2) rfl).trans ?_
    refine (tq_bastore i_X12_send_208 ((sh_uA _ _ _ _ _).trans (K10_s44 k1)) (okB (wr_gZ _ _ _) (g10 c1)) w3 (g8 c1).1 (lt_gn ((gn_uA _ _ _ _ _).trans (K10_n44 k1)) (g8 c1).2) rfl).trans ?_
    refine (tq_iinc (L' := [.ref a0, v1, .int (mI x2), .int (mI (x3 + (-1)))]) i_X12_send_209 rfl rfl rfl).trans ?_
    refine (tq_goto (pc' := 177) i_X12_send_212 (by decide)).trans ?_
    rfl
theorem send_tail (rm : RM σ h D) (wf : WfS σ c) (hc : c ≤ 1000) (hn : tz σ 9 < tz σ 7) {cv : Int} (hcv : cv = 0 ∨ cv = 1) {A : Nat} {P : Int → Int} (iA : isRow h D A 256 P) (th : fZ h 51 0 = 0) (v1 v3 : Value) : MRs (stS σ cv P) h D (rn m_X12_send 112 [.ref 51, v1, .int (mI cv), v3] [.ref A, .ref 51] h) (.int (mI (if cv = 0 then 98 else 99))) 0 0 0 := by
  have n := WFn wf
  obtain ⟨⟨n9, n9'⟩, n10, n11, n12, n13, n14⟩ := wf.2.2.2.2.1
  have k0 := K10_s rm.1
  have wcv : wr cv = cv := wr_id (by omega) (by omega)
  obtain ⟨⟨d39, d40, d45, d46, d47⟩, d42, d41, dl, dc⟩ := rm.2.2.2.2.2.2
  have pw := wf.2.2.2.1 (tz σ 9) n9 hn
  have pm := rm.2.2.2.2.2.1 (tz σ 9) n9 hn
  have kp6 : gZ h 57 (tz σ 9) = tpz σ (tz σ 9) 6 := pm.1.2.2.2.2.1
  have st := b_X12_send_112 (a0 := 51) (as0 := A) (as1 := 51) (v1 := v1) (x2 := cv) (v3 := v3) (h := h) wcv rm.1 rm.1 hcv (by rw [d39]; omega) (fun _ => by split <;> omega)
  simp only [Nat.reduceAdd] at st
  have eS : tz σ 14 + bZ (¬ (cv = 0)) = tz σ 14 + cv := by
    rcases hcv with e | e
    · rw [e, bZ_f (by decide)]
    · rw [e, bZ_t (by decide)]
  rw [d39, d45, d46, d47, eS] at st
  obtain ⟨hB, eB⟩ : ∃ u, u = uF 10 (uF 10 (uF 10 (uF 10 (uF 10 h 51 41 (.ref A)) 51 40 (.int (mI (tz σ 9)))) 51 42 (.int (mI cv))) 51 46 (.int (mI (tz σ 13 + 1)))) 51 47 (.int (mI (tz σ 14 + cv))) := ⟨_, rfl⟩
  rw [← eB] at st
  have ok41 : am_okV (am_ft 10 41) (.ref A) = true := okfA_10_41 (isA_ref A)
  have mA : Md (fun a k => a = 51 ∧ k = 41) h (uF 10 h 51 41 (.ref A)) := Md_uF (Sm_uF_10_41 _ _ _)
  have sA : sh (uF 10 h 51 41 (.ref A)) 51 = (5, 10) := (md_sh mA _).trans k0
  have m2 : Md (fun a k => a = 51 ∧ (k = 40 ∨ k = 42 ∨ k = 46 ∨ k = 47)) (uF 10 h 51 41 (.ref A)) hB := by
    rw [eB]
    exact Md_tr (Md_mono (Md_uF (Sm_uF_10_40 _ _ _)) fun a k q => ⟨q.1, by omega⟩) (Md_tr (Md_mono (Md_uF (Sm_uF_10_42 _ _ _)) fun a k q => ⟨q.1, by omega⟩) (Md_tr (Md_mono (Md_uF (Sm_uF_10_46 _ _ _)) fun a k q => ⟨q.1, by omega⟩) (Md_mono (Md_uF (Sm_uF_10_47 _ _ _)) fun a k q => ⟨q.1, by omega⟩)))
  have f41 : fA hB 51 41 = some A := (md_fA m2 (by omega)).trans (fA_uF_eq (r := some A) k0 ok41)
  have f40 : fZ hB 51 40 = tz σ 9 := by rw [eB, fZ_uF_k (by decide), fZ_uF_k (by decide), fZ_uF_k (by decide), fZ_uF_eq sA (okf_10_40 _), wr_id (by omega) (by omega)]
  have f42 : fZ hB 51 42 = cv := by rw [eB, fZ_uF_k (by decide), fZ_uF_k (by decide), fZ_uF_eq ((sh_uF _ _ _ _ _ _).trans sA) (okfB_10_42 wcv hcv), wcv]
  have f46 : fZ hB 51 46 = tz σ 13 + 1 := by rw [eB, fZ_uF_k (by decide), fZ_uF_eq ((sh_uF _ _ _ _ _ _).trans ((sh_uF _ _ _ _ _ _).trans sA)) (okf_10_46 _), wr_id (by omega) (by omega)]
  have f47 : fZ hB 51 47 = tz σ 14 + cv := by rw [eB, fZ_uF_eq ((sh_uF _ _ _ _ _ _).trans ((sh_uF _ _ _ _ _ _).trans ((sh_uF _ _ _ _ _ _).trans sA))) (okf_10_47 _), wr_id (by omega) (by omega)]
  have mB : Md (fun a k => a = 51 ∧ (k = 41 ∨ k = 40 ∨ k = 42 ∨ k = 46 ∨ k = 47)) h hB := Md_tr (Md_mono mA fun a k q => ⟨q.1, by omega⟩) (Md_mono m2 fun a k q => ⟨q.1, by omega⟩)
  have f39 : fZ hB 51 39 = tz σ 9 := (md_fZ mB (by omega)).trans d39
  have f45 : fZ hB 51 45 = tz σ 12 := (md_fZ mB (by omega)).trans d45
  have f0 : fZ hB 51 0 = 0 := (md_fZ mB (by omega)).trans th
  have kB := K10_sm mB.1 rm.1
  clear eB
  have g6 : gZ hB 57 (tz σ 9) = tpz σ (tz σ 9) 6 := (md_gZ mB (by omega) _).trans kp6
  rw [g6] at st
  have ez : ∀ j, j ≤ 8 → tz (stS σ cv P) j = tz σ j := fun j hj => by
    show (if j = 9 then _ else if j = 10 then _ else if j = 11 then _ else if j = 12 then _ else if j = 13 then _ else if j = 14 then _ else tz σ j) = tz σ j
    rw [if_neg (by omega), if_neg (by omega), if_neg (by omega), if_neg (by omega), if_neg (by omega), if_neg (by omega)]
  -- what is at the end
  have endd : ∀ hC : am_H, Md SMD h hC → fZ hC 51 39 = tz σ 9 + 1 → fZ hC 51 40 = tz σ 9 → fZ hC 51 42 = cv → fZ hC 51 46 = tz σ 13 + 1 → fZ hC 51 47 = tz σ 14 + cv → fA hC 51 41 = some A → fZ hC 51 45 = tz (stS σ cv P) 12 → fZ hC 51 0 = 0 → (∀ j, 0 ≤ j → j < tz (stS σ cv P) 12 → ∃ T, gA hC 72 j = some T ∧ isRow h D T 256 (tkp (stS σ cv P) j)) → (∀ j, 0 ≤ j → j < tz (stS σ cv P) 12 → gZ hC 73 j = tkc (stS σ cv P) j) → RM (stS σ cv P) hC D ∧ fZ hC 51 0 = 0 ∧ Fr SMl2 0 0 h hC := by
    intro hC m e39 e40 e42 e46 e47 e41 e45 e0 el ec
    have F := md_fr m
    have row : ∀ T f, isRow h D T 256 f → isRow hC D T 256 f := fun T f r => isRow_fr F (fun q => by unfold SMD at q; have := r.1.1; omega) (dyn_fr F) r
    refine ⟨RM_dec (σ := σ) (σ' := stS σ cv P) F ez rfl rfl rfl rfl ⟨⟨e39, e40, e45, e46, e47⟩, fun _ => e42, Or.inr ⟨?_, A, e41, row _ _ iA⟩, fun j j0 j1 => ?_, ec⟩ rm, e0, Fr_mono F (fun a k _ q => by unfold SMD at q; unfold SMl2; omega) (Nat.le_refl _) (Nat.le_refl _)⟩
    · show tz σ 9 ≠ -1
      omega
    · obtain ⟨T, q1, q2⟩ := el j j0 j1
      exact ⟨T, q1, row _ _ q2⟩
  by_cases q : tpz σ (tz σ 9) 6 = 0
  · rw [if_pos q] at st
    have m39 : Md (fun a k => a = 51 ∧ k = 39) hB (uF 10 hB 51 39 (.int (mI (fZ hB 51 39 + 1)))) := Md_uF (Sm_uF_10_39 _ _ _)
    rw [f39] at m39
    have g39 : fZ (uF 10 hB 51 39 (.int (mI (tz σ 9 + 1)))) 51 39 = tz σ 9 + 1 := by rw [fZ_uF_eq (K10_s kB) (okf_10_39 _), wr_id (by omega) (by omega)]
    have e12 : tz (stS σ cv P) 12 = tz σ 12 := if_pos q
    have ekp : tkp (stS σ cv P) = tkp σ := by
      show (fun j => if tpz σ (tz σ 9) 6 = 0 then tkp σ j else if j = 0 then P else tkp σ (j - 1)) = tkp σ
      funext j
      rw [if_pos q]
    have ekc : tkc (stS σ cv P) = tkc σ := by
      show (fun j => if tpz σ (tz σ 9) 6 = 0 then tkc σ j else if j = 0 then cv else tkc σ (j - 1)) = tkc σ
      funext j
      rw [if_pos q]
    obtain ⟨r1, r2, r3⟩ := endd _ (Md_tr (Md_mono mB fun a k q => by unfold SMD; omega) (Md_mono m39 fun a k q => by unfold SMD; omega)) g39 ((md_fZ m39 (by omega)).trans f40) ((md_fZ m39 (by omega)).trans f42) ((md_fZ m39 (by omega)).trans f46) ((md_fZ m39 (by omega)).trans f47) ((md_fA m39 (by omega)).trans f41) (by rw [e12]; exact (md_fZ m39 (by omega)).trans f45) ((md_fZ m39 (by omega)).trans f0) (fun j j0 j1 => by
      rw [e12] at j1
      rw [ekp, md_gA m39 (by omega), md_gA mB (by omega)]
      exact dl j j0 j1) (fun j j0 j1 => by
      rw [e12] at j1
      rw [ekc, md_gZ m39 (by omega), md_gZ mB (by omega)]
      exact dc j j0 j1)
    exact ⟨_, st, r1, r2, r3⟩
  · rw [if_neg q] at st
    obtain ⟨M, eM⟩ : ∃ M, M = min (tz σ 12) 2 := ⟨_, rfl⟩
    rw [← eM] at st
    have hM : 0 ≤ M ∧ M ≤ 2 ∧ M ≤ tz σ 12 ∧ tz σ 12 ≤ M + 1 := by omega
    have e12 : tz (stS σ cv P) 12 = M + 1 := by
      refine (if_neg q).trans ?_
      omega
    have ekp : ∀ j, tkp (stS σ cv P) j = if j = 0 then P else tkp σ (j - 1) := fun j => if_neg q
    have ekc : ∀ j, tkc (stS σ cv P) j = if j = 0 then cv else tkc σ (j - 1) := fun j => if_neg q
    have loop := lp (m := m_X12_send) (pc := 177) (L := fun i (_ : Unit) => [.ref 51, v1, .int (mI cv), .int (mI (M - i))]) (N := M) (P := fun r => ∃ hC, r = some (.inl (some (.int (mI (if cv = 0 then 98 else 99)))), hC) ∧ RM (stS σ cv P) hC D ∧ fZ hC 51 0 = 0 ∧ Fr SMl2 0 0 h hC) (fun i _ h2 => 0 ≤ i ∧ Md (fun a _ => a = 72 ∨ a = 73) hB h2 ∧ (∀ j, 0 ≤ j → j ≤ M - i → gA h2 72 j = gA hB 72 j ∧ gZ h2 73 j = gZ hB 73 j) ∧ ∀ j, M - i < j → j ≤ M → gA h2 72 j = gA hB 72 (j - 1) ∧ gZ h2 73 j = gZ hB 73 (j - 1)) ?_ ?_ 0 () hB hM.1 ⟨by omega, Md_rf _ _, fun j _ _ => ⟨rfl, rfl⟩, fun j j0 j1 => by omega⟩
    · rw [Int.sub_zero] at loop
      obtain ⟨hC, e, r1, r2, r3⟩ := loop
      exact ⟨hC, st.trans e, r1, r2, r3⟩
    · intro i _ h2 hi ⟨i0, md, lo, hi'⟩
      have k2 := K10_sm md.1 kB
      obtain ⟨T, t1, t2⟩ := dl (M - i - 1) (by omega) (by omega)
      have c1 := dc (M - i - 1) (by omega) (by omega)
      have kc1 := (wf.2.2.2.2.2.2.1 (M - i - 1) (by omega) (by omega)).2
      have lo1 := lo (M - i - 1) (by omega) (by omega)
      have a1 : gA h2 72 (M - i - 1) = some T := lo1.1.trans ((congrFun (md_gA mB (by omega)) _).trans t1)
      have b1 : gZ h2 73 (M - i - 1) = tkc σ (M - i - 1) := lo1.2.trans ((md_gZ mB (by omega) _).trans c1)
      have wm : wr (M - i - 1) = M - i - 1 := wr_id (by omega) (by omega)
      have st2 := b_X12_send_177 (a0 := 51) (b_193 := T) (v1 := v1) (x2 := cv) (x3 := M - i) (h := h2) wcv (wr_id (by omega) (by omega)) k2 (fun _ => by decide) (fun w => absurd w (by omega)) (fun _ => hcv) (fun _ => by split <;> omega) (fun _ => by rw [wm]; omega) (fun _ => by rw [wm]; exact a1) (fun _ => by omega) (fun _ => (md_sh md _).trans ((md_sh mB _).trans t2.2.1.1)) (fun _ => by rw [wm, gZ_uA, b1]; exact kc1)
      simp only [Nat.reduceAdd] at st2
      rw [if_neg (by omega), wm, gZ_uA, b1, show M - i + -1 = M - (i + 1) by omega] at st2
      have s72 := K10_s43 k2
      have s73 := K10_s44 k2
      have mU : Md (fun a _ => a = 72) h2 (uA h2 72 (M - i) (some T)) := Md_uA _ _ _ _
      have mV : Md (fun a _ => a = 73) (uA h2 72 (M - i) (some T)) (uZ (uA h2 72 (M - i) (some T)) 73 (M - i) (tkc σ (M - i - 1))) := Md_uZ _ _ _ _
      refine ⟨(), _, st2, by omega, Md_tr md (Md_tr (Md_mono mU fun a _ q => Or.inl q) (Md_mono mV fun a _ q => Or.inr q)), fun j j0 j1 => ?_, fun j j0 j1 => ?_⟩
      · rw [md_gA mV (by omega), gA_uA_nj _ (by rw [s72]) (by omega), gZ_uZ' (by rw [md_sh mU, s73]), if_neg (by omega), gZ_uA]
        exact lo j j0 (by omega)
      · rw [md_gA mV (by omega), gZ_uZ' (by rw [md_sh mU, s73])]
        by_cases e : j = M - i
        · rw [gA_uA_eq _ (by rw [s72]) e, if_pos e, e, ← lo1.1, a1, ← lo1.2, b1, wr_id (by omega) (by omega)]
          exact ⟨rfl, rfl⟩
        · rw [gA_uA_nj _ (by rw [s72]) e, if_neg e, gZ_uA]
          exact hi' j (by omega) j1
    · intro _ h2 ⟨i0, md, lo, hi'⟩
      have k2 := K10_sm md.1 kB
      have fa2 : fA h2 51 41 = some A := (md_fA md (by omega)).trans f41
      have f45' : fZ h2 51 45 = tz σ 12 := (md_fZ md (by omega)).trans f45
      have f39' : fZ h2 51 39 = tz σ 9 := (md_fZ md (by omega)).trans f39
      have st2 := b_X12_send_177 (a0 := 51) (b_193 := 0) (v1 := v1) (x2 := cv) (x3 := M - M) (h := h2) wcv (wr_id (by omega) (by omega)) k2 (fun _ => by decide) (fun w => by rw [fa2]; exact elok_6 ((md_sh md _).trans ((md_sh mB _).trans iA.2.1.1))) (fun _ => hcv) (fun _ => by split <;> omega) (fun w => absurd (by omega) w) (fun w => absurd (by omega) w) (fun w => absurd (by omega) w) (fun w => absurd (by omega) w) (fun w => absurd (by omega) w)
      simp only [Nat.reduceAdd] at st2
      rw [if_pos (by omega), fa2, f45', f39', wr_id (z := tz σ 12 + 1) (by omega) (by omega)] at st2
      have s72 := K10_s43 k2
      have s73 := K10_s44 k2
      have mU : Md (fun a _ => a = 72) h2 (uA h2 72 0 (some A)) := Md_uA _ _ _ _
      have mV : Md (fun a _ => a = 73) (uA h2 72 0 (some A)) (uZ (uA h2 72 0 (some A)) 73 0 cv) := Md_uZ _ _ _ _
      have gU : gA (uA h2 72 0 (some A)) 72 0 = some A := gA_uA_eq _ (by rw [s72]) rfl
      have gU' : ∀ j, j ≠ 0 → gA (uA h2 72 0 (some A)) 72 j = gA h2 72 j := fun j e => gA_uA_nj _ (by rw [s72]) e
      have gV' : ∀ j, gZ (uZ (uA h2 72 0 (some A)) 73 0 cv) 73 j = if j = 0 then cv else gZ h2 73 j := fun j => by
        rw [gZ_uZ' (by rw [md_sh mU, s73]), wcv, gZ_uA]
      have kV := K10_sm mV.1 (K10_sm mU.1 k2)
      generalize uA h2 72 0 (some A) = hU at *
      generalize uZ hU 73 0 cv = hV at *
      have m45 : Md (fun a k => a = 51 ∧ k = 45) hV (uF 10 hV 51 45 (.int (mI (min 3 (tz σ 12 + 1))))) := Md_uF (Sm_uF_10_45 _ _ _)
      have g45 : fZ (uF 10 hV 51 45 (.int (mI (min 3 (tz σ 12 + 1))))) 51 45 = M + 1 := by rw [fZ_uF_eq (K10_s kV) (okf_10_45 _), wr_id (by omega) (by omega)]; omega
      have k45 := K10_sm m45.1 kV
      generalize uF 10 hV 51 45 (.int (mI (min 3 (tz σ 12 + 1)))) = hW at *
      have m39 : Md (fun a k => a = 51 ∧ k = 39) hW (uF 10 hW 51 39 (.int (mI (tz σ 9 + 1)))) := Md_uF (Sm_uF_10_39 _ _ _)
      have g39 : fZ (uF 10 hW 51 39 (.int (mI (tz σ 9 + 1)))) 51 39 = tz σ 9 + 1 := by rw [fZ_uF_eq (K10_s k45) (okf_10_39 _), wr_id (by omega) (by omega)]
      generalize uF 10 hW 51 39 (.int (mI (tz σ 9 + 1))) = hX at *
      have mT : Md (fun a k => (a = 51 ∧ (k = 39 ∨ k = 45)) ∨ a = 72 ∨ a = 73) hB hX := Md_tr (Md_mono md fun a _ q => Or.inr q) (Md_tr (Md_mono mU fun a _ q => Or.inr (Or.inl q)) (Md_tr (Md_mono mV fun a _ q => Or.inr (Or.inr q)) (Md_tr (Md_mono m45 fun a k q => Or.inl ⟨q.1, Or.inr q.2⟩) (Md_mono m39 fun a k q => Or.inl ⟨q.1, Or.inl q.2⟩))))
      obtain ⟨r1, r2, r3⟩ := endd hX (Md_tr (Md_mono mB fun a k q => by unfold SMD; omega) (Md_mono mT fun a k q => by unfold SMD; omega)) g39 ((md_fZ mT (by omega)).trans f40) ((md_fZ mT (by omega)).trans f42) ((md_fZ mT (by omega)).trans f46) ((md_fZ mT (by omega)).trans f47) ((md_fA mT (by omega)).trans f41) (by rw [e12]; exact (md_fZ m39 (by omega)).trans g45) ((md_fZ mT (by omega)).trans f0) (fun j j0 j1 => by
        rw [e12] at j1
        rw [ekp, md_gA m39 (by omega), md_gA m45 (by omega), md_gA mV (by omega)]
        by_cases e : j = 0
        · rw [if_pos e, e, gU]
          exact ⟨A, rfl, iA⟩
        · rw [if_neg e, gU' j e, (hi' j (by omega) (by omega)).1, md_gA mB (by omega)]
          exact dl (j - 1) (by omega) (by omega)) (fun j j0 j1 => by
        rw [e12] at j1
        rw [ekc, md_gZ m39 (by omega), md_gZ m45 (by omega), gV' j]
        by_cases e : j = 0
        · rw [if_pos e, if_pos e]
        · rw [if_neg e, if_neg e, (hi' j (by omega) (by omega)).2, md_gZ mB (by omega)]
          exact dc (j - 1) (by omega) (by omega))
      exact ⟨hX, st2, r1, r2, r3⟩
theorem i_X12_isGood_0 : am_i m_X12_isGood 0 = some (0, .iload_n 1, 1, [], 0) := rfl
theorem i_X12_isGood_1 : am_i m_X12_isGood 1 = some (1, .iconst (-1), 1, [], -1) := rfl
theorem i_X12_isGood_2 : am_i m_X12_isGood 2 = some (2, .if_icmp .eq 20, 3, [], 0) := rfl
theorem i_X12_isGood_5 : am_i m_X12_isGood 5 = some (5, .iload_n 1, 1, [], 0) := rfl
theorem i_X12_isGood_6 : am_i m_X12_isGood 6 = some (6, .aload_n 0, 1, [], 0) := rfl
theorem i_X12_isGood_7 : am_i m_X12_isGood 7 = some (7, .getfield 341, 3, [10, 45, 0], 0) := rfl
theorem i_X12_isGood_10 : am_i m_X12_isGood 10 = some (10, .if_icmp .ge 16, 3, [], 0) := rfl
theorem i_X12_isGood_13 : am_i m_X12_isGood 13 = some (13, .aload_n 0, 1, [], 0) := rfl
theorem i_X12_isGood_14 : am_i m_X12_isGood 14 = some (14, .getfield 107, 3, [10, 44, 0], 0) := rfl
theorem i_X12_isGood_17 : am_i m_X12_isGood 17 = some (17, .iload_n 1, 1, [], 0) := rfl
theorem i_X12_isGood_18 : am_i m_X12_isGood 18 = some (18, .baload, 1, [], 0) := rfl
theorem i_X12_isGood_19 : am_i m_X12_isGood 19 = some (19, .ifCond .eq 7, 3, [], 0) := rfl
theorem i_X12_isGood_22 : am_i m_X12_isGood 22 = some (22, .iconst 1, 1, [], 1) := rfl
theorem i_X12_isGood_23 : am_i m_X12_isGood 23 = some (23, .goto 4, 3, [], 0) := rfl
theorem i_X12_isGood_26 : am_i m_X12_isGood 26 = some (26, .iconst 0, 1, [], 0) := rfl
theorem i_X12_isGood_27 : am_i m_X12_isGood 27 = some (27, .ireturn, 1, [], 0) := rfl
theorem b_X12_isGood_0 {a0 : Nat} {x1 x1' : Int} {h : am_H} (w1 : wr x1 = x1') (k1 : K10 h a0) (g2 : (¬ (x1' = (-1))) → (¬ ((fZ h a0 45) ≤ x1')) → (0 ≤ x1' ∧ x1' < (3 : Int))) : rn m_X12_isGood 0 [.ref a0, .int (mI x1)] [] h = some (.inl (some (.int (mI (bZ ((x1' = (-1)) ∨ (¬ ((fZ h a0 45) ≤ x1') ∧ (¬ ((gZ h (a0 + 22) x1') = 0)))))))), h) := by
  refine (tq_iload_n i_X12_isGood_0 rfl rfl).trans ?_
  refine (tq_iconst i_X12_isGood_1 rfl).trans ?_
  refine (tq_icmp_eq (pt := 22) i_X12_isGood_2 w1 w_m1 (by decide) rfl).trans ?_
  refine Eq.trans (b := if x1' = (-1) then rn m_X12_isGood 27 [.ref a0, .int (mI x1)] [.int (mI 1)] h else rn m_X12_isGood 27 [.ref a0, .int (mI x1)] [.int (mI (bZ (¬ ((fZ h a0 45) ≤ x1') ∧ (¬ ((gZ h (a0 + 22) x1') = 0)))))] h) (ite_congr rfl (fun c1 => ?_) (fun c1 => ?_)) ?_
  · refine (tq_iconst i_X12_isGood_22 rfl).trans ?_
    refine (tq_goto (pc' := 27) i_X12_isGood_23 (by decide)).trans ?_
    rfl
  · refine (tq_iload_n i_X12_isGood_5 rfl rfl).trans ?_
    refine (tq_aload_n i_X12_isGood_6 rfl (isA_ref _) rfl).trans ?_
    refine (tq_getfield i_X12_isGood_7 (K10_s k1) (g_10_45 (K10_s k1)) (isV_I _) rfl).trans ?_
    refine (tq_icmp_ge (pt := 26) i_X12_isGood_10 w1 (wr_fZ _ _ _) (by decide) rfl).trans ?_
    refine Eq.trans (b := if (fZ h a0 45) ≤ x1' then rn m_X12_isGood 27 [.ref a0, .int (mI x1)] [.int (mI 0)] h else rn m_X12_isGood 27 [.ref a0, .int (mI x1)] [.int (mI (bZ (¬ ((gZ h (a0 + 22) x1') = 0))))] h) (ite_congr rfl (fun c2 => ?_) (fun c2 => ?_)) ?_
    · refine (tq_iconst i_X12_isGood_26 rfl).trans ?_
      rfl
    · refine (tq_aload_n i_X12_isGood_13 rfl (isA_ref _) rfl).trans ?_
      refine (tq_getfield i_X12_isGood_14 (K10_s k1) (gR (g_10_44 (K10_s k1)) (K10_e44 k1)) (isV_ref _) rfl).trans ?_
      refine (tq_iload_n i_X12_isGood_17 rfl rfl).trans ?_
      refine (tq_baload i_X12_isGood_18 (K10_s44 k1) rfl w1 (g2 c1 c2).1 (lt_gn (K10_n44 k1) (g2 c1 c2).2) rfl).trans ?_
      refine (tq_if_eq (pt := 26) i_X12_isGood_19 (wr_gZ _ _ _) (by decide) rfl).trans ?_
      refine Eq.trans (b := if (gZ h (a0 + 22) x1') = 0 then rn m_X12_isGood 27 [.ref a0, .int (mI x1)] [.int (mI 0)] h else rn m_X12_isGood 27 [.ref a0, .int (mI x1)] [.int (mI 1)] h) (ite_congr rfl (fun c3 => ?_) (fun c3 => ?_)) ?_
      · refine (tq_iconst i_X12_isGood_26 rfl).trans ?_
        rfl
      · refine (tq_iconst i_X12_isGood_22 rfl).trans ?_
        refine (tq_goto (pc' := 27) i_X12_isGood_23 (by decide)).trans ?_
        rfl
      exact ite_b01
    exact ite_b0p
  refine Eq.trans ite_b1p ?_
  exact tq_ireturn i_X12_isGood_27 r_X12_isGood (okB (wr_bZ _) (bZ_01 _))
theorem isGood_ok (rm : RM σ h D) (wf : WfS σ c) {x : Int} (hx : -1 ≤ x ∧ x < 3) : rn m_X12_isGood 0 [.ref 51, .int (mI x)] [] h = some (.inl (some (.int (mI (bZ (x = -1 ∨ tkc σ x = 1))))), h) := by
  have d45 : fZ h 51 45 = tz σ 12 := rm.2.2.2.2.2.2.1.2.2.1
  have n12 := wf.2.2.2.2.1.2.2.2.1
  have st := b_X12_isGood_0 (a0 := 51) (x1 := x) (h := h) (wr_id (by omega) (by omega)) rm.1 (fun g _ => by omega)
  simp only [Nat.reduceAdd] at st
  rw [d45] at st
  suffices eq : (x = -1 ∨ ¬tz σ 12 ≤ x ∧ ¬gZ h 73 x = 0) ↔ (x = -1 ∨ tkc σ x = 1) by
    rw [bZ_congr eq] at st
    exact st
  by_cases e : x = -1
  · simp only [e, true_or]
  · by_cases g : tz σ 12 ≤ x
    · have := (wf.2.2.2.2.2.2.2.1 x g (by omega) (by omega)).2
      omega
    · have c1 := rm.2.2.2.2.2.2.2.2.2.2 x (by omega) (by omega)
      have c2 := (wf.2.2.2.2.2.2.1 x (by omega) (by omega)).2
      rw [c1]
      omega
theorem m_send (rm : RM σ h D) (wf : WfS σ c) (hc : c ≤ 1000) (hD : 75 < hnx h ∧ D + 8 < hnx h) {lost : Int} (w : wr lost = lost) : (tz σ 9 < tz σ 7 → (0 ≤ lost ∧ lost ≤ (if tpz σ (tz σ 9) 5 = 2 then 3 else 1)) → ∀ p : Int → Int, (∀ s, 0 ≤ s → s < 16 → Dcd (tpd σ (tz σ 9)) (F1 σ (tz σ 9)) (F2 σ (tz σ 9)) (tsp σ) (tpz σ (tz σ 9) 5) (tpz σ (tz σ 9) 3) lost p s) → MRs (stS σ (cvS σ lost) (smo (tpz σ (tz σ 9) 3) (tpz σ (tz σ 9) 4) (tpz σ (tz σ 9) 5) p)) h D (rn m_X12_send 0 [.ref 51, .int (mI lost), am_J, am_J] [] h) (.int (mI (if cvS σ lost = 0 then 98 else 99))) 0 51 5376) ∧ (¬ tz σ 9 < tz σ 7 → MRs σ h D (rn m_X12_send 0 [.ref 51, .int (mI lost), am_J, am_J] [] h) (.int (mI 32)) 1 0 0) ∧ (tz σ 9 < tz σ 7 → ¬ (0 ≤ lost ∧ lost ≤ (if tpz σ (tz σ 9) 5 = 2 then 3 else 1)) → MRs σ h D (rn m_X12_send 0 [.ref 51, .int (mI lost), am_J, am_J] [] h) (.int (mI 32)) 2 0 0) := by
  have n := WFn wf
  obtain ⟨⟨n9, n9'⟩, n10, n11, n12, n13, n14⟩ := wf.2.2.2.2.1
  obtain ⟨⟨d39, d40, d45, d46, d47⟩, d42, d41, dl, dc⟩ := rm.2.2.2.2.2.2
  have en : fZ h 51 9 = tz σ 7 := rm.2.2.2.1.2.2.1
  have st := b_X12_send_0 (a0 := 51) (x1 := lost) (h := h) w rm.1 (fun g => by rw [d39, en] at g; rw [d39]; omega) (fun g _ => by
    rw [d39, en] at g
    rw [d39]
    by_cases q : tz σ 9 < tz σ 7
    · omega
    · rw [if_neg q] at g; exact absurd g (by decide))
  simp only [Nat.reduceAdd] at st
  rw [d39, en] at st
  refine ⟨fun hn hl p dcp => ?_, fun hn => ?_, fun hn hl => ?_⟩
  · obtain ⟨⟨z53, z54, z55, z56, z57, z58, z59, z60, z61⟩, -, mp, -⟩ := rm.2.2.2.2.2.1 (tz σ 9) n9 hn
    obtain ⟨pk, p1, p2, pq, ptl, psl, pkp, -, -, -, -, pW, -⟩ := wf.2.2.2.1 (tz σ 9) n9 hn
    have l3 : lost ≤ 3 := by have := hl.2; split at this <;> omega
    have eL : (¬ (lost < 0) ∧ (¬ ((if ¬ tpz σ (tz σ 9) 5 = 2 then (1 : Int) else 3) < lost))) := by
      have := hl.2
      rcases psl with e | e <;> rw [e] at this ⊢
      · rw [if_pos (by decide)]; rw [if_neg (by decide)] at this; omega
      · rw [if_neg (by decide)]; rw [if_pos rfl] at this; omega
    rw [if_pos hn, z56, if_pos eL, if_pos (by decide)] at st
    obtain ⟨t1, t2, t3, tm⟩ := thr_ok (z := 0) rm (wr_id (by decide) (by decide))
    have nx1 : hnx (uF 10 h 51 0 (.int (mI 0))) = hnx h := tm.1.2.2.2.1
    generalize uF 10 h 51 0 (.int (mI 0)) = h1 at *
    have y58 : gZ h1 58 (tz σ 9) = if tpz σ (tz σ 9) 0 = 105 then -1 else tpz σ (tz σ 9) 1 := (t1.2.2.2.2.2.1 (tz σ 9) n9 hn).1.2.2.2.2.2.1
    have fp := F_pix wf ⟨n9, hn⟩
    -- whichever way clean is found, what follows is the same
    have go : ∀ cv : Int, (cv = 0 ∨ cv = 1) → ∀ (v3 : Value), MRs (stS σ cv (smo (tpz σ (tz σ 9) 3) (tpz σ (tz σ 9) 4) (tpz σ (tz σ 9) 5) p)) h D (cl m_X12_send 112 [.ref 51, .int (mI lost), .int (mI cv), v3] [.ref 51] (rn m_X12_decodes 0 [.ref 51, .int (mI (tz σ 9)), .int (mI lost), am_J, am_J, am_J, am_J, am_J, am_J, am_J, am_J, am_J, am_J, am_J] [] h1)) (.int (mI (if cv = 0 then 98 else 99))) 0 51 5376 := by
      intro cv hcv v3
      obtain ⟨⟨y53, y54, y55, y56, y57, -, y59, -, -⟩, -, mp1, -⟩ := t1.2.2.2.2.2.1 (tz σ 9) n9 hn
      obtain ⟨⟨u39, u40, u45, u46, u47⟩, u42, u41, ul, uc⟩ := t1.2.2.2.2.2.2
      have wk := wf.2.2.2.2.2.2.2.1
      have rl : ∀ a : Int, -1 ≤ a → a < 3 → ∀ f : Int → Int, (a = -1 → f = fun _ => 128) → (a ≠ -1 → f = tkp σ a) → RLf h1 51 (hnx h1) a f := by
        intro a a0 a1 f f1 f2
        refine ⟨fun g => ?_, fun g i i0 i1 => ?_⟩
        · rw [u45] at g
          obtain ⟨T, q1, q2⟩ := ul a g.1 g.2
          rw [f2 (by omega)]
          exact ⟨T, q1, q2.1.2.1, by have := q2.1.1; omega, ⟨q2.2.1.1, by have := q2.2.1.2; omega⟩, q2.2.2⟩
        · rw [u45] at g
          by_cases e : a = -1
          · rw [f1 e]
          · rw [f2 e]
            exact (wk a (by omega) a1 (by omega)).1 i i0 i1
      have r1 : RLf h1 51 (hnx h1) (if tpz σ (tz σ 9) 0 = 105 then -1 else tpz σ (tz σ 9) 1) (F1 σ (tz σ 9)) := by
        unfold F1
        by_cases e : tpz σ (tz σ 9) 0 = 105
        · rw [if_pos e, if_pos e]
          exact rl _ (by decide) (by decide) _ (fun _ => rfl) (fun q => absurd rfl q)
        · have := p1 e
          rw [if_neg e, if_neg e]
          exact rl _ (by omega) (by omega) _ (fun q => by omega) (fun _ => rfl)
      have r2 : RLf h1 51 (hnx h1) (if tpz σ (tz σ 9) 0 = 98 then tpz σ (tz σ 9) 2 else -1) (F2 σ (tz σ 9)) := by
        unfold F2
        by_cases e : tpz σ (tz σ 9) 0 = 98
        · have := p2 e
          rw [if_pos e, if_pos e]
          exact rl _ (by omega) (by omega) _ (fun q => by omega) (fun _ => rfl)
        · rw [if_neg e, if_neg e]
          exact rl _ (by decide) (by decide) _ (fun _ => rfl) (fun q => absurd rfl q)
      have b1 : -1 ≤ (if tpz σ (tz σ 9) 0 = 105 then (-1 : Int) else tpz σ (tz σ 9) 1) ∧ (if tpz σ (tz σ 9) 0 = 105 then (-1 : Int) else tpz σ (tz σ 9) 1) ≤ 100 := by
        by_cases e : tpz σ (tz σ 9) 0 = 105
        · rw [if_pos e]; decide
        · have := p1 e; rw [if_neg e]; omega
      have b2 : -1 ≤ (if tpz σ (tz σ 9) 0 = 98 then tpz σ (tz σ 9) 2 else (-1 : Int)) ∧ (if tpz σ (tz σ 9) 0 = 98 then tpz σ (tz σ 9) 2 else (-1 : Int)) ≤ 100 := by
        by_cases e : tpz σ (tz σ 9) 0 = 98
        · have := p2 e; rw [if_pos e]; omega
        · rw [if_neg e]; decide
      obtain ⟨h2, p', e2, fr2, nx2, ⟨sA, nA⟩, pp', dc', gA'⟩ := decodes_ok (h := h1) (M := 51) (Q := dyn h1 D) (pd := tpd σ (tz σ 9)) (f1 := F1 σ (tz σ 9)) (f2 := F2 σ (tz σ 9)) (s0 := tsp σ) (kd := tpz σ (tz σ 9) 0) (q := tpz σ (tz σ 9) 3) (tl := tpz σ (tz σ 9) 4) (sl := tpz σ (tz σ 9) 5) (lost := lost) (i := tz σ 9) t1.1 t1.2.1 ⟨n9, by omega⟩ y54 y55 y56 y58 y59 b1 b2 (by rw [u45]; exact n12) r1 r2 fp.1 fp.2 mp1 (fun a q => ⟨by have := q.1; omega, q.2.1⟩) pk pq psl pW ⟨hl.1, l3⟩ (by
        rcases u41 with ⟨q1, q2⟩ | ⟨q1, S, q2, q3⟩
        · exact Or.inl ⟨q2, wf.2.2.2.2.2.2.2.2 q1⟩
        · exact Or.inr ⟨S, q2, q3.1.2.1, ⟨q3.2.1.1, by have := q3.2.1.2; omega⟩, q3.2.2⟩) wf.2.2.2.2.2.1
      have tA : RM σ h2 D := RM_own fr2 (fun _ _ q => q.elim) t1
      have iA : isRow h2 D (hnx h1) 256 (smo (tpz σ (tz σ 9) 3) (tpz σ (tz σ 9) 4) (tpz σ (tz σ 9) 5) p) := by
        refine ⟨⟨by rw [nx1]; omega, nx2, by rw [nx1]; omega⟩, ⟨sA, by rw [nA]; rfl⟩, fun i i0 i1 => ?_⟩
        rw [gA']
        exact smo_congr (agr_all (Dcd_one dc' dcp 16 (Nat.le_refl _))) i i0 i1
      obtain ⟨h3, e3, r3, r4, r5⟩ := send_tail tA wf hc hn hcv iA ((fr2.1.fZ1 (by have := t1.2.1; omega) (fun q => q)).trans t2) (.int (mI lost)) v3
      rw [e2, cl_v]
      exact ⟨h3, e3, r3, r4, Fr_mono (Fr_tr (U := SMl2) t3 (Fr_tr (U := SMl2) fr2 r5 (fun _ _ _ q => q.elim) (fun _ _ _ q => q)) (fun _ _ _ q => q) (fun _ _ _ q => q)) (fun _ _ _ q => q) (by omega) (by omega)⟩
    have x1b : tpz σ (tz σ 9) 0 ≠ 105 → (tkc σ (tpz σ (tz σ 9) 1) = 0 ∨ tkc σ (tpz σ (tz σ 9) 1) = 1) := fun e => (wf.2.2.2.2.2.2.1 _ (p1 e).1 (p1 e).2).2
    by_cases l0 : lost = 0
    · rw [if_neg (fun q => q l0), y58] at st
      have i1 : (-1 : Int) ≤ (if tpz σ (tz σ 9) 0 = 105 then (-1 : Int) else tpz σ (tz σ 9) 1) ∧ (if tpz σ (tz σ 9) 0 = 105 then (-1 : Int) else tpz σ (tz σ 9) 1) < 3 := by
        by_cases e : tpz σ (tz σ 9) 0 = 105
        · rw [if_pos e]; decide
        · have := p1 e; rw [if_neg e]; omega
      have i2 : (-1 : Int) ≤ (if tpz σ (tz σ 9) 0 = 98 then tpz σ (tz σ 9) 2 else (-1 : Int)) ∧ (if tpz σ (tz σ 9) 0 = 98 then tpz σ (tz σ 9) 2 else (-1 : Int)) < 3 := by
        by_cases e : tpz σ (tz σ 9) 0 = 98
        · have := p2 e; rw [if_pos e]; omega
        · rw [if_neg e]; decide
      have y39 : fZ h1 51 39 = tz σ 9 := t1.2.2.2.2.2.2.1.1
      have y59 : gZ h1 59 (tz σ 9) = if tpz σ (tz σ 9) 0 = 98 then tpz σ (tz σ 9) 2 else -1 := (t1.2.2.2.2.2.1 (tz σ 9) n9 hn).1.2.2.2.2.2.2.1
      rw [isGood_ok t1 wf i1, cl_v] at st
      have g1 : ((if tpz σ (tz σ 9) 0 = 105 then (-1 : Int) else tpz σ (tz σ 9) 1) = -1 ∨ tkc σ (if tpz σ (tz σ 9) 0 = 105 then (-1 : Int) else tpz σ (tz σ 9) 1) = 1) ↔ (tpz σ (tz σ 9) 0 = 105 ∨ tkc σ (tpz σ (tz σ 9) 1) = 1) := by
        by_cases e : tpz σ (tz σ 9) 0 = 105
        · rw [if_pos e]; exact ⟨fun _ => Or.inl e, fun _ => Or.inl rfl⟩
        · have := p1 e
          rw [if_neg e]
          omega
      have g2 : ((if tpz σ (tz σ 9) 0 = 98 then tpz σ (tz σ 9) 2 else (-1 : Int)) = -1 ∨ tkc σ (if tpz σ (tz σ 9) 0 = 98 then tpz σ (tz σ 9) 2 else (-1 : Int)) = 1) ↔ (¬ tpz σ (tz σ 9) 0 = 98 ∨ tkc σ (tpz σ (tz σ 9) 2) = 1) := by
        by_cases e : tpz σ (tz σ 9) 0 = 98
        · have := p2 e
          rw [if_pos e]
          omega
        · rw [if_neg e]; exact ⟨fun _ => Or.inl e, fun _ => Or.inl rfl⟩
      rw [bZ_congr g1] at st
      have st2 := fun (z : Int) (wz : wr z = z) => b_X12_send_77 (a0 := 51) (x1 := lost) (xs0 := z) (v2 := am_J) (v3 := am_J) (h := h1) wz t1.1 (fun _ => by rw [y39]; omega)
      by_cases q1 : tpz σ (tz σ 9) 0 = 105 ∨ tkc σ (tpz σ (tz σ 9) 1) = 1
      · have st3 := st2 1 (wr_id (by decide) (by decide))
        simp only [Nat.reduceAdd] at st3
        rw [if_neg (by decide), y39, y59, isGood_ok t1 wf i2, cl_v, bZ_congr g2, b_X12_send_93 (wr_bZ _) t1.1, y39] at st3
        rw [bZ_t q1, st3] at st
        have ec : cvS σ lost = bZ (¬ (bZ (¬ tpz σ (tz σ 9) 0 = 98 ∨ tkc σ (tpz σ (tz σ 9) 2) = 1) = 0)) := by
          unfold cvS clnv
          by_cases q2 : ¬ tpz σ (tz σ 9) 0 = 98 ∨ tkc σ (tpz σ (tz σ 9) 2) = 1
          · rw [if_pos ⟨l0, q1, q2⟩, bZ_t (p := ¬ tpz σ (tz σ 9) 0 = 98 ∨ tkc σ (tpz σ (tz σ 9) 2) = 1) q2]
            rfl
          · rw [if_neg (fun g => q2 g.2.2), bZ_f (p := ¬ tpz σ (tz σ 9) 0 = 98 ∨ tkc σ (tpz σ (tz σ 9) 2) = 1) q2]
            rfl
        rw [st, ec]
        exact go _ (bZ_01 _) _
      · have st3 := st2 0 (wr_id (by decide) (by decide))
        rw [if_pos rfl, y39] at st3
        rw [bZ_f q1, st3] at st
        have ec : cvS σ lost = 0 := by
          unfold cvS clnv
          exact if_neg fun g => q1 g.2.1
        rw [st, ec]
        exact go 0 (Or.inl rfl) _
    · rw [if_pos l0] at st
      have ec : cvS σ lost = 0 := by
        unfold cvS clnv
        exact if_neg fun g => l0 g.1
      rw [st, ec]
      exact go 0 (Or.inl rfl) _
  · rw [if_neg hn, if_neg (by decide)] at st
    exact MRs_thr rm (wr_id (by decide) (by decide)) st
  · obtain ⟨⟨z53, z54, z55, z56, -⟩, -⟩ := rm.2.2.2.2.2.1 (tz σ 9) n9 hn
    obtain ⟨-, -, -, -, -, psl, -⟩ := wf.2.2.2.1 (tz σ 9) n9 hn
    have eL : ¬ (¬ (lost < 0) ∧ (¬ ((if ¬ tpz σ (tz σ 9) 5 = 2 then (1 : Int) else 3) < lost))) := by
      rcases psl with e | e <;> rw [e] at hl ⊢
      · rw [if_pos (by decide)]; rw [if_neg (by decide)] at hl; omega
      · rw [if_neg (by decide)]; rw [if_pos rfl] at hl; omega
    rw [if_pos hn, z56, if_neg eL, if_neg (by decide)] at st
    exact MRs_thr rm (wr_id (by decide) (by decide)) st
end MSD
