/-! ===== the model codes a part ===== -/
theorem Mx_fr {S : Nat → Nat → Prop} {cc ss : Nat} {h h' : am_H} {M N : Nat} {c f1 f2 : Int → Int} {kd tl sl q : Int} (y : My M N c kd tl sl q) (F : Fr S cc ss h h') (hS : ∀ c k, c < N → ¬ S c k) (nN : N + 3 < hnx h) (x : Mx h M N c f1 f2 kd tl sl q) : Mx h' M N c f1 f2 kd tl sl q := by
  obtain ⟨y1, -⟩ := y
  obtain ⟨x1, ⟨x2, x3, x4, x5⟩, ⟨⟨u1, u2⟩, ⟨u3, u4⟩, ⟨u5, u6⟩, u7, u8⟩, x6, ⟨x7, x8, x9, x10⟩, x11, x12⟩ := x
  have nM : ∀ k, ¬ S M k := fun k => hS M k (by omega)
  have lM : M < hnx h := by omega
  refine ⟨K10_fr F (by omega) x1, ⟨(F.1.fA1 lM (nM _)).trans x2, (F.1.fA1 lM (nM _)).trans x3, (F.1.fA1 lM (nM _)).trans x4, (F.1.fA1 lM (nM _)).trans x5⟩, ⟨⟨(F.1.sh1 (by omega)).trans u1, (F.1.gn1 (by omega)).trans u2⟩, ⟨(F.1.sh1 (by omega)).trans u3, (F.1.gn1 (by omega)).trans u4⟩, ⟨(F.1.sh1 (by omega)).trans u5, (F.1.gn1 (by omega)).trans u6⟩, (F.1.sh1 (by omega)).trans u7, (F.1.gn1 (by omega)).trans u8⟩, (frZ F (by omega) (hS _ _ (by omega))).trans x6, ⟨(F.1.fZ1 lM (nM _)).trans x7, (F.1.fZ1 lM (nM _)).trans x8, (F.1.fZ1 lM (nM _)).trans x9, (F.1.fZ1 lM (nM _)).trans x10⟩, fun e => ?_, fun e => ?_⟩
  · rw [F.1.fA1 lM (nM _)]; exact picR_fr F hS (by omega) (x11 e)
  · rw [F.1.fA1 lM (nM _)]; exact picR_fr F hS (by omega) (x12 e)
def rs (s : Int) : Int := 4 * (cy s / 4) + cx s / 4
theorem rs_b (s : Int) : 0 ≤ rs s ∧ rs s < 16 := by unfold rs cx cy; omega
theorem rs_inj {s t : Int} (hs : 0 ≤ s ∧ s < 16) (ht : 0 ≤ t ∧ t < 16) (e : rs s = rs t) : s = t := by
  have a := cx_b s
  have b := cy_b s
  have c := cx_b t
  have d := cy_b t
  unfold rs at e
  exact c_inj hs ht (by omega) (by omega)
theorem rs_in {X Y Z T s : Int} (li : lies X Y Z T) : inR X Y Z (rs s) ↔ inPart X Y Z s := by
  have a := cx_b s
  have b := cy_b s
  have l1 := li.1
  unfold inR inPart rs
  omega
/-- all levels are of a size that the rest bears -/
def levB (q : Int) (l : Int → Int) : Prop := ∀ i, 0 ≤ i → i < 256 → -5000 ≤ 4 * q * l i ∧ 4 * q * l i ≤ 5000
theorem pl_all {i : Int} (hi : 0 ≤ i ∧ i < 256) : ∃ s k, (0 ≤ s ∧ s < 16) ∧ (0 ≤ k ∧ k < 16) ∧ i = pl s k := by
  obtain ⟨e, q0, q1⟩ := pl_xy (x := i % 16) (y := i / 16) (by omega) (by omega)
  exact ⟨sq (i % 16) (i / 16), 4 * (i / 16 % 4) + i % 16 % 4, ⟨q0, q1⟩, by omega, by rw [e]; omega⟩
theorem i_X12_codesPart_0 : am_i m_X12_codesPart 0 = some (0, .aload_n 0, 1, [], 0) := rfl
theorem i_X12_codesPart_1 : am_i m_X12_codesPart 1 = some (1, .iload_n 1, 1, [], 0) := rfl
theorem i_X12_codesPart_2 : am_i m_X12_codesPart 2 = some (2, .iload_n 2, 1, [], 0) := rfl
theorem i_X12_codesPart_3 : am_i m_X12_codesPart 3 = some (3, .iload_n 3, 1, [], 0) := rfl
theorem i_X12_codesPart_4 : am_i m_X12_codesPart 4 = some (4, .invokevirtual 281, 3, [204, 10], 0) := rfl
theorem b_X12_codesPart_0 {a0 : Nat} {x1 x2 x3 : Int} {h : am_H} (k1 : K10 h a0) : rn m_X12_codesPart 0 [.ref a0, .int (mI x1), .int (mI x2), .int (mI x3), am_J, am_J, am_J, am_J, am_J] [] h = cl m_X12_codesPart 7 [.ref a0, .int (mI x1), .int (mI x2), .int (mI x3), am_J, am_J, am_J, am_J, am_J] [] (rn m_X12_modeFor 0 [.ref a0, .int (mI x1), .int (mI x2), .int (mI x3), am_J, am_J, am_J, am_J, am_J] [] h) := by
  refine (tq_aload_n i_X12_codesPart_0 rfl (isA_ref _) rfl).trans ?_
  refine (tq_iload_n i_X12_codesPart_1 rfl rfl).trans ?_
  refine (tq_iload_n i_X12_codesPart_2 rfl rfl).trans ?_
  refine (tq_iload_n i_X12_codesPart_3 rfl rfl).trans ?_
  exact c_X12_modeFor i_X12_codesPart_4 (K10_s k1) (ltd d_X12_codesPart (by decide)) stOk_0 rfl
theorem i_X12_codesPart_7 : am_i m_X12_codesPart 7 = some (7, .istore 4, 2, [], 0) := rfl
theorem i_X12_codesPart_9 : am_i m_X12_codesPart 9 = some (9, .aload_n 0, 1, [], 0) := rfl
theorem i_X12_codesPart_10 : am_i m_X12_codesPart 10 = some (10, .getfield 155, 3, [10, 27, 0], 0) := rfl
theorem i_X12_codesPart_13 : am_i m_X12_codesPart 13 = some (13, .aload_n 0, 1, [], 0) := rfl
theorem i_X12_codesPart_14 : am_i m_X12_codesPart 14 = some (14, .getfield 162, 3, [10, 28, 0], 0) := rfl
theorem i_X12_codesPart_17 : am_i m_X12_codesPart 17 = some (17, .aload_n 0, 1, [], 0) := rfl
theorem i_X12_codesPart_18 : am_i m_X12_codesPart 18 = some (18, .getfield 165, 3, [10, 29, 0], 0) := rfl
theorem i_X12_codesPart_21 : am_i m_X12_codesPart 21 = some (21, .iload_n 1, 1, [], 0) := rfl
theorem i_X12_codesPart_22 : am_i m_X12_codesPart 22 = some (22, .iload_n 2, 1, [], 0) := rfl
theorem i_X12_codesPart_23 : am_i m_X12_codesPart 23 = some (23, .iload_n 3, 1, [], 0) := rfl
theorem i_X12_codesPart_24 : am_i m_X12_codesPart 24 = some (24, .iload 4, 2, [], 0) := rfl
theorem i_X12_codesPart_26 : am_i m_X12_codesPart 26 = some (26, .aload_n 0, 1, [], 0) := rfl
theorem i_X12_codesPart_27 : am_i m_X12_codesPart 27 = some (27, .getfield 168, 3, [10, 31, 0], 0) := rfl
theorem i_X12_codesPart_30 : am_i m_X12_codesPart 30 = some (30, .aload_n 0, 1, [], 0) := rfl
theorem i_X12_codesPart_31 : am_i m_X12_codesPart 31 = some (31, .getfield 29, 3, [10, 4, 0], 0) := rfl
theorem i_X12_codesPart_34 : am_i m_X12_codesPart 34 = some (34, .invokestatic 208, 3, [180], 0) := rfl
theorem b_X12_codesPart_7 {a0 a0_now a0_vector : Nat} {x1 x2 x3 xs0 : Int} {v4 v5 v6 v7 v8 : Value} {h : am_H} (k1 : K10 h a0) (e2 : fA h a0 27 = some a0_now) (e3 : fA h a0 31 = some a0_vector) : rn m_X12_codesPart 7 [.ref a0, .int (mI x1), .int (mI x2), .int (mI x3), v4, v5, v6, v7, v8] [.int (mI xs0)] h = cl m_X12_codesPart 37 [.ref a0, .int (mI x1), .int (mI x2), .int (mI x3), .int (mI xs0), v5, v6, v7, v8] [] (rn m_X12_guesses 0 [.ref a0_now, am_rv (fA h a0 28), am_rv (fA h a0 29), .int (mI x1), .int (mI x2), .int (mI x3), .int (mI xs0), .ref a0_vector, .int (mI (fZ h a0 4)), am_J, am_J, am_J, am_J] [] h) := by
  refine (tq_istore (L' := [.ref a0, .int (mI x1), .int (mI x2), .int (mI x3), .int (mI xs0), v5, v6, v7, v8]) i_X12_codesPart_7 rfl rfl).trans ?_
  refine (tq_aload_n i_X12_codesPart_9 rfl (isA_ref _) rfl).trans ?_
  refine (tq_getfield i_X12_codesPart_10 (K10_s k1) (gR (g_10_27 (K10_s k1)) e2) (isV_ref _) rfl).trans ?_
  refine (tq_aload_n i_X12_codesPart_13 rfl (isA_ref _) rfl).trans ?_
  refine (tq_getfield i_X12_codesPart_14 (K10_s k1) (g_10_28 (K10_s k1)) (isV_rv _) rfl).trans ?_
  refine (tq_aload_n i_X12_codesPart_17 rfl (isA_ref _) rfl).trans ?_
  refine (tq_getfield i_X12_codesPart_18 (K10_s k1) (g_10_29 (K10_s k1)) (isV_rv _) rfl).trans ?_
  refine (tq_iload_n i_X12_codesPart_21 rfl rfl).trans ?_
  refine (tq_iload_n i_X12_codesPart_22 rfl rfl).trans ?_
  refine (tq_iload_n i_X12_codesPart_23 rfl rfl).trans ?_
  refine (tq_iload i_X12_codesPart_24 rfl rfl).trans ?_
  refine (tq_aload_n i_X12_codesPart_26 rfl (isA_ref _) rfl).trans ?_
  refine (tq_getfield i_X12_codesPart_27 (K10_s k1) (gR (g_10_31 (K10_s k1)) e3) (isV_ref _) rfl).trans ?_
  refine (tq_aload_n i_X12_codesPart_30 rfl (isA_ref _) rfl).trans ?_
  refine (tq_getfield i_X12_codesPart_31 (K10_s k1) (g_10_4 (K10_s k1)) (isV_I _) rfl).trans ?_
  exact c_X12_guesses i_X12_codesPart_34 (ltd d_X12_codesPart (by decide)) (isA_ref _) (isA_rv _) (isA_rv _) (isA_ref _) stOk_0 rfl
theorem i_X12_codesPart_37 : am_i m_X12_codesPart 37 = some (37, .astore 5, 2, [], 0) := rfl
theorem i_X12_codesPart_39 : am_i m_X12_codesPart 39 = some (39, .iconst 0, 1, [], 0) := rfl
theorem i_X12_codesPart_40 : am_i m_X12_codesPart 40 = some (40, .istore 6, 2, [], 0) := rfl
theorem b_X12_codesPart_37 {a0 as0 : Nat} {x1 x2 x3 x4 : Int} {v5 v6 v7 v8 : Value} {h : am_H} : rn m_X12_codesPart 37 [.ref a0, .int (mI x1), .int (mI x2), .int (mI x3), .int (mI x4), v5, v6, v7, v8] [.ref as0] h = rn m_X12_codesPart 42 [.ref a0, .int (mI x1), .int (mI x2), .int (mI x3), .int (mI x4), .ref as0, .int (mI 0), v7, v8] [] h := by
  refine (tq_astore (L' := [.ref a0, .int (mI x1), .int (mI x2), .int (mI x3), .int (mI x4), .ref as0, v6, v7, v8]) i_X12_codesPart_37 (isA_ref _) rfl rfl).trans ?_
  refine (tq_iconst i_X12_codesPart_39 rfl).trans ?_
  refine (tq_istore (L' := [.ref a0, .int (mI x1), .int (mI x2), .int (mI x3), .int (mI x4), .ref as0, .int (mI 0), v7, v8]) i_X12_codesPart_40 rfl rfl).trans ?_
  rfl
theorem i_X12_codesPart_42 : am_i m_X12_codesPart 42 = some (42, .iload 6, 2, [], 0) := rfl
theorem i_X12_codesPart_44 : am_i m_X12_codesPart 44 = some (44, .iload_n 3, 1, [], 0) := rfl
theorem i_X12_codesPart_45 : am_i m_X12_codesPart 45 = some (45, .iload_n 3, 1, [], 0) := rfl
theorem i_X12_codesPart_46 : am_i m_X12_codesPart 46 = some (46, .imul, 1, [], 0) := rfl
theorem i_X12_codesPart_47 : am_i m_X12_codesPart 47 = some (47, .bipush 16, 2, [], 16) := rfl
theorem i_X12_codesPart_49 : am_i m_X12_codesPart 49 = some (49, .idiv, 1, [], 0) := rfl
theorem i_X12_codesPart_50 : am_i m_X12_codesPart 50 = some (50, .if_icmp .ge 61, 3, [], 0) := rfl
theorem i_X12_codesPart_53 : am_i m_X12_codesPart 53 = some (53, .iload_n 1, 1, [], 0) := rfl
theorem i_X12_codesPart_54 : am_i m_X12_codesPart 54 = some (54, .iload 6, 2, [], 0) := rfl
theorem i_X12_codesPart_56 : am_i m_X12_codesPart 56 = some (56, .iload_n 3, 1, [], 0) := rfl
theorem i_X12_codesPart_57 : am_i m_X12_codesPart 57 = some (57, .iconst 4, 1, [], 4) := rfl
theorem i_X12_codesPart_58 : am_i m_X12_codesPart 58 = some (58, .idiv, 1, [], 0) := rfl
theorem i_X12_codesPart_59 : am_i m_X12_codesPart 59 = some (59, .irem, 1, [], 0) := rfl
theorem i_X12_codesPart_60 : am_i m_X12_codesPart 60 = some (60, .iconst 4, 1, [], 4) := rfl
theorem i_X12_codesPart_61 : am_i m_X12_codesPart 61 = some (61, .imul, 1, [], 0) := rfl
theorem i_X12_codesPart_62 : am_i m_X12_codesPart 62 = some (62, .iadd, 1, [], 0) := rfl
theorem i_X12_codesPart_63 : am_i m_X12_codesPart 63 = some (63, .istore 7, 2, [], 0) := rfl
theorem i_X12_codesPart_65 : am_i m_X12_codesPart 65 = some (65, .iload_n 2, 1, [], 0) := rfl
theorem i_X12_codesPart_66 : am_i m_X12_codesPart 66 = some (66, .iload 6, 2, [], 0) := rfl
theorem i_X12_codesPart_68 : am_i m_X12_codesPart 68 = some (68, .iload_n 3, 1, [], 0) := rfl
theorem i_X12_codesPart_69 : am_i m_X12_codesPart 69 = some (69, .iconst 4, 1, [], 4) := rfl
theorem i_X12_codesPart_70 : am_i m_X12_codesPart 70 = some (70, .idiv, 1, [], 0) := rfl
theorem i_X12_codesPart_71 : am_i m_X12_codesPart 71 = some (71, .idiv, 1, [], 0) := rfl
theorem i_X12_codesPart_72 : am_i m_X12_codesPart 72 = some (72, .iconst 4, 1, [], 4) := rfl
theorem i_X12_codesPart_73 : am_i m_X12_codesPart 73 = some (73, .imul, 1, [], 0) := rfl
theorem i_X12_codesPart_74 : am_i m_X12_codesPart 74 = some (74, .iadd, 1, [], 0) := rfl
theorem i_X12_codesPart_75 : am_i m_X12_codesPart 75 = some (75, .istore 8, 2, [], 0) := rfl
theorem i_X12_codesPart_77 : am_i m_X12_codesPart 77 = some (77, .aload_n 0, 1, [], 0) := rfl
theorem i_X12_codesPart_78 : am_i m_X12_codesPart 78 = some (78, .getfield 258, 3, [10, 30, 0], 0) := rfl
theorem i_X12_codesPart_81 : am_i m_X12_codesPart 81 = some (81, .iconst 4, 1, [], 4) := rfl
theorem i_X12_codesPart_82 : am_i m_X12_codesPart 82 = some (82, .iload 8, 2, [], 0) := rfl
theorem i_X12_codesPart_84 : am_i m_X12_codesPart 84 = some (84, .iconst 4, 1, [], 4) := rfl
theorem i_X12_codesPart_85 : am_i m_X12_codesPart 85 = some (85, .idiv, 1, [], 0) := rfl
theorem i_X12_codesPart_86 : am_i m_X12_codesPart 86 = some (86, .imul, 1, [], 0) := rfl
theorem i_X12_codesPart_87 : am_i m_X12_codesPart 87 = some (87, .iload 7, 2, [], 0) := rfl
theorem i_X12_codesPart_89 : am_i m_X12_codesPart 89 = some (89, .iconst 4, 1, [], 4) := rfl
theorem i_X12_codesPart_90 : am_i m_X12_codesPart 90 = some (90, .idiv, 1, [], 0) := rfl
theorem i_X12_codesPart_91 : am_i m_X12_codesPart 91 = some (91, .iadd, 1, [], 0) := rfl
theorem i_X12_codesPart_92 : am_i m_X12_codesPart 92 = some (92, .iload 4, 2, [], 0) := rfl
theorem i_X12_codesPart_94 : am_i m_X12_codesPart 94 = some (94, .iastore, 1, [], 0) := rfl
theorem i_X12_codesPart_95 : am_i m_X12_codesPart 95 = some (95, .aload_n 0, 1, [], 0) := rfl
theorem i_X12_codesPart_96 : am_i m_X12_codesPart 96 = some (96, .iload 7, 2, [], 0) := rfl
theorem i_X12_codesPart_98 : am_i m_X12_codesPart 98 = some (98, .iload 8, 2, [], 0) := rfl
theorem i_X12_codesPart_100 : am_i m_X12_codesPart 100 = some (100, .aload 5, 2, [], 0) := rfl
theorem i_X12_codesPart_102 : am_i m_X12_codesPart 102 = some (102, .invokevirtual 285, 3, [131, 10], 0) := rfl
theorem i_X12_codesPart_111 : am_i m_X12_codesPart 111 = some (111, .aload_n 0, 1, [], 0) := rfl
theorem i_X12_codesPart_112 : am_i m_X12_codesPart 112 = some (112, .getfield 155, 3, [10, 27, 0], 0) := rfl
theorem i_X12_codesPart_115 : am_i m_X12_codesPart 115 = some (115, .aload_n 0, 1, [], 0) := rfl
theorem i_X12_codesPart_116 : am_i m_X12_codesPart 116 = some (116, .getfield 162, 3, [10, 28, 0], 0) := rfl
theorem i_X12_codesPart_119 : am_i m_X12_codesPart 119 = some (119, .aload_n 0, 1, [], 0) := rfl
theorem i_X12_codesPart_120 : am_i m_X12_codesPart 120 = some (120, .getfield 165, 3, [10, 29, 0], 0) := rfl
theorem i_X12_codesPart_123 : am_i m_X12_codesPart 123 = some (123, .iload_n 1, 1, [], 0) := rfl
theorem i_X12_codesPart_124 : am_i m_X12_codesPart 124 = some (124, .iload_n 2, 1, [], 0) := rfl
theorem i_X12_codesPart_125 : am_i m_X12_codesPart 125 = some (125, .iload_n 3, 1, [], 0) := rfl
theorem i_X12_codesPart_126 : am_i m_X12_codesPart 126 = some (126, .iload 4, 2, [], 0) := rfl
theorem i_X12_codesPart_128 : am_i m_X12_codesPart 128 = some (128, .aload_n 0, 1, [], 0) := rfl
theorem i_X12_codesPart_129 : am_i m_X12_codesPart 129 = some (129, .getfield 168, 3, [10, 31, 0], 0) := rfl
theorem i_X12_codesPart_132 : am_i m_X12_codesPart 132 = some (132, .aload_n 0, 1, [], 0) := rfl
theorem i_X12_codesPart_133 : am_i m_X12_codesPart 133 = some (133, .getfield 205, 3, [10, 32, 0], 0) := rfl
theorem i_X12_codesPart_136 : am_i m_X12_codesPart 136 = some (136, .aload_n 0, 1, [], 0) := rfl
theorem i_X12_codesPart_137 : am_i m_X12_codesPart 137 = some (137, .getfield 22, 3, [10, 2, 0], 0) := rfl
theorem i_X12_codesPart_140 : am_i m_X12_codesPart 140 = some (140, .aload_n 0, 1, [], 0) := rfl
theorem i_X12_codesPart_141 : am_i m_X12_codesPart 141 = some (141, .getfield 29, 3, [10, 4, 0], 0) := rfl
theorem i_X12_codesPart_144 : am_i m_X12_codesPart 144 = some (144, .invokestatic 289, 3, [185], 0) := rfl
theorem b_X12_codesPart_42 {a0 a5 a0_now a0_vector a0_level a0_mode n_a0_mode : Nat} {x1 x2 x3 x4 x6 x3' x6' : Int} {v7 v8 : Value} {h : am_H} (w3 : wr x3 = x3') (w6 : wr x6 = x6') (k1 : K10 h a0) (e2 : fA h a0 27 = some a0_now) (e3 : fA h a0 31 = some a0_vector) (e4 : fA h a0 32 = some a0_level) (g5 : (¬ ((wr (Int.tdiv (wr (x3 * x3)) 16)) ≤ x6')) → (wr (Int.tdiv x3' 4) ≠ 0)) (e6 : fA h a0 30 = some a0_mode) (n7 : gn h a0_mode = n_a0_mode) (s8 : sh h a0_mode = (1, 0)) (g9 : (¬ ((wr (Int.tdiv (wr (x3 * x3)) 16)) ≤ x6')) → (0 ≤ wr ((4 * (Int.tdiv (wr (x2 + ((Int.tdiv x6' (wr (Int.tdiv x3' 4))) * 4))) 4)) + (Int.tdiv (wr (x1 + ((Int.tmod x6' (wr (Int.tdiv x3' 4))) * 4))) 4)) ∧ wr ((4 * (Int.tdiv (wr (x2 + ((Int.tdiv x6' (wr (Int.tdiv x3' 4))) * 4))) 4)) + (Int.tdiv (wr (x1 + ((Int.tmod x6' (wr (Int.tdiv x3' 4))) * 4))) 4)) < (n_a0_mode : Int))) : rn m_X12_codesPart 42 [.ref a0, .int (mI x1), .int (mI x2), .int (mI x3), .int (mI x4), .ref a5, .int (mI x6), v7, v8] [] h = if (wr (Int.tdiv (wr (x3 * x3)) 16)) ≤ x6' then cl m_X12_codesPart 147 [.ref a0, .int (mI x1), .int (mI x2), .int (mI x3), .int (mI x4), .ref a5, .int (mI x6), v7, v8] [] (rn m_X12_builds 0 [.ref a0_now, am_rv (fA h a0 28), am_rv (fA h a0 29), .int (mI x1), .int (mI x2), .int (mI x3), .int (mI x4), .ref a0_vector, .ref a0_level, .int (mI (fZ h a0 2)), .int (mI (fZ h a0 4)), am_J, am_J, am_J, am_J, am_J, am_J, am_J] [] h) else cl m_X12_codesPart 105 [.ref a0, .int (mI x1), .int (mI x2), .int (mI x3), .int (mI x4), .ref a5, .int (mI x6), .int (mI (x1 + ((Int.tmod x6' (wr (Int.tdiv x3' 4))) * 4))), .int (mI (x2 + ((Int.tdiv x6' (wr (Int.tdiv x3' 4))) * 4)))] [] (rn m_X12_codesSquare 0 [.ref a0, .int (mI (x1 + ((Int.tmod x6' (wr (Int.tdiv x3' 4))) * 4))), .int (mI (x2 + ((Int.tdiv x6' (wr (Int.tdiv x3' 4))) * 4))), .ref a5, am_J, am_J, am_J, am_J] [] (uZ h a0_mode (wr ((4 * (Int.tdiv (wr (x2 + ((Int.tdiv x6' (wr (Int.tdiv x3' 4))) * 4))) 4)) + (Int.tdiv (wr (x1 + ((Int.tmod x6' (wr (Int.tdiv x3' 4))) * 4))) 4))) x4)) := by
  refine (tq_iload i_X12_codesPart_42 rfl rfl).trans ?_
  refine (tq_iload_n i_X12_codesPart_44 rfl rfl).trans ?_
  refine (tq_iload_n i_X12_codesPart_45 rfl rfl).trans ?_
  refine (tq_imul i_X12_codesPart_46 rfl).trans ?_
  refine (tq_bipush i_X12_codesPart_47 rfl).trans ?_
  refine (tq_idiv i_X12_codesPart_49 rfl w_16 (by decide) rfl).trans ?_
  refine (tq_icmp_ge (pt := 111) i_X12_codesPart_50 w6 rfl (by decide) rfl).trans ?_
  refine ite_congr rfl (fun c1 => ?_) (fun c1 => ?_)
  · refine (tq_aload_n i_X12_codesPart_111 rfl (isA_ref _) rfl).trans ?_
    refine (tq_getfield i_X12_codesPart_112 (K10_s k1) (gR (g_10_27 (K10_s k1)) e2) (isV_ref _) rfl).trans ?_
    refine (tq_aload_n i_X12_codesPart_115 rfl (isA_ref _) rfl).trans ?_
    refine (tq_getfield i_X12_codesPart_116 (K10_s k1) (g_10_28 (K10_s k1)) (isV_rv _) rfl).trans ?_
    refine (tq_aload_n i_X12_codesPart_119 rfl (isA_ref _) rfl).trans ?_
    refine (tq_getfield i_X12_codesPart_120 (K10_s k1) (g_10_29 (K10_s k1)) (isV_rv _) rfl).trans ?_
    refine (tq_iload_n i_X12_codesPart_123 rfl rfl).trans ?_
    refine (tq_iload_n i_X12_codesPart_124 rfl rfl).trans ?_
    refine (tq_iload_n i_X12_codesPart_125 rfl rfl).trans ?_
    refine (tq_iload i_X12_codesPart_126 rfl rfl).trans ?_
    refine (tq_aload_n i_X12_codesPart_128 rfl (isA_ref _) rfl).trans ?_
    refine (tq_getfield i_X12_codesPart_129 (K10_s k1) (gR (g_10_31 (K10_s k1)) e3) (isV_ref _) rfl).trans ?_
    refine (tq_aload_n i_X12_codesPart_132 rfl (isA_ref _) rfl).trans ?_
    refine (tq_getfield i_X12_codesPart_133 (K10_s k1) (gR (g_10_32 (K10_s k1)) e4) (isV_ref _) rfl).trans ?_
    refine (tq_aload_n i_X12_codesPart_136 rfl (isA_ref _) rfl).trans ?_
    refine (tq_getfield i_X12_codesPart_137 (K10_s k1) (g_10_2 (K10_s k1)) (isV_I _) rfl).trans ?_
    refine (tq_aload_n i_X12_codesPart_140 rfl (isA_ref _) rfl).trans ?_
    refine (tq_getfield i_X12_codesPart_141 (K10_s k1) (g_10_4 (K10_s k1)) (isV_I _) rfl).trans ?_
    exact c_X12_builds i_X12_codesPart_144 (ltd d_X12_codesPart (by decide)) (isA_ref _) (isA_rv _) (isA_rv _) (isA_ref _) (isA_ref _) stOk_0 rfl
  · refine (tq_iload_n i_X12_codesPart_53 rfl rfl).trans ?_
    refine (tq_iload i_X12_codesPart_54 rfl rfl).trans ?_
    refine (tq_iload_n i_X12_codesPart_56 rfl rfl).trans ?_
    refine (tq_iconst i_X12_codesPart_57 rfl).trans ?_
    refine (tq_idiv i_X12_codesPart_58 w3 w_4 (by decide) rfl).trans ?_
    refine (tq_irem i_X12_codesPart_59 w6 rfl (g5 c1) rfl).trans ?_
    refine (tq_iconst i_X12_codesPart_60 rfl).trans ?_
    refine (tq_imul i_X12_codesPart_61 rfl).trans ?_
    refine (tq_iadd i_X12_codesPart_62 rfl).trans ?_
    refine (tq_istore (L' := [.ref a0, .int (mI x1), .int (mI x2), .int (mI x3), .int (mI x4), .ref a5, .int (mI x6), .int (mI (x1 + ((Int.tmod x6' (wr (Int.tdiv x3' 4))) * 4))), v8]) i_X12_codesPart_63 rfl rfl).trans ?_
    refine (tq_iload_n i_X12_codesPart_65 rfl rfl).trans ?_
    refine (tq_iload i_X12_codesPart_66 rfl rfl).trans ?_
    refine (tq_iload_n i_X12_codesPart_68 rfl rfl).trans ?_
    refine (tq_iconst i_X12_codesPart_69 rfl).trans ?_
    refine (tq_idiv i_X12_codesPart_70 w3 w_4 (by decide) rfl).trans ?_
    refine (tq_idiv i_X12_codesPart_71 w6 rfl (g5 c1) rfl).trans ?_
    refine (tq_iconst i_X12_codesPart_72 rfl).trans ?_
    refine (tq_imul i_X12_codesPart_73 rfl).trans ?_
    refine (tq_iadd i_X12_codesPart_74 rfl).trans ?_
    refine (tq_istore (L' := [.ref a0, .int (mI x1), .int (mI x2), .int (mI x3), .int (mI x4), .ref a5, .int (mI x6), .int (mI (x1 + ((Int.tmod x6' (wr (Int.tdiv x3' 4))) * 4))), .int (mI (x2 + ((Int.tdiv x6' (wr (Int.tdiv x3' 4))) * 4)))]) i_X12_codesPart_75 rfl rfl).trans ?_
    refine (tq_aload_n i_X12_codesPart_77 rfl (isA_ref _) rfl).trans ?_
    refine (tq_getfield i_X12_codesPart_78 (K10_s k1) (gR (g_10_30 (K10_s k1)) e6) (isV_ref _) rfl).trans ?_
    refine (tq_iconst i_X12_codesPart_81 rfl).trans ?_
    refine (tq_iload i_X12_codesPart_82 rfl rfl).trans ?_
    refine (tq_iconst i_X12_codesPart_84 rfl).trans ?_
    refine (tq_idiv i_X12_codesPart_85 rfl w_4 (by decide) rfl).trans ?_
    refine (tq_imul i_X12_codesPart_86 rfl).trans ?_
    refine (tq_iload i_X12_codesPart_87 rfl rfl).trans ?_
    refine (tq_iconst i_X12_codesPart_89 rfl).trans ?_
    refine (tq_idiv i_X12_codesPart_90 rfl w_4 (by decide) rfl).trans ?_
    refine (tq_iadd i_X12_codesPart_91 rfl).trans ?_
    refine (tq_iload i_X12_codesPart_92 rfl rfl).trans ?_
    refine (tq_iastore i_X12_codesPart_94 s8 rfl (g9 c1).1 (lt_gn n7 (g9 c1).2) rfl).trans ?_
    refine (tq_aload_n i_X12_codesPart_95 rfl (isA_ref _) rfl).trans ?_
    refine (tq_iload i_X12_codesPart_96 rfl rfl).trans ?_
    refine (tq_iload i_X12_codesPart_98 rfl rfl).trans ?_
    refine (tq_aload i_X12_codesPart_100 rfl (isA_ref _) rfl).trans ?_
    exact c_X12_codesSquare i_X12_codesPart_102 ((sh_uZ _ _ _ _ _).trans (K10_s k1)) (ltd d_X12_codesPart (by decide)) (isA_ref _) stOk_0 rfl
theorem i_X12_codesPart_105 : am_i m_X12_codesPart 105 = some (105, .iinc 6 1, 3, [], 0) := rfl
theorem i_X12_codesPart_108 : am_i m_X12_codesPart 108 = some (108, .goto (-66), 3, [], 0) := rfl
theorem b_X12_codesPart_105 {a0 a5 : Nat} {x1 x2 x3 x4 x6 : Int} {v7 v8 : Value} {h : am_H} : rn m_X12_codesPart 105 [.ref a0, .int (mI x1), .int (mI x2), .int (mI x3), .int (mI x4), .ref a5, .int (mI x6), v7, v8] [] h = rn m_X12_codesPart 42 [.ref a0, .int (mI x1), .int (mI x2), .int (mI x3), .int (mI x4), .ref a5, .int (mI (x6 + 1)), v7, v8] [] h := by
  refine (tq_iinc (L' := [.ref a0, .int (mI x1), .int (mI x2), .int (mI x3), .int (mI x4), .ref a5, .int (mI (x6 + 1)), v7, v8]) i_X12_codesPart_105 rfl rfl rfl).trans ?_
  refine (tq_goto (pc' := 42) i_X12_codesPart_108 (by decide)).trans ?_
  rfl
theorem i_X12_codesPart_147 : am_i m_X12_codesPart 147 = some (147, .return_, 1, [], 0) := rfl
theorem b_X12_codesPart_147 {v0 v1 v2 v3 v4 v5 v6 v7 v8 : Value} {h : am_H} : rn m_X12_codesPart 147 [v0, v1, v2, v3, v4, v5, v6, v7, v8] [] h = some (.inl none, h) := by
  exact tq_return i_X12_codesPart_147 r_X12_codesPart
/-- what a coded part leaves -/
def partDone (h h' : am_H) (N : Nat) (c f1 f2 p : Int → Int) (kd tl sl q X Y Z : Int) (s : Int) : Prop :=
  gZ h' (N + 1) (rs s) = cmo kd tl c p f1 f2 X Y Z (tp sl Y) ∧ (kd ≠ 105 → gZ h' (N + 2) (4 * rs s) = vX (cv1 kd tl c f1 X Y Z) ∧ gZ h' (N + 2) (4 * rs s + 1) = vY (cv1 kd tl c f1 X Y Z)) ∧ (kd = 98 → gZ h' (N + 2) (4 * rs s + 2) = vX (cv2 kd tl c f2 X Y Z) ∧ gZ h' (N + 2) (4 * rs s + 3) = vY (cv2 kd tl c f2 X Y Z)) ∧ ∀ k, 0 ≤ k → k < 16 → gZ h' (N + 3) (pl s k) = lev q (hd (fun j => c (pl s j) - gss p f1 f2 X Y Z (tp sl Y) (cmo kd tl c p f1 f2 X Y Z (tp sl Y)) (cv1 kd tl c f1 X Y Z) (cv2 kd tl c f2 X Y Z) (cx s + j % 4) (cy s + j / 4)) k) ∧ gZ h' N (pl s k) = clampv (gss p f1 f2 X Y Z (tp sl Y) (cmo kd tl c p f1 f2 X Y Z (tp sl Y)) (cv1 kd tl c f1 X Y Z) (cv2 kd tl c f2 X Y Z) (cx s + k % 4) (cy s + k / 4) + dif q (fun j => gZ h' (N + 3) (pl s j)) k)
def partSame (h h' : am_H) (N : Nat) (s : Int) : Prop := gZ h' (N + 1) (rs s) = gZ h (N + 1) (rs s) ∧ (∀ j, 0 ≤ j → j < 4 → gZ h' (N + 2) (4 * rs s + j) = gZ h (N + 2) (4 * rs s + j)) ∧ ∀ k, 0 ≤ k → k < 16 → gZ h' (N + 3) (pl s k) = gZ h (N + 3) (pl s k) ∧ gZ h' N (pl s k) = gZ h N (pl s k)
def SPa (N : Nat) : Nat → Nat → Prop := fun c _ => c = N ∨ c = N + 1 ∨ c = N + 2 ∨ c = N + 3
theorem codesPart_ok {h : am_H} {M N : Nat} {c f1 f2 p : Int → Int} {kd tl sl q X Y Z : Int} (y : My M N c kd tl sl q) (x : Mx h M N c f1 f2 kd tl sl q) (nN : N + 3 < hnx h) (ep : gZ h N = p) (hp : pixels p) (lb : levB q (gZ h (N + 3))) (li : lies X Y Z (tp sl Y)) : ∃ h', rn m_X12_codesPart 0 [.ref M, .int (mI X), .int (mI Y), .int (mI Z), am_J, am_J, am_J, am_J, am_J] [] h = some (.inl none, h') ∧ Fr (SPa N) (2 + 4 * (side Z * side Z).toNat) (512 + 64 * (side Z * side Z).toNat) h h' ∧ levB q (gZ h' (N + 3)) ∧ pixels (gZ h' N) ∧ ∀ s, 0 ≤ s → s < 16 → (inPart X Y Z s → partDone h h' N c f1 f2 p kd tl sl q X Y Z s) ∧ (¬ inPart X Y Z s → partSame h h' N s) := by
  have y0 := y
  obtain ⟨y1, y4, y5, y6, y7, y8⟩ := y
  have nb := nmo_b y5
  have tb := tp_b sl Y
  obtain ⟨ipt, mm⟩ := lies_part li tb.2
  have sb := side_b li
  have eS : wr (Int.tdiv (wr (Z * Z)) 16) = side Z * side Z ∧ wr (Int.tdiv Z 4) = side Z ∧ 0 < side Z ∧ 0 ≤ side Z * side Z ∧ side Z * side Z ≤ 4 := by
    rcases sb with ⟨rfl, e⟩ | ⟨rfl, e⟩ <;> rw [e] <;> decide
  obtain ⟨eS1, eS2, eS3, eS5, eS4⟩ := eS
  obtain ⟨h1, e1, m1, vv1, vv2, rr⟩ := modeFor_ok y0 x ep hp li
  have hS1 : ∀ (c k : Nat), c < N → ¬ (fun (c _ : Nat) => c = N + 2) c k := fun c k hc e => by omega
  have x1 := Mx_md y0 m1 hS1 x
  have o1 : kd ≠ 105 → okv (cv1 kd tl c f1 X Y Z) := fun e => by unfold cv1; rw [if_neg e]; exact bestv_okv (stp_ok tl)
  have o2 : kd = 98 → okv (cv2 kd tl c f2 X Y Z) := fun e => by unfold cv2; rw [if_pos e]; exact bestv_okv (stp_ok tl)
  have cb := cmo_b (tl := tl) (c := c) (p := p) (f1 := f1) (f2 := f2) (X := X) (Y := Y) (Z := Z) (T := tp sl Y) y5
  unfold partDone
  generalize hv1 : cv1 kd tl c f1 X Y Z = v1 at *
  generalize hv2 : cv2 kd tl c f2 X Y Z = v2 at *
  generalize hm : cmo kd tl c p f1 f2 X Y Z (tp sl Y) = m at *
  obtain ⟨a1, ⟨a2, a3, a4, a5⟩, ⟨⟨b1, b2⟩, ⟨b3, b4⟩, ⟨b5, b6⟩, b7, b8⟩, a6, ⟨a7, a8, a9, a10⟩, a11, a12⟩ := id x1
  have nx1 : hnx h1 = hnx h := md_nx m1
  have ep1 : gZ h1 N = p := (md_Z m1 (by omega)).trans ep
  have g1 : gOk h1 M N N (N + 2) (fA h1 M 28) (fA h1 M 29) p f1 f2 X Y Z (tp sl Y) m v1 v2 := by
    refine ⟨⟨b1, b2, ep1, hp⟩, ⟨b5, b6⟩, ⟨cb.1, by omega⟩, fun c4 => ⟨fun e => a11 (nb.2.1 (by omega)), fun e => a12 (nb.2.2 (by omega)), fun a b a0 a1 b0 b1 => ⟨fun e => ?_, fun e => ?_⟩⟩⟩
    · have kk := nb.2.1 (by omega)
      have := vv1 kk a b a0 a1 b0 b1
      rw [Int.add_zero] at this
      exact ⟨this.1, this.2, o1 kk⟩
    · have kk := nb.2.2 (by omega)
      have := vv2 kk a b a0 a1 b0 b1
      exact ⟨this.1, by rw [← this.2, show (3 : Int) = 2 + 1 by decide, Int.add_assoc], o2 kk⟩
  obtain ⟨h2, e2, fr2, nx2, sG, nG, gg⟩ := guesses_ok g1 (by omega) (by omega) (by omega) li y7
  rw [b_X12_codesPart_0 x.1, e1, cl_v, b_X12_codesPart_7 a1 a2 a4, a10, e2, cl_v, b_X12_codesPart_37]
  generalize hG : hnx h1 = G at *
  have x2 := Mx_fr y0 fr2 (fun _ _ _ q => q) (by omega) x1
  have gb := fun a b (ha : X ≤ a ∧ a < X + Z) (hb : Y ≤ b ∧ b < Y + Z) => gOk_b (a := a) (b := b) g1 ipt ha hb
  have gpl : ∀ s k, (0 ≤ s ∧ s < 16) → (0 ≤ k ∧ k < 16) → inPart X Y Z s → gZ h2 G (pl s k) = gss p f1 f2 X Y Z (tp sl Y) m v1 v2 (cx s + k % 4) (cy s + k / 4) ∧ 0 ≤ gZ h2 G (pl s k) ∧ gZ h2 G (pl s k) ≤ 255 := by
    intro s k hs hk hi
    unfold inPart at hi
    have := gb (cx s + k % 4) (cy s + k / 4) (by have := cx_b s; have := li.1; omega) (by have := cy_b s; have := li.1; omega)
    rw [(pl_xy2 hs hk).1, gg _ _ (by omega) (by have := cx_b s; have := li.1; omega) (by omega) (by have := cy_b s; have := li.1; omega)]
    exact ⟨rfl, this⟩
  have lG : G < hnx h2 := by omega
  let Sl : Nat → Nat → Prop := fun c _ => c = N + 1 ∨ c = N + 3
  have hSl : ∀ c k, c < N → ¬ Sl c k := fun c k hc e => by simp only [Sl] at e; omega
  let LV : Int → Int → Int := fun s k => lev q (hd (fun j => c (pl s j) - gss p f1 f2 X Y Z (tp sl Y) m v1 v2 (cx s + j % 4) (cy s + j / 4)) k)
  refine lp (m := m_X12_codesPart) (pc := 42) (L := fun t (z : Value × Value) => [.ref M, .int (mI X), .int (mI Y), .int (mI Z), .int (mI m), .ref G, .int (mI t), z.1, z.2]) (N := side Z * side Z) (P := fun r => ∃ h', r = some (.inl none, h') ∧ Fr (SPa N) (2 + 4 * (side Z * side Z).toNat) (512 + 64 * (side Z * side Z).toNat) h h' ∧ levB q (gZ h' (N + 3)) ∧ pixels (gZ h' N) ∧ ∀ s, 0 ≤ s → s < 16 → (inPart X Y Z s → gZ h' (N + 1) (rs s) = m ∧ (kd ≠ 105 → gZ h' (N + 2) (4 * rs s) = vX v1 ∧ gZ h' (N + 2) (4 * rs s + 1) = vY v1) ∧ (kd = 98 → gZ h' (N + 2) (4 * rs s + 2) = vX v2 ∧ gZ h' (N + 2) (4 * rs s + 3) = vY v2) ∧ ∀ k, 0 ≤ k → k < 16 → gZ h' (N + 3) (pl s k) = lev q (hd (fun j => c (pl s j) - gss p f1 f2 X Y Z (tp sl Y) m v1 v2 (cx s + j % 4) (cy s + j / 4)) k) ∧ gZ h' N (pl s k) = clampv (gss p f1 f2 X Y Z (tp sl Y) m v1 v2 (cx s + k % 4) (cy s + k / 4) + dif q (fun j => gZ h' (N + 3) (pl s j)) k)) ∧ (¬ inPart X Y Z s → partSame h h' N s)) (fun t z h' => 0 ≤ t ∧ Fr Sl (2 * t.toNat) (32 * t.toNat) h2 h' ∧ levB q (gZ h' (N + 3)) ∧ (∀ s, 0 ≤ s → s < 16 → (inPart X Y Z s ∧ num X Y Z s < t → gZ h' (N + 1) (rs s) = m ∧ ∀ k, 0 ≤ k → k < 16 → gZ h' (N + 3) (pl s k) = LV s k) ∧ (¬ (inPart X Y Z s ∧ num X Y Z s < t) → gZ h' (N + 1) (rs s) = gZ h2 (N + 1) (rs s) ∧ ∀ k, 0 ≤ k → k < 16 → gZ h' (N + 3) (pl s k) = gZ h2 (N + 3) (pl s k)))) ?_ ?_ 0 (_, _) h2 (by omega) ⟨by omega, Fr_rf _ _, ?_, fun s s0 s1 => ⟨fun qq => by have := num_b li qq.1; omega, fun _ => ⟨rfl, fun _ _ _ => rfl⟩⟩⟩
  · intro t z h' ht ⟨t0, fr, lbt, hh⟩
    obtain ⟨z1, z2⟩ := z
    have x' := Mx_fr y0 fr hSl (by omega) x2
    obtain ⟨c1, ⟨c2, c3, c4, c5⟩, ⟨⟨d1, d2⟩, ⟨d3, d4⟩, ⟨d5, d6⟩, d7, d8⟩, c6, ⟨c7, c8, c9, c10⟩, c11, c12⟩ := id x'
    obtain ⟨⟨x0, x1', x2'⟩, y0', y1', y2'⟩ := num_ok li ⟨t0, ht⟩
    have ns := fun s (hs : 0 ≤ s ∧ s < 16) => num_sq (s := s) li ⟨t0, ht⟩ hs
    obtain ⟨q1, q2, q3, q4⟩ := sq_xy (x := X + t % side Z * 4) (y := Y + t / side Z * 4) (by omega) (by omega) x2' y2'
    have inp := (ns _ ⟨q3, q4⟩).mp rfl
    generalize hst : sq (X + t % side Z * 4) (Y + t / side Z * 4) = st at *
    have epl : ∀ k, pl st k = 16 * (Y + t / side Z * 4) + (X + t % side Z * 4) + ip k := fun k => by unfold pl; rw [q1, q2]
    have ers : 4 * ((Y + t / side Z * 4) / 4) + (X + t % side Z * 4) / 4 = rs st := by unfold rs; rw [q1, q2]
    have rb := rs_b st
    have nx' := fr.1.nx
    have blk := b_X12_codesPart_42 (a0 := M) (a5 := G) (a0_now := N) (a0_vector := N + 2) (a0_level := N + 3) (a0_mode := N + 1) (n_a0_mode := 16) (x1 := X) (x2 := Y) (x4 := m) (v7 := z1) (v8 := z2) (h := h') (wr_id (z := Z) (by omega) (by omega)) (wr_id (z := t) (by omega) (by omega)) c1 c2 c4 c5
    rw [eS1, eS2, tmd t0, tdv t0, wr_id (z := Y + t / side Z * 4) (by omega) (by omega), wr_id (z := X + t % side Z * 4) (by omega) (by omega), tdv (x := Y + t / side Z * 4) (by omega), tdv (x := X + t % side Z * 4) (by omega), ers, wr_id (z := rs st) (by omega) (by omega)] at blk
    have blk := blk (fun _ => by omega) c3 d4 d3 (fun _ => by omega)
    rw [if_neg (by omega)] at blk
    have mA : Md (fun c _ => c = N + 1) h' (uZ h' (N + 1) (rs st) m) := Md_uZ _ _ _ _
    have xA := Mx_md y0 mA (fun c k hc e => by omega) x'
    obtain ⟨k1, ⟨k2, k3, k4, k5⟩, ⟨⟨l1, l2⟩, ⟨l3, l4⟩, ⟨l5, l6⟩, l7, l8⟩, k6, ⟨k7, k8, k9, k10⟩, -⟩ := id xA
    have gA : gZ (uZ h' (N + 1) (rs st) m) G = gZ h2 G := (md_Z mA (by omega)).trans (frZ fr lG (by simp only [Sl]; omega))
    have nxA : hnx (uZ h' (N + 1) (rs st) m) = hnx h' := md_nx mA
    obtain ⟨h3, e3, fr3, nx3, g3, r3⟩ := codesSquare_ok (G := G) (Lv := N + 3) (X := X + t % side Z * 4) (Y := Y + t / side Z * 4) k1 (by omega) k5 l7 l8 (by omega) (by omega) ((md_sh mA _).trans ((fr.1.sh1 lG).trans sG)) ((md_gn mA _).trans ((fr.1.gn1 lG).trans nG)) (by omega) (by rw [k6]; exact y4) k8 ⟨x0, x1'⟩ ⟨y0', y1'⟩ y8 (fun k k0 k1 => by rw [gA, ← epl]; exact (gpl st k ⟨q3, q4⟩ ⟨k0, k1⟩ inp.1).2)
    rw [e3, cl_n, b_X12_codesPart_105] at blk
    have lv3 : ∀ k, 0 ≤ k → k < 16 → gZ h3 (N + 3) (pl st k) = LV st k := fun k k0 k1 => by
      rw [epl, g3 k k0 k1, k6, gA]
      simp only [LV]
      rw [hd_congr fun j j0 j1 => by rw [← epl, (gpl st j ⟨q3, q4⟩ ⟨j0, j1⟩ inp.1).1]]
    have r3' : ∀ i, (∀ k, 0 ≤ k → k < 16 → i ≠ pl st k) → gZ h3 (N + 3) i = gZ h' (N + 3) i := fun i hi => (r3 i fun k k0 k1 => by rw [← epl]; exact hi k k0 k1).trans (md_gZ mA (by omega) _)
    have frB : Fr Sl (2 * (t + 1).toNat) (32 * (t + 1).toNat) h2 h3 := Fr_mono (Fr_tr (U := Sl) (Fr_tr (U := Sl) fr (md_fr mA) (fun _ _ _ q => q) (fun a k ha q => Or.inl q)) fr3 (fun _ _ _ q => q) (fun a k ha q => Or.inr q)) (fun _ _ _ q => q) (by omega) (by omega)
    have hdb : ∀ k, -4080 ≤ hd (fun j => c (pl st j) - gss p f1 f2 X Y Z (tp sl Y) m v1 v2 (cx st + j % 4) (cy st + j / 4)) k ∧ hd (fun j => c (pl st j) - gss p f1 f2 X Y Z (tp sl Y) m v1 v2 (cx st + j % 4) (cy st + j / 4)) k ≤ 4080 := fun k => by
      have := hd_b (s := fun j => c (pl st j) - gss p f1 f2 X Y Z (tp sl Y) m v1 v2 (cx st + j % 4) (cy st + j / 4)) (m := 255) (fun j j0 j1 => by
        have w1 := gpl st j ⟨q3, q4⟩ ⟨j0, j1⟩ inp.1
        have w2 := pl_b st j
        have w3 := y4 _ w2.1 w2.2
        rw [w1.1] at w1
        omega) k
      omega
    refine ⟨(_, _), h3, blk, by omega, frB, fun i i0 i1 => ?_, fun s s0 s1 => ?_⟩
    · by_cases qi : ∃ k, (0 ≤ k ∧ k < 16) ∧ i = pl st k
      · obtain ⟨k, hk, ei⟩ := qi
        rw [ei, lv3 k hk.1 hk.2]
        exact lev_4q y8 (hdb k)
      · rw [r3' i fun k k0 k1 e => qi ⟨k, ⟨k0, k1⟩, e⟩]
        exact lbt i i0 i1
    · by_cases e : s = st
      · subst e
        refine ⟨fun _ => ⟨?_, lv3⟩, fun q => absurd ⟨inp.1, by omega⟩ q⟩
        rw [fr3.1.gZ1 _ (by omega) (by omega), gZ_uZ_eq _ (sh1 d3) rfl, wr_id (by omega) (by omega)]
      · have ne : ¬ (inPart X Y Z s ∧ num X Y Z s = t) := fun q => e ((ns s ⟨s0, s1⟩).mpr q)
        have ou1 : gZ h3 (N + 1) (rs s) = gZ h' (N + 1) (rs s) := by
          rw [fr3.1.gZ1 _ (by omega) (by omega), gZ_uZ_nj _ (sh1 d3) (fun q => e (rs_inj ⟨s0, s1⟩ ⟨q3, q4⟩ q))]
        have ou2 : ∀ k, 0 ≤ k → k < 16 → gZ h3 (N + 3) (pl s k) = gZ h' (N + 3) (pl s k) := fun k k0 k1 => r3' _ fun j j0 j1 q => e (pl_inj ⟨s0, s1⟩ ⟨q3, q4⟩ ⟨k0, k1⟩ ⟨j0, j1⟩ q).1
        have nt : inPart X Y Z s → num X Y Z s ≠ t := fun q w => ne ⟨q, w⟩
        refine ⟨fun q => ?_, fun q => ?_⟩
        · obtain ⟨w1, w2⟩ := (hh s s0 s1).1 ⟨q.1, by have := nt q.1; have := q.2; omega⟩
          exact ⟨ou1.trans w1, fun k k0 k1 => (ou2 k k0 k1).trans (w2 k k0 k1)⟩
        · obtain ⟨w1, w2⟩ := (hh s s0 s1).2 fun q' => q ⟨q'.1, by omega⟩
          exact ⟨ou1.trans w1, fun k k0 k1 => (ou2 k k0 k1).trans (w2 k k0 k1)⟩
  · intro z h3 ⟨t0, fr, lbt, hh⟩
    obtain ⟨z1, z2⟩ := z
    have nx' := fr.1.nx
    have x3 := Mx_fr y0 fr hSl (by omega) x2
    obtain ⟨c1, ⟨c2, c3, c4, c5⟩, ⟨⟨d1, d2⟩, ⟨d3, d4⟩, ⟨d5, d6⟩, d7, d8⟩, c6, ⟨c7, c8, c9, c10⟩, c11, c12⟩ := id x3
    have blk := b_X12_codesPart_42 (a0 := M) (a5 := G) (a0_now := N) (a0_vector := N + 2) (a0_level := N + 3) (a0_mode := N + 1) (n_a0_mode := 16) (x1 := X) (x2 := Y) (x4 := m) (v7 := z1) (v8 := z2) (h := h3) (wr_id (z := Z) (by omega) (by omega)) (wr_id (z := side Z * side Z) (by omega) (by omega)) c1 c2 c4 c5
    rw [eS1, eS2] at blk
    have blk := blk (fun q => absurd (Int.le_refl _) q) c3 d4 d3 (fun q => absurd (Int.le_refl _) q)
    rw [if_pos (by omega), c8, c10] at blk
    have eA1 : fA h3 M 28 = fA h1 M 28 := (fr.1.fA1 (by omega) (hSl M 28 (by omega))).trans (fr2.1.fA1 (by omega) (fun q => q))
    have eA2 : fA h3 M 29 = fA h1 M 29 := (fr.1.fA1 (by omega) (hSl M 29 (by omega))).trans (fr2.1.fA1 (by omega) (fun q => q))
    have g3 : gOk h3 M N N (N + 2) (fA h1 M 28) (fA h1 M 29) p f1 f2 X Y Z (tp sl Y) m v1 v2 := gOk_fr fr hSl (by omega) (by simp only [Sl]; omega) (by omega) (by simp only [Sl]; omega) (by omega) (gOk_fr fr2 (fun _ _ _ q => q) (by omega) (fun q => q) (by omega) (fun q => q) (by omega) g1)
    obtain ⟨h4, e4, fr4, px4⟩ := builds_ok (L := N + 3) (q := q) g3 (by omega) (by omega) (by omega) (Nat.le_refl _) (by omega) (by omega) d7 d8 (by omega) rfl lbt li y7 y8
    rw [eA1, eA2, e4, cl_n, b_X12_codesPart_147] at blk
    have l4 : gZ h4 (N + 3) = gZ h3 (N + 3) := frZ fr4 (by omega) (by omega)
    have m4 : ∀ i, gZ h4 (N + 1) i = gZ h3 (N + 1) i := fun i => fr4.1.gZ1 i (by omega) (by omega)
    have v4 : ∀ i, gZ h4 (N + 2) i = gZ h1 (N + 2) i := fun i => (fr4.1.gZ1 i (by omega) (by omega)).trans ((fr.1.gZ1 i (by omega) (by simp only [Sl]; omega)).trans (fr2.1.gZ1 i (by omega) (fun q => q)))
    have fin : Fr (SPa N) (2 + 4 * (side Z * side Z).toNat) (512 + 64 * (side Z * side Z).toNat) h h4 := by
      have f1' := Fr_tr (U := SPa N) (md_fr m1) fr2 (fun a k ha q => by unfold SPa; omega) (fun _ _ _ q => q.elim)
      have f2' := Fr_tr (U := SPa N) f1' fr (fun _ _ _ q => q) (fun a k ha q => by simp only [Sl] at q; unfold SPa; omega)
      have f3' := Fr_tr (U := SPa N) f2' fr4 (fun _ _ _ q => q) (fun a k ha q => by unfold SPa; omega)
      exact Fr_mono f3' (fun _ _ _ q => q) (by omega) (by omega)
    refine ⟨h4, blk, fin, by rw [l4]; exact lbt, fun i i0 i1 => ?_, fun s s0 s1 => ⟨fun q => ?_, fun q => ?_⟩⟩
    · obtain ⟨s, k, hs, hk, ei⟩ := pl_all ⟨i0, i1⟩
      rw [ei]
      by_cases qi : inPart X Y Z s
      · rw [(px4 s k hs.1 hs.2 hk.1 hk.2).1 qi]
        exact ⟨clampv_0 _, clampv_255 _⟩
      · rw [(px4 s k hs.1 hs.2 hk.1 hk.2).2 qi]
        have := pl_b s k
        exact hp _ this.1 this.2
    · obtain ⟨w1, w2⟩ := (hh s s0 s1).1 ⟨q, (num_b li q).2⟩
      have q' := q
      unfold inPart at q'
      have sxb := cx_b s
      have syb := cy_b s
      refine ⟨(m4 _).trans w1, fun kk => ?_, fun kk => ?_, fun k k0 k1 => ⟨?_, ?_⟩⟩
      · have := vv1 kk (cx s) (cy s) (by omega) (by omega) (by omega) (by omega)
        rw [Int.add_zero] at this
        rw [v4, v4]
        exact this
      · have := vv2 kk (cx s) (cy s) (by omega) (by omega) (by omega) (by omega)
        rw [v4, v4]
        exact ⟨this.1, by rw [← this.2]; unfold rs; rw [Int.add_assoc]; rfl⟩
      · rw [l4]; exact w2 k k0 k1
      · rw [l4]; exact (px4 s k s0 s1 k0 k1).1 q
    · obtain ⟨w1, w2⟩ := (hh s s0 s1).2 fun q' => q q'.1
      have rb := rs_b s
      refine ⟨(m4 _).trans (w1.trans ((fr2.1.gZ1 _ (by omega) (fun q => q)).trans (md_gZ m1 (by omega) _))), fun j j0 j1 => ?_, fun k k0 k1 => ⟨?_, ?_⟩⟩
      · rw [v4]
        refine rr _ fun hi => q ((rs_in li).mp ?_)
        rw [show (4 * rs s + j) / 4 = rs s by omega] at hi
        exact hi
      · rw [l4]
        exact (w2 k k0 k1).trans ((fr2.1.gZ1 _ (by omega) (fun q => q)).trans (md_gZ m1 (by omega) _))
      · rw [(px4 s k s0 s1 k0 k1).2 q, ← ep]
  · intro i i0 i1
    rw [fr2.1.gZ1 _ (by omega) (fun q => q), md_gZ m1 (by omega)]
    exact lb i i0 i1
