/-! ===== the model says squares ===== -/
theorem i_X12_placeOf_0 : am_i m_X12_placeOf 0 = some (0, .iload_n 0, 1, [], 0) := rfl
theorem i_X12_placeOf_1 : am_i m_X12_placeOf 1 = some (1, .tableswitch 95 2 13 #[63, 65, 68, 70, 72, 74, 77, 80, 83, 86, 89, 92], 63, [], 0) := rfl
theorem b_X12_placeOf_0 {x0 x0' : Int} {h : am_H} (w0 : wr x0 = x0') : rn m_X12_placeOf 0 [.int (mI x0)] [] h = sw x0' (fun p => rn m_X12_placeOf p [.int (mI x0)] [] h) 96 2 [64, 66, 69, 71, 73, 75, 78, 81, 84, 87, 90, 93] := by
  refine (tq_iload_n i_X12_placeOf_0 rfl rfl).trans ?_
  exact tq_switch (dt := 96) (ts := [64, 66, 69, 71, 73, 75, 78, 81, 84, 87, 90, 93]) i_X12_placeOf_1 w0 (by decide) (by decide) (by decide)
theorem i_X12_placeOf_64 : am_i m_X12_placeOf 64 = some (64, .iconst 4, 1, [], 4) := rfl
theorem i_X12_placeOf_65 : am_i m_X12_placeOf 65 = some (65, .ireturn, 1, [], 0) := rfl
theorem b_X12_placeOf_64 {v0 : Value} {h : am_H} : rn m_X12_placeOf 64 [v0] [] h = some (.inl (some (.int (mI 4))), h) := by
  refine (tq_iconst i_X12_placeOf_64 rfl).trans ?_
  exact tq_ireturn i_X12_placeOf_65 r_X12_placeOf rfl
theorem i_X12_placeOf_66 : am_i m_X12_placeOf 66 = some (66, .bipush 8, 2, [], 8) := rfl
theorem i_X12_placeOf_68 : am_i m_X12_placeOf 68 = some (68, .ireturn, 1, [], 0) := rfl
theorem b_X12_placeOf_66 {v0 : Value} {h : am_H} : rn m_X12_placeOf 66 [v0] [] h = some (.inl (some (.int (mI 8))), h) := by
  refine (tq_bipush i_X12_placeOf_66 rfl).trans ?_
  exact tq_ireturn i_X12_placeOf_68 r_X12_placeOf rfl
theorem i_X12_placeOf_69 : am_i m_X12_placeOf 69 = some (69, .iconst 5, 1, [], 5) := rfl
theorem i_X12_placeOf_70 : am_i m_X12_placeOf 70 = some (70, .ireturn, 1, [], 0) := rfl
theorem b_X12_placeOf_69 {v0 : Value} {h : am_H} : rn m_X12_placeOf 69 [v0] [] h = some (.inl (some (.int (mI 5))), h) := by
  refine (tq_iconst i_X12_placeOf_69 rfl).trans ?_
  exact tq_ireturn i_X12_placeOf_70 r_X12_placeOf rfl
theorem i_X12_placeOf_71 : am_i m_X12_placeOf 71 = some (71, .iconst 2, 1, [], 2) := rfl
theorem i_X12_placeOf_72 : am_i m_X12_placeOf 72 = some (72, .ireturn, 1, [], 0) := rfl
theorem b_X12_placeOf_71 {v0 : Value} {h : am_H} : rn m_X12_placeOf 71 [v0] [] h = some (.inl (some (.int (mI 2))), h) := by
  refine (tq_iconst i_X12_placeOf_71 rfl).trans ?_
  exact tq_ireturn i_X12_placeOf_72 r_X12_placeOf rfl
theorem i_X12_placeOf_73 : am_i m_X12_placeOf 73 = some (73, .iconst 3, 1, [], 3) := rfl
theorem i_X12_placeOf_74 : am_i m_X12_placeOf 74 = some (74, .ireturn, 1, [], 0) := rfl
theorem b_X12_placeOf_73 {v0 : Value} {h : am_H} : rn m_X12_placeOf 73 [v0] [] h = some (.inl (some (.int (mI 3))), h) := by
  refine (tq_iconst i_X12_placeOf_73 rfl).trans ?_
  exact tq_ireturn i_X12_placeOf_74 r_X12_placeOf rfl
theorem i_X12_placeOf_75 : am_i m_X12_placeOf 75 = some (75, .bipush 6, 2, [], 6) := rfl
theorem i_X12_placeOf_77 : am_i m_X12_placeOf 77 = some (77, .ireturn, 1, [], 0) := rfl
theorem b_X12_placeOf_75 {v0 : Value} {h : am_H} : rn m_X12_placeOf 75 [v0] [] h = some (.inl (some (.int (mI 6))), h) := by
  refine (tq_bipush i_X12_placeOf_75 rfl).trans ?_
  exact tq_ireturn i_X12_placeOf_77 r_X12_placeOf rfl
theorem i_X12_placeOf_78 : am_i m_X12_placeOf 78 = some (78, .bipush 9, 2, [], 9) := rfl
theorem i_X12_placeOf_80 : am_i m_X12_placeOf 80 = some (80, .ireturn, 1, [], 0) := rfl
theorem b_X12_placeOf_78 {v0 : Value} {h : am_H} : rn m_X12_placeOf 78 [v0] [] h = some (.inl (some (.int (mI 9))), h) := by
  refine (tq_bipush i_X12_placeOf_78 rfl).trans ?_
  exact tq_ireturn i_X12_placeOf_80 r_X12_placeOf rfl
theorem i_X12_placeOf_81 : am_i m_X12_placeOf 81 = some (81, .bipush 12, 2, [], 12) := rfl
theorem i_X12_placeOf_83 : am_i m_X12_placeOf 83 = some (83, .ireturn, 1, [], 0) := rfl
theorem b_X12_placeOf_81 {v0 : Value} {h : am_H} : rn m_X12_placeOf 81 [v0] [] h = some (.inl (some (.int (mI 12))), h) := by
  refine (tq_bipush i_X12_placeOf_81 rfl).trans ?_
  exact tq_ireturn i_X12_placeOf_83 r_X12_placeOf rfl
theorem i_X12_placeOf_84 : am_i m_X12_placeOf 84 = some (84, .bipush 13, 2, [], 13) := rfl
theorem i_X12_placeOf_86 : am_i m_X12_placeOf 86 = some (86, .ireturn, 1, [], 0) := rfl
theorem b_X12_placeOf_84 {v0 : Value} {h : am_H} : rn m_X12_placeOf 84 [v0] [] h = some (.inl (some (.int (mI 13))), h) := by
  refine (tq_bipush i_X12_placeOf_84 rfl).trans ?_
  exact tq_ireturn i_X12_placeOf_86 r_X12_placeOf rfl
theorem i_X12_placeOf_87 : am_i m_X12_placeOf 87 = some (87, .bipush 10, 2, [], 10) := rfl
theorem i_X12_placeOf_89 : am_i m_X12_placeOf 89 = some (89, .ireturn, 1, [], 0) := rfl
theorem b_X12_placeOf_87 {v0 : Value} {h : am_H} : rn m_X12_placeOf 87 [v0] [] h = some (.inl (some (.int (mI 10))), h) := by
  refine (tq_bipush i_X12_placeOf_87 rfl).trans ?_
  exact tq_ireturn i_X12_placeOf_89 r_X12_placeOf rfl
theorem i_X12_placeOf_90 : am_i m_X12_placeOf 90 = some (90, .bipush 7, 2, [], 7) := rfl
theorem i_X12_placeOf_92 : am_i m_X12_placeOf 92 = some (92, .ireturn, 1, [], 0) := rfl
theorem b_X12_placeOf_90 {v0 : Value} {h : am_H} : rn m_X12_placeOf 90 [v0] [] h = some (.inl (some (.int (mI 7))), h) := by
  refine (tq_bipush i_X12_placeOf_90 rfl).trans ?_
  exact tq_ireturn i_X12_placeOf_92 r_X12_placeOf rfl
theorem i_X12_placeOf_93 : am_i m_X12_placeOf 93 = some (93, .bipush 11, 2, [], 11) := rfl
theorem i_X12_placeOf_95 : am_i m_X12_placeOf 95 = some (95, .ireturn, 1, [], 0) := rfl
theorem b_X12_placeOf_93 {v0 : Value} {h : am_H} : rn m_X12_placeOf 93 [v0] [] h = some (.inl (some (.int (mI 11))), h) := by
  refine (tq_bipush i_X12_placeOf_93 rfl).trans ?_
  exact tq_ireturn i_X12_placeOf_95 r_X12_placeOf rfl
theorem i_X12_placeOf_96 : am_i m_X12_placeOf 96 = some (96, .iload_n 0, 1, [], 0) := rfl
theorem i_X12_placeOf_97 : am_i m_X12_placeOf 97 = some (97, .ireturn, 1, [], 0) := rfl
theorem b_X12_placeOf_96 {x0 : Int} {h : am_H} : rn m_X12_placeOf 96 [.int (mI x0)] [] h = some (.inl (some (.int (mI x0))), h) := by
  refine (tq_iload_n i_X12_placeOf_96 rfl rfl).trans ?_
  exact tq_ireturn i_X12_placeOf_97 r_X12_placeOf rfl
theorem placeOf_ok {k : Int} {h : am_H} (hk : 0 ≤ k ∧ k < 16) : rn m_X12_placeOf 0 [.int (mI k)] [] h = some (.inl (some (.int (mI (rowp k)))), h) := by
  rw [b_X12_placeOf_0 (wr_id (z := k) (by omega) (by omega))]
  have : k = 0 ∨ k = 1 ∨ k = 2 ∨ k = 3 ∨ k = 4 ∨ k = 5 ∨ k = 6 ∨ k = 7 ∨ k = 8 ∨ k = 9 ∨ k = 10 ∨ k = 11 ∨ k = 12 ∨ k = 13 ∨ k = 14 ∨ k = 15 := by omega
  rcases this with rfl | rfl | rfl | rfl | rfl | rfl | rfl | rfl | rfl | rfl | rfl | rfl | rfl | rfl | rfl | rfl
  · exact b_X12_placeOf_96 (x0 := 0)
  · exact b_X12_placeOf_96 (x0 := 1)
  · exact b_X12_placeOf_64
  · exact b_X12_placeOf_66
  · exact b_X12_placeOf_69
  · exact b_X12_placeOf_71
  · exact b_X12_placeOf_73
  · exact b_X12_placeOf_75
  · exact b_X12_placeOf_78
  · exact b_X12_placeOf_81
  · exact b_X12_placeOf_84
  · exact b_X12_placeOf_87
  · exact b_X12_placeOf_90
  · exact b_X12_placeOf_93
  · exact b_X12_placeOf_96 (x0 := 14)
  · exact b_X12_placeOf_96 (x0 := 15)
theorem i_X12_saysSquare_0 : am_i m_X12_saysSquare 0 = some (0, .iconst (-1), 1, [], -1) := rfl
theorem i_X12_saysSquare_1 : am_i m_X12_saysSquare 1 = some (1, .istore_n 3, 1, [], 0) := rfl
theorem i_X12_saysSquare_2 : am_i m_X12_saysSquare 2 = some (2, .iconst 0, 1, [], 0) := rfl
theorem i_X12_saysSquare_3 : am_i m_X12_saysSquare 3 = some (3, .istore 4, 2, [], 0) := rfl
theorem b_X12_saysSquare_0 {a0 : Nat} {x1 x2 : Int} {h : am_H} : rn m_X12_saysSquare 0 [.ref a0, .int (mI x1), .int (mI x2), am_J, am_J, am_J, am_J] [] h = rn m_X12_saysSquare 5 [.ref a0, .int (mI x1), .int (mI x2), .int (mI (-1)), .int (mI 0), am_J, am_J] [] h := by
  refine (tq_iconst i_X12_saysSquare_0 rfl).trans ?_
  refine (tq_istore_n (L' := [.ref a0, .int (mI x1), .int (mI x2), .int (mI (-1)), am_J, am_J, am_J]) i_X12_saysSquare_1 rfl rfl).trans ?_
  refine (tq_iconst i_X12_saysSquare_2 rfl).trans ?_
  refine (tq_istore (L' := [.ref a0, .int (mI x1), .int (mI x2), .int (mI (-1)), .int (mI 0), am_J, am_J]) i_X12_saysSquare_3 rfl rfl).trans ?_
  rfl
theorem i_X12_saysSquare_5 : am_i m_X12_saysSquare 5 = some (5, .iload 4, 2, [], 0) := rfl
theorem i_X12_saysSquare_7 : am_i m_X12_saysSquare 7 = some (7, .bipush 16, 2, [], 16) := rfl
theorem i_X12_saysSquare_9 : am_i m_X12_saysSquare 9 = some (9, .if_icmp .ge 46, 3, [], 0) := rfl
theorem i_X12_saysSquare_12 : am_i m_X12_saysSquare 12 = some (12, .aload_n 0, 1, [], 0) := rfl
theorem i_X12_saysSquare_13 : am_i m_X12_saysSquare 13 = some (13, .getfield 205, 3, [10, 32, 0], 0) := rfl
theorem i_X12_saysSquare_16 : am_i m_X12_saysSquare 16 = some (16, .bipush 16, 2, [], 16) := rfl
theorem i_X12_saysSquare_18 : am_i m_X12_saysSquare 18 = some (18, .iload_n 2, 1, [], 0) := rfl
theorem i_X12_saysSquare_19 : am_i m_X12_saysSquare 19 = some (19, .iload 4, 2, [], 0) := rfl
theorem i_X12_saysSquare_21 : am_i m_X12_saysSquare 21 = some (21, .invokestatic 264, 3, [33], 0) := rfl
theorem i_X12_saysSquare_55 : am_i m_X12_saysSquare 55 = some (55, .aload_n 0, 1, [], 0) := rfl
theorem i_X12_saysSquare_56 : am_i m_X12_saysSquare 56 = some (56, .bipush 7, 2, [], 7) := rfl
theorem i_X12_saysSquare_58 : am_i m_X12_saysSquare 58 = some (58, .iload_n 3, 1, [], 0) := rfl
theorem i_X12_saysSquare_59 : am_i m_X12_saysSquare 59 = some (59, .iconst (-1), 1, [], -1) := rfl
theorem i_X12_saysSquare_60 : am_i m_X12_saysSquare 60 = some (60, .if_icmp .eq 7, 3, [], 0) := rfl
theorem i_X12_saysSquare_63 : am_i m_X12_saysSquare 63 = some (63, .iconst 1, 1, [], 1) := rfl
theorem i_X12_saysSquare_64 : am_i m_X12_saysSquare 64 = some (64, .goto 4, 3, [], 0) := rfl
theorem i_X12_saysSquare_67 : am_i m_X12_saysSquare 67 = some (67, .iconst 0, 1, [], 0) := rfl
theorem i_X12_saysSquare_68 : am_i m_X12_saysSquare 68 = some (68, .invokevirtual 246, 3, [90, 10], 0) := rfl
theorem b_X12_saysSquare_5 {a0 a0_level : Nat} {x1 x2 x3 x4 x3' x4' : Int} {v5 v6 : Value} {h : am_H} (w3 : wr x3 = x3') (w4 : wr x4 = x4') (k1 : K10 h a0) (e2 : fA h a0 32 = some a0_level) : rn m_X12_saysSquare 5 [.ref a0, .int (mI x1), .int (mI x2), .int (mI x3), .int (mI x4), v5, v6] [] h = if 16 ≤ x4' then cl m_X12_saysSquare 71 [.ref a0, .int (mI x1), .int (mI x2), .int (mI x3), .int (mI x4), v5, v6] [] (rn m_X12_says 0 [.ref a0, .int (mI 7), .int (mI (bZ (¬ (x3' = (-1))))), am_J, am_J] [] h) else cl m_X12_saysSquare 24 [.ref a0, .int (mI x1), .int (mI x2), .int (mI x3), .int (mI x4), v5, v6] [.int (mI x2), .int (mI 16), .ref a0_level] (rn m_X12_placeOf 0 [.int (mI x4)] [] h) := by
  refine (tq_iload i_X12_saysSquare_5 rfl rfl).trans ?_
  refine (tq_bipush i_X12_saysSquare_7 rfl).trans ?_
  refine (tq_icmp_ge (pt := 55) i_X12_saysSquare_9 w4 w_16 (by decide) rfl).trans ?_
  refine ite_congr rfl (fun c1 => ?_) (fun c1 => ?_)
  · refine (tq_aload_n i_X12_saysSquare_55 rfl (isA_ref _) rfl).trans ?_
    refine (tq_bipush i_X12_saysSquare_56 rfl).trans ?_
    refine (tq_iload_n i_X12_saysSquare_58 rfl rfl).trans ?_
    refine (tq_iconst i_X12_saysSquare_59 rfl).trans ?_
    refine (tq_icmp_eq (pt := 67) i_X12_saysSquare_60 w3 w_m1 (by decide) rfl).trans ?_
    refine Eq.trans (b := if x3' = (-1) then rn m_X12_saysSquare 68 [.ref a0, .int (mI x1), .int (mI x2), .int (mI x3), .int (mI x4), v5, v6] [.int (mI 0), .int (mI 7), .ref a0] h else rn m_X12_saysSquare 68 [.ref a0, .int (mI x1), .int (mI x2), .int (mI x3), .int (mI x4), v5, v6] [.int (mI 1), .int (mI 7), .ref a0] h) (ite_congr rfl (fun c2 => ?_) (fun c2 => ?_)) ?_
    · refine (tq_iconst i_X12_saysSquare_67 rfl).trans ?_
      rfl
    · refine (tq_iconst i_X12_saysSquare_63 rfl).trans ?_
      refine (tq_goto (pc' := 68) i_X12_saysSquare_64 (by decide)).trans ?_
      rfl
    refine Eq.trans ite_b01 ?_
    exact c_X12_says i_X12_saysSquare_68 (K10_s k1) (ltd d_X12_saysSquare (by decide)) stOk_0 rfl
  · refine (tq_aload_n i_X12_saysSquare_12 rfl (isA_ref _) rfl).trans ?_
    refine (tq_getfield i_X12_saysSquare_13 (K10_s k1) (gR (g_10_32 (K10_s k1)) e2) (isV_ref _) rfl).trans ?_
    refine (tq_bipush i_X12_saysSquare_16 rfl).trans ?_
    refine (tq_iload_n i_X12_saysSquare_18 rfl rfl).trans ?_
    refine (tq_iload i_X12_saysSquare_19 rfl rfl).trans ?_
    exact c_X12_placeOf i_X12_saysSquare_21 (ltd d_X12_saysSquare (by decide)) (stOk_3 _ _ _) rfl
theorem i_X12_saysSquare_24 : am_i m_X12_saysSquare 24 = some (24, .iconst 4, 1, [], 4) := rfl
theorem i_X12_saysSquare_25 : am_i m_X12_saysSquare 25 = some (25, .idiv, 1, [], 0) := rfl
theorem i_X12_saysSquare_26 : am_i m_X12_saysSquare 26 = some (26, .iadd, 1, [], 0) := rfl
theorem i_X12_saysSquare_27 : am_i m_X12_saysSquare 27 = some (27, .imul, 1, [], 0) := rfl
theorem i_X12_saysSquare_28 : am_i m_X12_saysSquare 28 = some (28, .iload_n 1, 1, [], 0) := rfl
theorem i_X12_saysSquare_29 : am_i m_X12_saysSquare 29 = some (29, .iadd, 1, [], 0) := rfl
theorem i_X12_saysSquare_30 : am_i m_X12_saysSquare 30 = some (30, .iload 4, 2, [], 0) := rfl
theorem i_X12_saysSquare_32 : am_i m_X12_saysSquare 32 = some (32, .invokestatic 264, 3, [33], 0) := rfl
theorem b_X12_saysSquare_24 {a0 as3 : Nat} {x1 x2 x3 x4 xs0 xs1 xs2 xs0' : Int} {v5 v6 : Value} {h : am_H} (ws0 : wr xs0 = xs0') : rn m_X12_saysSquare 24 [.ref a0, .int (mI x1), .int (mI x2), .int (mI x3), .int (mI x4), v5, v6] [.int (mI xs0), .int (mI xs1), .int (mI xs2), .ref as3] h = cl m_X12_saysSquare 35 [.ref a0, .int (mI x1), .int (mI x2), .int (mI x3), .int (mI x4), v5, v6] [.int (mI ((xs2 * (xs1 + (Int.tdiv xs0' 4))) + x1)), .ref as3] (rn m_X12_placeOf 0 [.int (mI x4)] [] h) := by
  refine (tq_iconst i_X12_saysSquare_24 rfl).trans ?_
  refine (tq_idiv i_X12_saysSquare_25 ws0 w_4 (by decide) rfl).trans ?_
  refine (tq_iadd i_X12_saysSquare_26 rfl).trans ?_
  refine (tq_imul i_X12_saysSquare_27 rfl).trans ?_
  refine (tq_iload_n i_X12_saysSquare_28 rfl rfl).trans ?_
  refine (tq_iadd i_X12_saysSquare_29 rfl).trans ?_
  refine (tq_iload i_X12_saysSquare_30 rfl rfl).trans ?_
  exact c_X12_placeOf i_X12_saysSquare_32 (ltd d_X12_saysSquare (by decide)) (stOk_2 _ _) rfl
theorem i_X12_saysSquare_35 : am_i m_X12_saysSquare 35 = some (35, .iconst 4, 1, [], 4) := rfl
theorem i_X12_saysSquare_36 : am_i m_X12_saysSquare 36 = some (36, .irem, 1, [], 0) := rfl
theorem i_X12_saysSquare_37 : am_i m_X12_saysSquare 37 = some (37, .iadd, 1, [], 0) := rfl
theorem i_X12_saysSquare_38 : am_i m_X12_saysSquare 38 = some (38, .iaload, 1, [], 0) := rfl
theorem i_X12_saysSquare_39 : am_i m_X12_saysSquare 39 = some (39, .ifCond .eq 8, 3, [], 0) := rfl
theorem i_X12_saysSquare_42 : am_i m_X12_saysSquare 42 = some (42, .iload 4, 2, [], 0) := rfl
theorem i_X12_saysSquare_44 : am_i m_X12_saysSquare 44 = some (44, .goto 4, 3, [], 0) := rfl
theorem i_X12_saysSquare_47 : am_i m_X12_saysSquare 47 = some (47, .iload_n 3, 1, [], 0) := rfl
theorem i_X12_saysSquare_48 : am_i m_X12_saysSquare 48 = some (48, .istore_n 3, 1, [], 0) := rfl
theorem i_X12_saysSquare_49 : am_i m_X12_saysSquare 49 = some (49, .iinc 4 1, 3, [], 0) := rfl
theorem i_X12_saysSquare_52 : am_i m_X12_saysSquare 52 = some (52, .goto (-47), 3, [], 0) := rfl
theorem b_X12_saysSquare_35 {a0 as2 n_as2 : Nat} {x1 x2 x3 x4 xs0 xs1 xs0' : Int} {v5 v6 : Value} {h : am_H} (ws0 : wr xs0 = xs0') (n1 : gn h as2 = n_as2) (s2 : sh h as2 = (1, 0)) (g3 : 0 ≤ wr (xs1 + (Int.tmod xs0' 4)) ∧ wr (xs1 + (Int.tmod xs0' 4)) < (n_as2 : Int)) : rn m_X12_saysSquare 35 [.ref a0, .int (mI x1), .int (mI x2), .int (mI x3), .int (mI x4), v5, v6] [.int (mI xs0), .int (mI xs1), .ref as2] h = rn m_X12_saysSquare 5 [.ref a0, .int (mI x1), .int (mI x2), .int (mI (if (gZ h as2 (wr (xs1 + (Int.tmod xs0' 4)))) = 0 then (x3 : Int) else x4)), .int (mI (x4 + 1)), v5, v6] [] h := by
  refine (tq_iconst i_X12_saysSquare_35 rfl).trans ?_
  refine (tq_irem i_X12_saysSquare_36 ws0 w_4 (by decide) rfl).trans ?_
  refine (tq_iadd i_X12_saysSquare_37 rfl).trans ?_
  refine (tq_iaload i_X12_saysSquare_38 s2 (by decide) rfl g3.1 (lt_gn n1 g3.2) rfl).trans ?_
  refine (tq_if_eq (pt := 47) i_X12_saysSquare_39 (wr_gZ _ _ _) (by decide) rfl).trans ?_
  refine Eq.trans (b := if (gZ h as2 (wr (xs1 + (Int.tmod xs0' 4)))) = 0 then rn m_X12_saysSquare 48 [.ref a0, .int (mI x1), .int (mI x2), .int (mI x3), .int (mI x4), v5, v6] [.int (mI x3)] h else rn m_X12_saysSquare 48 [.ref a0, .int (mI x1), .int (mI x2), .int (mI x3), .int (mI x4), v5, v6] [.int (mI x4)] h) (ite_congr rfl (fun c1 => ?_) (fun c1 => ?_)) ?_
  · refine (tq_iload_n i_X12_saysSquare_47 rfl rfl).trans ?_
    rfl
  · refine (tq_iload i_X12_saysSquare_42 rfl rfl).trans ?_
    refine (tq_goto (pc' := 48) i_X12_saysSquare_44 (by decide)).trans ?_
    rfl
  refine Eq.trans ite_I ?_
  refine (tq_istore_n (L' := [.ref a0, .int (mI x1), .int (mI x2), .int (mI (if (gZ h as2 (wr (xs1 + (Int.tmod xs0' 4)))) = 0 then (x3 : Int) else x4)), .int (mI x4), v5, v6]) i_X12_saysSquare_48 rfl rfl).trans ?_
  refine (tq_iinc (L' := [.ref a0, .int (mI x1), .int (mI x2), .int (mI (if (gZ h as2 (wr (xs1 + (Int.tmod xs0' 4)))) = 0 then (x3 : Int) else x4)), .int (mI (x4 + 1)), v5, v6]) i_X12_saysSquare_49 rfl rfl rfl).trans ?_
  refine (tq_goto (pc' := 5) i_X12_saysSquare_52 (by decide)).trans ?_
  rfl
theorem i_X12_saysSquare_71 : am_i m_X12_saysSquare 71 = some (71, .iconst 1, 1, [], 1) := rfl
theorem i_X12_saysSquare_72 : am_i m_X12_saysSquare 72 = some (72, .istore 4, 2, [], 0) := rfl
theorem i_X12_saysSquare_74 : am_i m_X12_saysSquare 74 = some (74, .iconst 3, 1, [], 3) := rfl
theorem i_X12_saysSquare_75 : am_i m_X12_saysSquare 75 = some (75, .istore 5, 2, [], 0) := rfl
theorem b_X12_saysSquare_71 {a0 : Nat} {x1 x2 x3 : Int} {v4 v5 v6 : Value} {h : am_H} : rn m_X12_saysSquare 71 [.ref a0, .int (mI x1), .int (mI x2), .int (mI x3), v4, v5, v6] [] h = rn m_X12_saysSquare 77 [.ref a0, .int (mI x1), .int (mI x2), .int (mI x3), .int (mI 1), .int (mI 3), v6] [] h := by
  refine (tq_iconst i_X12_saysSquare_71 rfl).trans ?_
  refine (tq_istore (L' := [.ref a0, .int (mI x1), .int (mI x2), .int (mI x3), .int (mI 1), v5, v6]) i_X12_saysSquare_72 rfl rfl).trans ?_
  refine (tq_iconst i_X12_saysSquare_74 rfl).trans ?_
  refine (tq_istore (L' := [.ref a0, .int (mI x1), .int (mI x2), .int (mI x3), .int (mI 1), .int (mI 3), v6]) i_X12_saysSquare_75 rfl rfl).trans ?_
  rfl
theorem i_X12_saysSquare_77 : am_i m_X12_saysSquare 77 = some (77, .iload 5, 2, [], 0) := rfl
theorem i_X12_saysSquare_79 : am_i m_X12_saysSquare 79 = some (79, .ifCond .lt 51, 3, [], 0) := rfl
theorem i_X12_saysSquare_82 : am_i m_X12_saysSquare 82 = some (82, .iload_n 3, 1, [], 0) := rfl
theorem i_X12_saysSquare_83 : am_i m_X12_saysSquare 83 = some (83, .iconst (-1), 1, [], -1) := rfl
theorem i_X12_saysSquare_84 : am_i m_X12_saysSquare 84 = some (84, .if_icmp .eq 46, 3, [], 0) := rfl
theorem i_X12_saysSquare_87 : am_i m_X12_saysSquare 87 = some (87, .iload_n 3, 1, [], 0) := rfl
theorem i_X12_saysSquare_88 : am_i m_X12_saysSquare 88 = some (88, .iload 5, 2, [], 0) := rfl
theorem i_X12_saysSquare_90 : am_i m_X12_saysSquare 90 = some (90, .ishr, 1, [], 0) := rfl
theorem i_X12_saysSquare_91 : am_i m_X12_saysSquare 91 = some (91, .iconst 1, 1, [], 1) := rfl
theorem i_X12_saysSquare_92 : am_i m_X12_saysSquare 92 = some (92, .iand, 1, [], 0) := rfl
theorem i_X12_saysSquare_93 : am_i m_X12_saysSquare 93 = some (93, .istore 6, 2, [], 0) := rfl
theorem i_X12_saysSquare_95 : am_i m_X12_saysSquare 95 = some (95, .aload_n 0, 1, [], 0) := rfl
theorem i_X12_saysSquare_96 : am_i m_X12_saysSquare 96 = some (96, .bipush 32, 2, [], 32) := rfl
theorem i_X12_saysSquare_98 : am_i m_X12_saysSquare 98 = some (98, .iload 4, 2, [], 0) := rfl
theorem i_X12_saysSquare_100 : am_i m_X12_saysSquare 100 = some (100, .iadd, 1, [], 0) := rfl
theorem i_X12_saysSquare_101 : am_i m_X12_saysSquare 101 = some (101, .iload 6, 2, [], 0) := rfl
theorem i_X12_saysSquare_103 : am_i m_X12_saysSquare 103 = some (103, .iconst 1, 1, [], 1) := rfl
theorem i_X12_saysSquare_104 : am_i m_X12_saysSquare 104 = some (104, .if_icmp .ne 7, 3, [], 0) := rfl
theorem i_X12_saysSquare_107 : am_i m_X12_saysSquare 107 = some (107, .iconst 1, 1, [], 1) := rfl
theorem i_X12_saysSquare_108 : am_i m_X12_saysSquare 108 = some (108, .goto 4, 3, [], 0) := rfl
theorem i_X12_saysSquare_111 : am_i m_X12_saysSquare 111 = some (111, .iconst 0, 1, [], 0) := rfl
theorem i_X12_saysSquare_112 : am_i m_X12_saysSquare 112 = some (112, .invokevirtual 246, 3, [90, 10], 0) := rfl
theorem i_X12_saysSquare_130 : am_i m_X12_saysSquare 130 = some (130, .iload_n 3, 1, [], 0) := rfl
theorem i_X12_saysSquare_131 : am_i m_X12_saysSquare 131 = some (131, .istore 5, 2, [], 0) := rfl
theorem b_X12_saysSquare_77 {a0 k_90 : Nat} {x1 x2 x3 x4 x5 x3' x5' : Int} {v6 : Value} {h : am_H} (w3 : wr x3 = x3') (w5 : wr x5 = x5') (g1 : (¬ (x5' < 0)) → (¬ (x3' = (-1))) → (x5' = (k_90 : Int))) (g2 : (¬ (x5' < 0)) → (¬ (x3' = (-1))) → (k_90 < 32)) (k3 : K10 h a0) : rn m_X12_saysSquare 77 [.ref a0, .int (mI x1), .int (mI x2), .int (mI x3), .int (mI x4), .int (mI x5), v6] [] h = if x5' < 0 then rn m_X12_saysSquare 133 [.ref a0, .int (mI x1), .int (mI x2), .int (mI x3), .int (mI x4), .int (mI x3), v6] [] h else if x3' = (-1) then rn m_X12_saysSquare 133 [.ref a0, .int (mI x1), .int (mI x2), .int (mI x3), .int (mI x4), .int (mI x3), v6] [] h else cl m_X12_saysSquare 115 [.ref a0, .int (mI x1), .int (mI x2), .int (mI x3), .int (mI x4), .int (mI x5), .int (mI ((wr (x3' / 2 ^ k_90)) % 2 ^ 1))] [] (rn m_X12_says 0 [.ref a0, .int (mI (32 + x4)), .int (mI (bZ (¬ (¬ ((wr (x3' / 2 ^ k_90)) % 2 ^ 1) = 1)))), am_J, am_J] [] h) := by
  refine (tq_iload i_X12_saysSquare_77 rfl rfl).trans ?_
  refine (tq_if_lt (pt := 130) i_X12_saysSquare_79 w5 (by decide) rfl).trans ?_
  refine ite_congr rfl (fun c1 => ?_) (fun c1 => ?_)
  · refine (tq_iload_n i_X12_saysSquare_130 rfl rfl).trans ?_
    refine (tq_istore (L' := [.ref a0, .int (mI x1), .int (mI x2), .int (mI x3), .int (mI x4), .int (mI x3), v6]) i_X12_saysSquare_131 rfl rfl).trans ?_
    rfl
  · refine (tq_iload_n i_X12_saysSquare_82 rfl rfl).trans ?_
    refine (tq_iconst i_X12_saysSquare_83 rfl).trans ?_
    refine (tq_icmp_eq (pt := 130) i_X12_saysSquare_84 w3 w_m1 (by decide) rfl).trans ?_
    refine ite_congr rfl (fun c2 => ?_) (fun c2 => ?_)
    · refine (tq_iload_n i_X12_saysSquare_130 rfl rfl).trans ?_
      refine (tq_istore (L' := [.ref a0, .int (mI x1), .int (mI x2), .int (mI x3), .int (mI x4), .int (mI x3), v6]) i_X12_saysSquare_131 rfl rfl).trans ?_
      rfl
    · refine (tq_iload_n i_X12_saysSquare_87 rfl rfl).trans ?_
      refine (tq_iload i_X12_saysSquare_88 rfl rfl).trans ?_
      refine (tq_ishr i_X12_saysSquare_90 w3 (w5.trans (g1 c1 c2)) (g2 c1 c2) rfl).trans ?_
      refine (tq_iconst i_X12_saysSquare_91 rfl).trans ?_
      refine (tq_imask 1 i_X12_saysSquare_92 rfl (by decide) (by decide) rfl).trans ?_
      refine (tq_istore (L' := [.ref a0, .int (mI x1), .int (mI x2), .int (mI x3), .int (mI x4), .int (mI x5), .int (mI ((wr (x3' / 2 ^ k_90)) % 2 ^ 1))]) i_X12_saysSquare_93 rfl rfl).trans ?_
      refine (tq_aload_n i_X12_saysSquare_95 rfl (isA_ref _) rfl).trans ?_
      refine (tq_bipush i_X12_saysSquare_96 rfl).trans ?_
      refine (tq_iload i_X12_saysSquare_98 rfl rfl).trans ?_
      refine (tq_iadd i_X12_saysSquare_100 rfl).trans ?_
      refine (tq_iload i_X12_saysSquare_101 rfl rfl).trans ?_
      refine (tq_iconst i_X12_saysSquare_103 rfl).trans ?_
      refine (tq_icmp_ne (pt := 111) i_X12_saysSquare_104 (wr_mask (by decide)) w_1 (by decide) rfl).trans ?_
      refine Eq.trans (b := if ¬ ((wr (x3' / 2 ^ k_90)) % 2 ^ 1) = 1 then rn m_X12_saysSquare 112 [.ref a0, .int (mI x1), .int (mI x2), .int (mI x3), .int (mI x4), .int (mI x5), .int (mI ((wr (x3' / 2 ^ k_90)) % 2 ^ 1))] [.int (mI 0), .int (mI (32 + x4)), .ref a0] h else rn m_X12_saysSquare 112 [.ref a0, .int (mI x1), .int (mI x2), .int (mI x3), .int (mI x4), .int (mI x5), .int (mI ((wr (x3' / 2 ^ k_90)) % 2 ^ 1))] [.int (mI 1), .int (mI (32 + x4)), .ref a0] h) (ite_congr rfl (fun c3 => ?_) (fun c3 => ?_)) ?_
      · refine (tq_iconst i_X12_saysSquare_111 rfl).trans ?_
        rfl
      · refine (tq_iconst i_X12_saysSquare_107 rfl).trans ?_
        refine (tq_goto (pc' := 112) i_X12_saysSquare_108 (by decide)).trans ?_
        rfl
      refine Eq.trans ite_b01 ?_
      exact c_X12_says i_X12_saysSquare_112 (K10_s k3) (ltd d_X12_saysSquare (by decide)) stOk_0 rfl
theorem i_X12_saysSquare_115 : am_i m_X12_saysSquare 115 = some (115, .iconst 2, 1, [], 2) := rfl
theorem i_X12_saysSquare_116 : am_i m_X12_saysSquare 116 = some (116, .iload 4, 2, [], 0) := rfl
theorem i_X12_saysSquare_118 : am_i m_X12_saysSquare 118 = some (118, .imul, 1, [], 0) := rfl
theorem i_X12_saysSquare_119 : am_i m_X12_saysSquare 119 = some (119, .iload 6, 2, [], 0) := rfl
theorem i_X12_saysSquare_121 : am_i m_X12_saysSquare 121 = some (121, .iadd, 1, [], 0) := rfl
theorem i_X12_saysSquare_122 : am_i m_X12_saysSquare 122 = some (122, .istore 4, 2, [], 0) := rfl
theorem i_X12_saysSquare_124 : am_i m_X12_saysSquare 124 = some (124, .iinc 5 (-1), 3, [], 0) := rfl
theorem i_X12_saysSquare_127 : am_i m_X12_saysSquare 127 = some (127, .goto (-50), 3, [], 0) := rfl
theorem b_X12_saysSquare_115 {a0 : Nat} {x1 x2 x3 x4 x5 x6 : Int} {h : am_H} : rn m_X12_saysSquare 115 [.ref a0, .int (mI x1), .int (mI x2), .int (mI x3), .int (mI x4), .int (mI x5), .int (mI x6)] [] h = rn m_X12_saysSquare 77 [.ref a0, .int (mI x1), .int (mI x2), .int (mI x3), .int (mI ((2 * x4) + x6)), .int (mI (x5 + (-1))), .int (mI x6)] [] h := by
  refine (tq_iconst i_X12_saysSquare_115 rfl).trans ?_
  refine (tq_iload i_X12_saysSquare_116 rfl rfl).trans ?_
  refine (tq_imul i_X12_saysSquare_118 rfl).trans ?_
  refine (tq_iload i_X12_saysSquare_119 rfl rfl).trans ?_
  refine (tq_iadd i_X12_saysSquare_121 rfl).trans ?_
  refine (tq_istore (L' := [.ref a0, .int (mI x1), .int (mI x2), .int (mI x3), .int (mI ((2 * x4) + x6)), .int (mI x5), .int (mI x6)]) i_X12_saysSquare_122 rfl rfl).trans ?_
  refine (tq_iinc (L' := [.ref a0, .int (mI x1), .int (mI x2), .int (mI x3), .int (mI ((2 * x4) + x6)), .int (mI (x5 + (-1))), .int (mI x6)]) i_X12_saysSquare_124 rfl rfl rfl).trans ?_
  refine (tq_goto (pc' := 77) i_X12_saysSquare_127 (by decide)).trans ?_
  rfl
theorem i_X12_saysSquare_133 : am_i m_X12_saysSquare 133 = some (133, .iload 5, 2, [], 0) := rfl
theorem i_X12_saysSquare_135 : am_i m_X12_saysSquare 135 = some (135, .ifCond .lt 95, 3, [], 0) := rfl
theorem i_X12_saysSquare_138 : am_i m_X12_saysSquare 138 = some (138, .aload_n 0, 1, [], 0) := rfl
theorem i_X12_saysSquare_139 : am_i m_X12_saysSquare 139 = some (139, .getfield 205, 3, [10, 32, 0], 0) := rfl
theorem i_X12_saysSquare_142 : am_i m_X12_saysSquare 142 = some (142, .bipush 16, 2, [], 16) := rfl
theorem i_X12_saysSquare_144 : am_i m_X12_saysSquare 144 = some (144, .iload_n 2, 1, [], 0) := rfl
theorem i_X12_saysSquare_145 : am_i m_X12_saysSquare 145 = some (145, .iload 5, 2, [], 0) := rfl
theorem i_X12_saysSquare_147 : am_i m_X12_saysSquare 147 = some (147, .invokestatic 264, 3, [33], 0) := rfl
theorem i_X12_saysSquare_230 : am_i m_X12_saysSquare 230 = some (230, .return_, 1, [], 0) := rfl
theorem b_X12_saysSquare_133 {a0 a0_level : Nat} {x1 x2 x3 x5 x5' : Int} {v4 v6 : Value} {h : am_H} (w5 : wr x5 = x5') (k1 : K10 h a0) (e2 : fA h a0 32 = some a0_level) : rn m_X12_saysSquare 133 [.ref a0, .int (mI x1), .int (mI x2), .int (mI x3), v4, .int (mI x5), v6] [] h = if x5' < 0 then some (.inl none, h) else cl m_X12_saysSquare 150 [.ref a0, .int (mI x1), .int (mI x2), .int (mI x3), v4, .int (mI x5), v6] [.int (mI x2), .int (mI 16), .ref a0_level] (rn m_X12_placeOf 0 [.int (mI x5)] [] h) := by
  refine (tq_iload i_X12_saysSquare_133 rfl rfl).trans ?_
  refine (tq_if_lt (pt := 230) i_X12_saysSquare_135 w5 (by decide) rfl).trans ?_
  refine ite_congr rfl (fun c1 => ?_) (fun c1 => ?_)
  · exact tq_return i_X12_saysSquare_230 r_X12_saysSquare
  · refine (tq_aload_n i_X12_saysSquare_138 rfl (isA_ref _) rfl).trans ?_
    refine (tq_getfield i_X12_saysSquare_139 (K10_s k1) (gR (g_10_32 (K10_s k1)) e2) (isV_ref _) rfl).trans ?_
    refine (tq_bipush i_X12_saysSquare_142 rfl).trans ?_
    refine (tq_iload_n i_X12_saysSquare_144 rfl rfl).trans ?_
    refine (tq_iload i_X12_saysSquare_145 rfl rfl).trans ?_
    exact c_X12_placeOf i_X12_saysSquare_147 (ltd d_X12_saysSquare (by decide)) (stOk_3 _ _ _) rfl
theorem i_X12_saysSquare_150 : am_i m_X12_saysSquare 150 = some (150, .iconst 4, 1, [], 4) := rfl
theorem i_X12_saysSquare_151 : am_i m_X12_saysSquare 151 = some (151, .idiv, 1, [], 0) := rfl
theorem i_X12_saysSquare_152 : am_i m_X12_saysSquare 152 = some (152, .iadd, 1, [], 0) := rfl
theorem i_X12_saysSquare_153 : am_i m_X12_saysSquare 153 = some (153, .imul, 1, [], 0) := rfl
theorem i_X12_saysSquare_154 : am_i m_X12_saysSquare 154 = some (154, .iload_n 1, 1, [], 0) := rfl
theorem i_X12_saysSquare_155 : am_i m_X12_saysSquare 155 = some (155, .iadd, 1, [], 0) := rfl
theorem i_X12_saysSquare_156 : am_i m_X12_saysSquare 156 = some (156, .iload 5, 2, [], 0) := rfl
theorem i_X12_saysSquare_158 : am_i m_X12_saysSquare 158 = some (158, .invokestatic 264, 3, [33], 0) := rfl
theorem b_X12_saysSquare_150 {a0 as3 : Nat} {x1 x2 x3 x5 xs0 xs1 xs2 xs0' : Int} {v4 v6 : Value} {h : am_H} (ws0 : wr xs0 = xs0') : rn m_X12_saysSquare 150 [.ref a0, .int (mI x1), .int (mI x2), .int (mI x3), v4, .int (mI x5), v6] [.int (mI xs0), .int (mI xs1), .int (mI xs2), .ref as3] h = cl m_X12_saysSquare 161 [.ref a0, .int (mI x1), .int (mI x2), .int (mI x3), v4, .int (mI x5), v6] [.int (mI ((xs2 * (xs1 + (Int.tdiv xs0' 4))) + x1)), .ref as3] (rn m_X12_placeOf 0 [.int (mI x5)] [] h) := by
  refine (tq_iconst i_X12_saysSquare_150 rfl).trans ?_
  refine (tq_idiv i_X12_saysSquare_151 ws0 w_4 (by decide) rfl).trans ?_
  refine (tq_iadd i_X12_saysSquare_152 rfl).trans ?_
  refine (tq_imul i_X12_saysSquare_153 rfl).trans ?_
  refine (tq_iload_n i_X12_saysSquare_154 rfl rfl).trans ?_
  refine (tq_iadd i_X12_saysSquare_155 rfl).trans ?_
  refine (tq_iload i_X12_saysSquare_156 rfl rfl).trans ?_
  exact c_X12_placeOf i_X12_saysSquare_158 (ltd d_X12_saysSquare (by decide)) (stOk_2 _ _) rfl
theorem i_X12_saysSquare_161 : am_i m_X12_saysSquare 161 = some (161, .iconst 4, 1, [], 4) := rfl
theorem i_X12_saysSquare_162 : am_i m_X12_saysSquare 162 = some (162, .irem, 1, [], 0) := rfl
theorem i_X12_saysSquare_163 : am_i m_X12_saysSquare 163 = some (163, .iadd, 1, [], 0) := rfl
theorem i_X12_saysSquare_164 : am_i m_X12_saysSquare 164 = some (164, .iaload, 1, [], 0) := rfl
theorem i_X12_saysSquare_165 : am_i m_X12_saysSquare 165 = some (165, .istore 6, 2, [], 0) := rfl
theorem i_X12_saysSquare_167 : am_i m_X12_saysSquare 167 = some (167, .iload 5, 2, [], 0) := rfl
theorem i_X12_saysSquare_169 : am_i m_X12_saysSquare 169 = some (169, .iload_n 3, 1, [], 0) := rfl
theorem i_X12_saysSquare_170 : am_i m_X12_saysSquare 170 = some (170, .if_icmp .eq 22, 3, [], 0) := rfl
theorem i_X12_saysSquare_173 : am_i m_X12_saysSquare 173 = some (173, .aload_n 0, 1, [], 0) := rfl
theorem i_X12_saysSquare_174 : am_i m_X12_saysSquare 174 = some (174, .bipush 48, 2, [], 48) := rfl
theorem i_X12_saysSquare_176 : am_i m_X12_saysSquare 176 = some (176, .iload 5, 2, [], 0) := rfl
theorem i_X12_saysSquare_178 : am_i m_X12_saysSquare 178 = some (178, .iadd, 1, [], 0) := rfl
theorem i_X12_saysSquare_179 : am_i m_X12_saysSquare 179 = some (179, .iload 6, 2, [], 0) := rfl
theorem i_X12_saysSquare_181 : am_i m_X12_saysSquare 181 = some (181, .ifCond .eq 7, 3, [], 0) := rfl
theorem i_X12_saysSquare_184 : am_i m_X12_saysSquare 184 = some (184, .iconst 1, 1, [], 1) := rfl
theorem i_X12_saysSquare_185 : am_i m_X12_saysSquare 185 = some (185, .goto 4, 3, [], 0) := rfl
theorem i_X12_saysSquare_188 : am_i m_X12_saysSquare 188 = some (188, .iconst 0, 1, [], 0) := rfl
theorem i_X12_saysSquare_189 : am_i m_X12_saysSquare 189 = some (189, .invokevirtual 246, 3, [90, 10], 0) := rfl
theorem b_X12_saysSquare_161 {a0 as2 n_as2 : Nat} {x1 x2 x3 x5 xs0 xs1 x3' x5' xs0' : Int} {v4 v6 : Value} {h : am_H} (w3 : wr x3 = x3') (w5 : wr x5 = x5') (ws0 : wr xs0 = xs0') (n1 : gn h as2 = n_as2) (s2 : sh h as2 = (1, 0)) (g3 : 0 ≤ wr (xs1 + (Int.tmod xs0' 4)) ∧ wr (xs1 + (Int.tmod xs0' 4)) < (n_as2 : Int)) (k4 : K10 h a0) : rn m_X12_saysSquare 161 [.ref a0, .int (mI x1), .int (mI x2), .int (mI x3), v4, .int (mI x5), v6] [.int (mI xs0), .int (mI xs1), .ref as2] h = if x5' = x3' then rn m_X12_saysSquare 192 [.ref a0, .int (mI x1), .int (mI x2), .int (mI x3), v4, .int (mI x5), .int (mI (gZ h as2 (wr (xs1 + (Int.tmod xs0' 4)))))] [] h else cl m_X12_saysSquare 192 [.ref a0, .int (mI x1), .int (mI x2), .int (mI x3), v4, .int (mI x5), .int (mI (gZ h as2 (wr (xs1 + (Int.tmod xs0' 4)))))] [] (rn m_X12_says 0 [.ref a0, .int (mI (48 + x5)), .int (mI (bZ (¬ ((gZ h as2 (wr (xs1 + (Int.tmod xs0' 4)))) = 0)))), am_J, am_J] [] h) := by
  refine (tq_iconst i_X12_saysSquare_161 rfl).trans ?_
  refine (tq_irem i_X12_saysSquare_162 ws0 w_4 (by decide) rfl).trans ?_
  refine (tq_iadd i_X12_saysSquare_163 rfl).trans ?_
  refine (tq_iaload i_X12_saysSquare_164 s2 (by decide) rfl g3.1 (lt_gn n1 g3.2) rfl).trans ?_
  refine (tq_istore (L' := [.ref a0, .int (mI x1), .int (mI x2), .int (mI x3), v4, .int (mI x5), .int (mI (gZ h as2 (wr (xs1 + (Int.tmod xs0' 4)))))]) i_X12_saysSquare_165 rfl rfl).trans ?_
  refine (tq_iload i_X12_saysSquare_167 rfl rfl).trans ?_
  refine (tq_iload_n i_X12_saysSquare_169 rfl rfl).trans ?_
  refine (tq_icmp_eq (pt := 192) i_X12_saysSquare_170 w5 w3 (by decide) rfl).trans ?_
  refine ite_congr rfl (fun c1 => ?_) (fun c1 => ?_)
  · rfl
  · refine (tq_aload_n i_X12_saysSquare_173 rfl (isA_ref _) rfl).trans ?_
    refine (tq_bipush i_X12_saysSquare_174 rfl).trans ?_
    refine (tq_iload i_X12_saysSquare_176 rfl rfl).trans ?_
    refine (tq_iadd i_X12_saysSquare_178 rfl).trans ?_
    refine (tq_iload i_X12_saysSquare_179 rfl rfl).trans ?_
    refine (tq_if_eq (pt := 188) i_X12_saysSquare_181 (wr_gZ _ _ _) (by decide) rfl).trans ?_
    refine Eq.trans (b := if (gZ h as2 (wr (xs1 + (Int.tmod xs0' 4)))) = 0 then rn m_X12_saysSquare 189 [.ref a0, .int (mI x1), .int (mI x2), .int (mI x3), v4, .int (mI x5), .int (mI (gZ h as2 (wr (xs1 + (Int.tmod xs0' 4)))))] [.int (mI 0), .int (mI (48 + x5)), .ref a0] h else rn m_X12_saysSquare 189 [.ref a0, .int (mI x1), .int (mI x2), .int (mI x3), v4, .int (mI x5), .int (mI (gZ h as2 (wr (xs1 + (Int.tmod xs0' 4)))))] [.int (mI 1), .int (mI (48 + x5)), .ref a0] h) (ite_congr rfl (fun c2 => ?_) (fun c2 => ?_)) ?_
    · refine (tq_iconst i_X12_saysSquare_188 rfl).trans ?_
      rfl
    · refine (tq_iconst i_X12_saysSquare_184 rfl).trans ?_
      refine (tq_goto (pc' := 189) i_X12_saysSquare_185 (by decide)).trans ?_
      rfl
    refine Eq.trans ite_b01 ?_
    exact c_X12_says i_X12_saysSquare_189 (K10_s k4) (ltd d_X12_saysSquare (by decide)) stOk_0 rfl
theorem i_X12_saysSquare_192 : am_i m_X12_saysSquare 192 = some (192, .iload 6, 2, [], 0) := rfl
theorem i_X12_saysSquare_194 : am_i m_X12_saysSquare 194 = some (194, .ifCond .eq 30, 3, [], 0) := rfl
theorem i_X12_saysSquare_197 : am_i m_X12_saysSquare 197 = some (197, .aload_n 0, 1, [], 0) := rfl
theorem i_X12_saysSquare_198 : am_i m_X12_saysSquare 198 = some (198, .iload 6, 2, [], 0) := rfl
theorem i_X12_saysSquare_200 : am_i m_X12_saysSquare 200 = some (200, .ifCond .ge 7, 3, [], 0) := rfl
theorem i_X12_saysSquare_203 : am_i m_X12_saysSquare 203 = some (203, .iconst 1, 1, [], 1) := rfl
theorem i_X12_saysSquare_204 : am_i m_X12_saysSquare 204 = some (204, .goto 4, 3, [], 0) := rfl
theorem i_X12_saysSquare_207 : am_i m_X12_saysSquare 207 = some (207, .iconst 0, 1, [], 0) := rfl
theorem i_X12_saysSquare_208 : am_i m_X12_saysSquare 208 = some (208, .invokevirtual 250, 3, [91, 10], 0) := rfl
theorem b_X12_saysSquare_192 {a0 : Nat} {x1 x2 x3 x5 x6 x6' : Int} {v4 : Value} {h : am_H} (w6 : wr x6 = x6') (k1 : K10 h a0) : rn m_X12_saysSquare 192 [.ref a0, .int (mI x1), .int (mI x2), .int (mI x3), v4, .int (mI x5), .int (mI x6)] [] h = if x6' = 0 then rn m_X12_saysSquare 224 [.ref a0, .int (mI x1), .int (mI x2), .int (mI x3), v4, .int (mI x5), .int (mI x6)] [] h else cl m_X12_saysSquare 211 [.ref a0, .int (mI x1), .int (mI x2), .int (mI x3), v4, .int (mI x5), .int (mI x6)] [] (rn m_X12_saysPlain 0 [.ref a0, .int (mI (bZ (¬ (0 ≤ x6'))))] [] h) := by
  refine (tq_iload i_X12_saysSquare_192 rfl rfl).trans ?_
  refine (tq_if_eq (pt := 224) i_X12_saysSquare_194 w6 (by decide) rfl).trans ?_
  refine ite_congr rfl (fun c1 => ?_) (fun c1 => ?_)
  · rfl
  · refine (tq_aload_n i_X12_saysSquare_197 rfl (isA_ref _) rfl).trans ?_
    refine (tq_iload i_X12_saysSquare_198 rfl rfl).trans ?_
    refine (tq_if_ge (pt := 207) i_X12_saysSquare_200 w6 (by decide) rfl).trans ?_
    refine Eq.trans (b := if 0 ≤ x6' then rn m_X12_saysSquare 208 [.ref a0, .int (mI x1), .int (mI x2), .int (mI x3), v4, .int (mI x5), .int (mI x6)] [.int (mI 0), .ref a0] h else rn m_X12_saysSquare 208 [.ref a0, .int (mI x1), .int (mI x2), .int (mI x3), v4, .int (mI x5), .int (mI x6)] [.int (mI 1), .ref a0] h) (ite_congr rfl (fun c2 => ?_) (fun c2 => ?_)) ?_
    · refine (tq_iconst i_X12_saysSquare_207 rfl).trans ?_
      rfl
    · refine (tq_iconst i_X12_saysSquare_203 rfl).trans ?_
      refine (tq_goto (pc' := 208) i_X12_saysSquare_204 (by decide)).trans ?_
      rfl
    refine Eq.trans ite_b01 ?_
    exact c_X12_saysPlain i_X12_saysSquare_208 (K10_s k1) (ltd d_X12_saysSquare (by decide)) stOk_0 rfl
theorem i_X12_saysSquare_211 : am_i m_X12_saysSquare 211 = some (211, .aload_n 0, 1, [], 0) := rfl
theorem i_X12_saysSquare_212 : am_i m_X12_saysSquare 212 = some (212, .bipush 64, 2, [], 64) := rfl
theorem i_X12_saysSquare_214 : am_i m_X12_saysSquare 214 = some (214, .iload 6, 2, [], 0) := rfl
theorem i_X12_saysSquare_216 : am_i m_X12_saysSquare 216 = some (216, .invokestatic 175, 3, [0, 0], 0) := rfl
theorem i_X12_saysSquare_219 : am_i m_X12_saysSquare 219 = some (219, .iconst 1, 1, [], 1) := rfl
theorem i_X12_saysSquare_220 : am_i m_X12_saysSquare 220 = some (220, .isub, 1, [], 0) := rfl
theorem i_X12_saysSquare_221 : am_i m_X12_saysSquare 221 = some (221, .invokevirtual 254, 3, [138, 10], 0) := rfl
theorem b_X12_saysSquare_211 {a0 : Nat} {x1 x2 x3 x5 x6 x6' : Int} {v4 : Value} {h : am_H} (w6 : wr x6 = x6') (k1 : K10 h a0) : rn m_X12_saysSquare 211 [.ref a0, .int (mI x1), .int (mI x2), .int (mI x3), v4, .int (mI x5), .int (mI x6)] [] h = cl m_X12_saysSquare 224 [.ref a0, .int (mI x1), .int (mI x2), .int (mI x3), v4, .int (mI x5), .int (mI x6)] [] (rn m_X12_saysNumber 0 [.ref a0, .int (mI 64), .int (mI ((max x6' (-x6')) - 1)), am_J, am_J, am_J] [] h) := by
  refine (tq_aload_n i_X12_saysSquare_211 rfl (isA_ref _) rfl).trans ?_
  refine (tq_bipush i_X12_saysSquare_212 rfl).trans ?_
  refine (tq_iload i_X12_saysSquare_214 rfl rfl).trans ?_
  refine (tq_abs i_X12_saysSquare_216 w6 (Nat.le_of_ble_eq_true rfl) rfl).trans ?_
  refine (tq_iconst i_X12_saysSquare_219 rfl).trans ?_
  refine (tq_isub i_X12_saysSquare_220 rfl).trans ?_
  exact c_X12_saysNumber i_X12_saysSquare_221 (K10_s k1) (ltd d_X12_saysSquare (by decide)) stOk_0 rfl
theorem i_X12_saysSquare_224 : am_i m_X12_saysSquare 224 = some (224, .iinc 5 (-1), 3, [], 0) := rfl
theorem i_X12_saysSquare_227 : am_i m_X12_saysSquare 227 = some (227, .goto (-94), 3, [], 0) := rfl
theorem b_X12_saysSquare_224 {a0 : Nat} {x1 x2 x3 x5 : Int} {v4 v6 : Value} {h : am_H} : rn m_X12_saysSquare 224 [.ref a0, .int (mI x1), .int (mI x2), .int (mI x3), v4, .int (mI x5), v6] [] h = rn m_X12_saysSquare 133 [.ref a0, .int (mI x1), .int (mI x2), .int (mI x3), (am_k1 v4), .int (mI (x5 + (-1))), v6] [] h := by
  refine (tq_iinc (L' := [.ref a0, .int (mI x1), .int (mI x2), .int (mI x3), (am_k1 v4), .int (mI (x5 + (-1))), v6]) i_X12_saysSquare_224 rfl rfl rfl).trans ?_
  refine (tq_goto (pc' := 133) i_X12_saysSquare_227 (by decide)).trans ?_
  rfl
theorem sLv_ok {M Lv : Nat} {X Y l : Int} {f : Int → Int} (hl : 0 ≤ l ∧ l < 16) (hX : 0 ≤ X ∧ X ≤ 12) (hY : 0 ≤ Y ∧ Y ≤ 12) (hf : ∀ k, 0 ≤ k → k < 16 → -1020 ≤ f k ∧ f k ≤ 1020) (nL : M + 22 < Lv) : ∀ (n : Nat) (h : am_H) (A : cA) (e : Nat) (v4 v6 : Value), (n : Int) ≤ l + 1 → fA h M 32 = some Lv → MR h M A → sh h Lv = (1, 0) → gn h Lv = 256 → (∀ k, 0 ≤ k → k < 16 → gZ h Lv (16 * Y + X + ip (rowp k)) = f k) → Ft A e (13 * n) (20 * n) → ∃ h', rn m_X12_saysSquare 133 [.ref M, .int (mI X), .int (mI Y), .int (mI l), v4, .int (mI ((n : Int) - 1)), v6] [] h = some (.inl none, h') ∧ Ms h h' M A (evW f l n)
  | 0, h, A, e, v4, v6, hn, eL, q, sL, gL, hh, ft => by
    have st := b_X12_saysSquare_133 (a0 := M) (a0_level := Lv) (x1 := X) (x2 := Y) (x3 := l) (x5 := ((0 : Nat) : Int) - 1) (v4 := v4) (v6 := v6) (h := h) (wr_id (by omega) (by omega)) q.1 eL
    rw [if_pos (by omega)] at st
    exact ⟨h, st, Ms_nil q⟩
  | n + 1, h, A, e, v4, v6, hn, eL, q, sL, gL, hh, ft => by
    have en : ((n + 1 : Nat) : Int) - 1 = n := by omega
    have rb := rowp_b (k := n) ⟨by omega, by omega⟩
    have fb := hf n (by omega) (by omega)
    have wn : wr (n : Int) = n := wr_id (by omega) (by omega)
    have wl : wr l = l := wr_id (by omega) (by omega)
    have wp : wr (rowp n) = rowp n := wr_id (by omega) (by omega)
    rw [en]
    have st := b_X12_saysSquare_133 (a0 := M) (a0_level := Lv) (x1 := X) (x2 := Y) (x3 := l) (x5 := (n : Int)) (v4 := v4) (v6 := v6) (h := h) wn q.1 eL
    have wi : wr (16 * (Y + rowp n / 4) + X + rowp n % 4) = 16 * Y + X + ip (rowp n) := by rw [wr_id (by omega) (by omega)]; unfold ip; omega
    have st' := b_X12_saysSquare_161 (a0 := M) (as2 := Lv) (n_as2 := 256) (x1 := X) (x2 := Y) (x3 := l) (x5 := (n : Int)) (xs0 := rowp n) (xs1 := 16 * (Y + rowp n / 4) + X) (v4 := v4) (v6 := v6) (h := h) wl wn wp gL sL
    rw [tmd rb.1, wi] at st'
    have st' := st' (by unfold ip; omega) q.1
    rw [if_neg (by omega), placeOf_ok ⟨by omega, by omega⟩, cl_v, b_X12_saysSquare_150 wp, tdv rb.1, placeOf_ok ⟨by omega, by omega⟩, cl_v, st', hh n (by omega) (by omega), bZ_congr (q := f n ≠ 0) Iff.rfl] at st
    have nn := n_evN64 fb
    -- is it a level
    have one : ∃ h1, rn m_X12_saysSquare 133 [.ref M, .int (mI X), .int (mI Y), .int (mI l), v4, .int (mI (n : Int)), v6] [] h = rn m_X12_saysSquare 192 [.ref M, .int (mI X), .int (mI Y), .int (mI l), v4, .int (mI (n : Int)), .int (mI (f n))] [] h1 ∧ Ms h h1 M A (if (n : Int) = l then [] else [(48 + (n : Int), decide (f n ≠ 0))]) ∧ Ft (runA A (if (n : Int) = l then [] else [(48 + (n : Int), decide (f n ≠ 0))])) (e + (if (n : Int) = l then [] else [(48 + (n : Int), decide (f n ≠ 0))] : List (Int × Bool)).length) (13 * n + 12) (20 * (n + 1)) := by
      by_cases g : (n : Int) = l
      · rw [if_pos g] at st
        rw [if_pos g]
        exact ⟨h, st, Ms_nil q, Ft_mono ft (by omega) (by omega)⟩
      · rw [if_neg g] at st
        rw [if_neg g]
        obtain ⟨h1, e1, r1⟩ := saysP (x1 := 48 + n) (p := f n ≠ 0) (wr_id (by omega) (by omega)) q (Ft_mono ft (by omega) (by omega)) (by omega)
        rw [e1, cl_n] at st
        exact ⟨h1, st, r1, Ft_b (by omega) (Ft_mono ft (by omega) (by omega))⟩
    obtain ⟨h1, e1, r1, f1⟩ := one
    have wf : wr (f n) = f n := wr_id (by omega) (by omega)
    have st1 := b_X12_saysSquare_192 (a0 := M) (x1 := X) (x2 := Y) (x3 := l) (x5 := (n : Int)) (x6 := f n) (v4 := v4) (h := h1) wf r1.2.1
    have two : ∃ (h2 : am_H), rn m_X12_saysSquare 192 [.ref M, .int (mI X), .int (mI Y), .int (mI l), v4, .int (mI (n : Int)), .int (mI (f n))] [] h1 = rn m_X12_saysSquare 133 [.ref M, .int (mI X), .int (mI Y), .int (mI l), am_k1 v4, .int (mI ((n : Int) - 1)), .int (mI (f n))] [] h2 ∧ Ms h h2 M A (evX f l n) ∧ Ft (runA A (evX f l n)) (e + (evX f l n).length) (13 * n) (20 * n) := by
      unfold evX
      by_cases z : f n = 0
      · rw [if_pos z, b_X12_saysSquare_224] at st1
        rw [if_pos z, List.append_nil]
        exact ⟨h1, st1, r1, Ft_mono f1 (by omega) (by omega)⟩
      · rw [if_neg z, bZ_congr (q := f n < 0) (by omega)] at st1
        rw [if_neg z]
        obtain ⟨h2, e2, r2⟩ := saysPP (p := f n < 0) r1.2 (Ft_mono f1 (by omega) (by omega))
        have f2 := Ft_p (b := decide (f n < 0)) (Ft_mono f1 (Nat.le_refl _) (show 20 * n + 19 + 1 ≤ 20 * (n + 1) by omega))
        have st2 := b_X12_saysSquare_211 (a0 := M) (x1 := X) (x2 := Y) (x3 := l) (x5 := (n : Int)) (x6 := f n) (v4 := v4) (h := h2) wf r2.2.1
        have ia : max (f n) (-(f n)) = iabs (f n) := rfl
        rw [ia] at st2
        obtain ⟨h3, e3, r3⟩ := saysNumber_ok (c := 64) (n := iabs (f n) - 1) r2.2 (Ft_mono f2 (by omega) (by omega)) (by decide) (by unfold iabs; omega)
        rw [e2, cl_n, st2, e3, cl_n, b_X12_saysSquare_224] at st1
        have r4 : Ms h h3 M A ((if (n : Int) = l then [] else [(48 + (n : Int), decide (f n ≠ 0))]) ++ ([(-1, decide (f n < 0))] ++ evN 64 (iabs (f n) - 1))) := Ms_tr r1 (Ms_tr r2 r3)
        refine ⟨h3, st1, r4, ?_⟩
        have f3 := Ft_run (nc := 13 * n) (np := 20 * n) (evN 64 (iabs (f n) - 1)) (Ft_mono f2 (by omega) (by omega))
        rw [runA_app, List.length_append, ← Nat.add_assoc]
        have e9 : (-1, decide (f n < 0)) :: evN 64 (iabs (f n) - 1) = [((-1 : Int), decide (f n < 0))] ++ evN 64 (iabs (f n) - 1) := rfl
        rw [e9, runA_app, List.length_append, ← Nat.add_assoc]
        exact f3
    obtain ⟨h2, e2, r2, f2⟩ := two
    obtain ⟨h3, e3, r3⟩ := sLv_ok hl hX hY hf nL n h2 _ _ (am_k1 v4) (.int (mI (f n))) (by omega) ((md_fA r2.1 (SM_f (by decide))).trans eL) r2.2 ((md_sh r2.1 _).trans sL) ((md_gn r2.1 _).trans gL) (fun k k0 k1 => (md_gZ r2.1 (SM_n (by omega)) _).trans (hh k k0 k1)) f2
    exact ⟨h3, e1.trans (e2.trans e3), Ms_tr r2 r3⟩
theorem sLP_ok {h : am_H} {M e : Nat} {A : cA} {X Y l : Int} {v6 : Value} (q : MR h M A) (hl : 0 ≤ l ∧ l < 16) (f : Ft A e 4 0) : ∃ (h' : am_H) (v4 v6' : Value), rn m_X12_saysSquare 77 [.ref M, .int (mI X), .int (mI Y), .int (mI l), .int (mI 1), .int (mI 3), v6] [] h = rn m_X12_saysSquare 133 [.ref M, .int (mI X), .int (mI Y), .int (mI l), v4, .int (mI l), v6'] [] h' ∧ Ms h h' M A (evLP l) := by
  have step : ∀ (i : Nat) (h : am_H) (A : cA) (e n : Nat) (d c : Int) (v6 : Value), i < 4 → MR h M A → Ft A e (n + 1) 0 → c = 32 + d → (0 ≤ c ∧ c < 70) → ∃ h', rn m_X12_saysSquare 77 [.ref M, .int (mI X), .int (mI Y), .int (mI l), .int (mI d), .int (mI (i : Int)), v6] [] h = rn m_X12_saysSquare 77 [.ref M, .int (mI X), .int (mI Y), .int (mI l), .int (mI (2 * d + l / 2 ^ i % 2)), .int (mI ((i : Int) + -1)), .int (mI (l / 2 ^ i % 2))] [] h' ∧ Ms h h' M A [(c, decide (l / 2 ^ i % 2 = 1))] ∧ Ft (runA A [(c, decide (l / 2 ^ i % 2 = 1))]) (e + 1) n 0 := by
    intro i h A e n d c v6 hi q f hc hc2
    have st := b_X12_saysSquare_77 (a0 := M) (k_90 := i) (x1 := X) (x2 := Y) (x3 := l) (x4 := d) (x5 := (i : Int)) (v6 := v6) (h := h) (wr_id (by omega) (by omega)) (wr_id (by omega) (by omega)) (fun _ _ => rfl) (fun _ _ => by omega) q.1
    have pb := pw_b (m := l) hl.1 i
    rw [if_neg (by omega), if_neg (by omega), wr_id (z := l / 2 ^ i) (by omega) (by omega), pw1, bZ_congr (q := l / 2 ^ i % 2 = 1) (by omega)] at st
    obtain ⟨h1, e1, r1⟩ := saysP (x1 := 32 + d) (c := c) (p := l / 2 ^ i % 2 = 1) (by rw [← hc]; exact wr_id (by omega) (by omega)) q (Ft_mono f (by omega) (by omega)) hc2
    rw [e1, cl_n, b_X12_saysSquare_115] at st
    exact ⟨h1, st, r1, Ft_b hc2.1 f⟩
  have p3 : l / 2 ^ 3 = l / 8 := rfl
  have p2 : l / 2 ^ 2 = l / 4 := rfl
  have p1 : l / 2 ^ 1 = l / 2 := rfl
  have p0 : l / 2 ^ 0 = l := by rw [Int.pow_zero, Int.ediv_one]
  obtain ⟨h1, e1, r1, f1⟩ := step 3 h A e 3 1 33 v6 (by decide) q f (by omega) (by omega)
  rw [p3] at e1 r1 f1
  obtain ⟨h2, e2, r2, f2⟩ := step 2 h1 _ _ 2 (2 * 1 + l / 8 % 2) (34 + l / 8) (.int (mI (l / 8 % 2))) (by decide) r1.2 f1 (by omega) (by omega)
  rw [p2] at e2 r2 f2
  obtain ⟨h3, e3, r3, f3⟩ := step 1 h2 _ _ 1 (2 * (2 * 1 + l / 8 % 2) + l / 4 % 2) (36 + l / 4) (.int (mI (l / 4 % 2))) (by decide) r2.2 f2 (by omega) (by omega)
  rw [p1] at e3 r3 f3
  obtain ⟨h4, e4, r4, f4⟩ := step 0 h3 _ _ 0 (2 * (2 * (2 * 1 + l / 8 % 2) + l / 4 % 2) + l / 2 % 2) (40 + l / 2) (.int (mI (l / 2 % 2))) (by decide) r3.2 f3 (by omega) (by omega)
  rw [p0] at e4 r4 f4
  have st5 := b_X12_saysSquare_77 (a0 := M) (k_90 := 0) (x1 := X) (x2 := Y) (x3 := l) (x4 := 2 * (2 * (2 * (2 * 1 + l / 8 % 2) + l / 4 % 2) + l / 2 % 2) + l % 2) (x5 := ((0 : Nat) : Int) + -1) (v6 := .int (mI (l % 2))) (h := h4) (wr_id (by omega) (by omega)) (wr_id (by omega) (by omega)) (fun g => absurd (by omega) g) (fun _ _ => by omega) r4.2.1
  rw [if_pos (by omega)] at st5
  exact ⟨h4, _, _, e1.trans (e2.trans (e3.trans (e4.trans st5))), Ms_tr r1 (Ms_tr r2 (Ms_tr r3 r4))⟩
theorem sQ_ok {h : am_H} {M Lv e : Nat} {A : cA} {X Y : Int} {f : Int → Int} (q : MR h M A) (eL : fA h M 32 = some Lv) (sL : sh h Lv = (1, 0)) (gL : gn h Lv = 256) (nL : M + 22 < Lv) (hX : 0 ≤ X ∧ X ≤ 12) (hY : 0 ≤ Y ∧ Y ≤ 12) (hf : ∀ k, 0 ≤ k → k < 16 → -1020 ≤ f k ∧ f k ≤ 1020) (hh : ∀ k, 0 ≤ k → k < 16 → gZ h Lv (16 * Y + X + ip (rowp k)) = f k) (ft : Ft A e 213 320) : ∃ h', rn m_X12_saysSquare 0 [.ref M, .int (mI X), .int (mI Y), am_J, am_J, am_J, am_J] [] h = some (.inl none, h') ∧ Ms h h' M A (evQ f) := by
  have lb := lst_b f 16
  rw [b_X12_saysSquare_0]
  have blk : ∀ (u i : Int), 0 ≤ i → i ≤ 16 → -1 ≤ u → u < 16 → rn m_X12_saysSquare 5 [.ref M, .int (mI X), .int (mI Y), .int (mI u), .int (mI i), am_J, am_J] [] h = if 16 ≤ i then cl m_X12_saysSquare 71 [.ref M, .int (mI X), .int (mI Y), .int (mI u), .int (mI i), am_J, am_J] [] (rn m_X12_says 0 [.ref M, .int (mI 7), .int (mI (bZ (u ≠ -1))), am_J, am_J] [] h) else rn m_X12_saysSquare 5 [.ref M, .int (mI X), .int (mI Y), .int (mI (if f i = 0 then u else i)), .int (mI (i + 1)), am_J, am_J] [] h := by
    intro u i i0 i1 u0 u1
    have st := b_X12_saysSquare_5 (a0 := M) (a0_level := Lv) (x1 := X) (x2 := Y) (x3 := u) (x4 := i) (v5 := am_J) (v6 := am_J) (h := h) (wr_id (by omega) (by omega)) (wr_id (by omega) (by omega)) q.1 eL
    by_cases c : 16 ≤ i
    · rw [if_pos c] at st
      rw [if_pos c]
      exact st
    · have rb := rowp_b (k := i) ⟨i0, by omega⟩
      have wp : wr (rowp i) = rowp i := wr_id (by omega) (by omega)
      have wi : wr (16 * (Y + rowp i / 4) + X + rowp i % 4) = 16 * Y + X + ip (rowp i) := by rw [wr_id (by omega) (by omega)]; unfold ip; omega
      have st' := b_X12_saysSquare_35 (a0 := M) (as2 := Lv) (n_as2 := 256) (x1 := X) (x2 := Y) (x3 := u) (x4 := i) (xs0 := rowp i) (xs1 := 16 * (Y + rowp i / 4) + X) (v5 := am_J) (v6 := am_J) (h := h) wp gL sL
      rw [tmd rb.1, wi] at st'
      have st' := st' (by unfold ip; omega)
      rw [if_neg c, placeOf_ok ⟨i0, by omega⟩, cl_v, b_X12_saysSquare_24 wp, tdv rb.1, placeOf_ok ⟨i0, by omega⟩, cl_v, st', hh i i0 (by omega)] at st
      rw [if_neg c]
      exact st
  refine lp (m := m_X12_saysSquare) (pc := 5) (L := fun i (u : Int) => [.ref M, .int (mI X), .int (mI Y), .int (mI u), .int (mI i), am_J, am_J]) (N := 16) (P := fun r => ∃ h', r = some (.inl none, h') ∧ Ms h h' M A (evQ f)) (fun i u h2 => 0 ≤ i ∧ h2 = h ∧ u = lst f i.toNat) ?_ ?_ 0 (-1) h (by omega) ⟨by omega, rfl, rfl⟩
  · intro i u h2 hi ⟨i0, eh, eu⟩
    subst eh
    have lb := lst_b f i.toNat
    refine ⟨_, h2, (blk u i i0 (by omega) (by omega) (by omega)).trans (if_neg (by omega)), by omega, rfl, ?_⟩
    rw [lst_succ i0, eu]
  · intro u h2 ⟨i0, eh, eu⟩
    subst eh
    have eu : u = lst f 16 := eu
    subst eu
    have st := blk (lst f 16) 16 (by omega) (by omega) lb.1 (by omega)
    rw [if_pos (by omega)] at st
    obtain ⟨h1, e1, r1⟩ := saysP (x1 := 7) (p := lst f 16 ≠ -1) (wr_id (by omega) (by omega)) q (Ft_mono ft (by omega) (by omega)) (by omega)
    rw [e1, cl_n, b_X12_saysSquare_71] at st
    unfold evQ
    by_cases z : lst f 16 = -1
    · have st1 := b_X12_saysSquare_77 (a0 := M) (k_90 := 0) (x1 := X) (x2 := Y) (x3 := lst f 16) (x4 := 1) (x5 := 3) (v6 := am_J) (h := h1) (wr_id (by omega) (by omega)) (wr_id (by omega) (by omega)) (fun _ g => absurd z g) (fun _ _ => by omega) r1.2.1
      rw [if_neg (by omega), if_pos z] at st1
      have st2 := b_X12_saysSquare_133 (a0 := M) (a0_level := Lv) (x1 := X) (x2 := Y) (x3 := lst f 16) (x5 := lst f 16) (v4 := .int (mI 1)) (v6 := am_J) (h := h1) (wr_id (by omega) (by omega)) r1.2.1 ((md_fA r1.1 (SM_f (by decide))).trans eL)
      rw [if_pos (by omega)] at st2
      rw [if_pos z]
      exact ⟨h1, st.trans (st1.trans st2), r1⟩
    · rw [if_neg z]
      have f1 := Ft_b (c := 7) (b := decide (lst f 16 ≠ -1)) (by decide) (Ft_mono ft (show 212 + 1 ≤ 213 by omega) (Nat.le_refl _))
      obtain ⟨h3, v4, v6', e3, r3⟩ := sLP_ok (l := lst f 16) (X := X) (Y := Y) (v6 := am_J) r1.2 (by omega) (Ft_mono f1 (by omega) (by omega))
      have f3 : Ft (runA (runA A [(7, decide (lst f 16 ≠ -1))]) (evLP (lst f 16))) (e + 1 + (evLP (lst f 16)).length) 208 320 := Ft_run (evLP (lst f 16)) (Ft_mono f1 (by
        unfold evLP
        simp only [nC]
        rw [if_neg (by omega), if_neg (by omega), if_neg (by omega), if_neg (by omega)]
        omega) (by
        unfold evLP
        simp only [nP]
        rw [if_neg (by omega), if_neg (by omega), if_neg (by omega), if_neg (by omega)]
        omega))
      have m3 := Md_tr r1.1 r3.1
      obtain ⟨h4, e4, r4⟩ := sLv_ok (l := lst f 16) (by omega) hX hY hf nL (lst f 16 + 1).toNat h3 _ _ v4 v6' (by omega) ((md_fA m3 (SM_f (by decide))).trans eL) r3.2 ((md_sh m3 _).trans sL) ((md_gn m3 _).trans gL) (fun k k0 k1 => (md_gZ m3 (SM_n (by omega)) _).trans (hh k k0 k1)) (Ft_mono f3 (by omega) (by omega))
      rw [show (((lst f 16 + 1).toNat : Nat) : Int) - 1 = lst f 16 by omega] at e4
      have r5 : Ms h2 h4 M A ([(7, decide (lst f 16 ≠ -1))] ++ (evLP (lst f 16) ++ evW f (lst f 16) (lst f 16 + 1).toNat)) := Ms_tr r1 (Ms_tr r3 r4)
      exact ⟨h4, st.trans (e3.trans e4), r5⟩
