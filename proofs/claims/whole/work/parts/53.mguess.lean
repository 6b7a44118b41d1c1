/-! ===== the model's guesses ===== -/
theorem i_X12_border_0 : am_i m_X12_border 0 = some (0, .iload_n 1, 1, [], 0) := rfl
theorem i_X12_border_1 : am_i m_X12_border 1 = some (1, .ifCond .lt 8, 3, [], 0) := rfl
theorem i_X12_border_4 : am_i m_X12_border 4 = some (4, .iload_n 2, 1, [], 0) := rfl
theorem i_X12_border_5 : am_i m_X12_border 5 = some (5, .iload_n 3, 1, [], 0) := rfl
theorem i_X12_border_6 : am_i m_X12_border 6 = some (6, .if_icmp .ge 9, 3, [], 0) := rfl
theorem i_X12_border_9 : am_i m_X12_border 9 = some (9, .sipush 128, 3, [], 128) := rfl
theorem i_X12_border_12 : am_i m_X12_border 12 = some (12, .goto 11, 3, [], 0) := rfl
theorem i_X12_border_15 : am_i m_X12_border 15 = some (15, .aload_n 0, 1, [], 0) := rfl
theorem i_X12_border_16 : am_i m_X12_border 16 = some (16, .bipush 16, 2, [], 16) := rfl
theorem i_X12_border_18 : am_i m_X12_border 18 = some (18, .iload_n 2, 1, [], 0) := rfl
theorem i_X12_border_19 : am_i m_X12_border 19 = some (19, .imul, 1, [], 0) := rfl
theorem i_X12_border_20 : am_i m_X12_border 20 = some (20, .iload_n 1, 1, [], 0) := rfl
theorem i_X12_border_21 : am_i m_X12_border 21 = some (21, .iadd, 1, [], 0) := rfl
theorem i_X12_border_22 : am_i m_X12_border 22 = some (22, .iaload, 1, [], 0) := rfl
theorem i_X12_border_23 : am_i m_X12_border 23 = some (23, .ireturn, 1, [], 0) := rfl
theorem b_X12_border_0 {a0 n_a0 : Nat} {x1 x2 x3 x1' x2' x3' : Int} {h : am_H} (w1 : wr x1 = x1') (w2 : wr x2 = x2') (w3 : wr x3 = x3') (n1 : gn h a0 = n_a0) (s2 : sh h a0 = (1, 0)) (g3 : (¬ (x1' < 0)) → (x3' ≤ x2') → (0 ≤ wr ((16 * x2) + x1) ∧ wr ((16 * x2) + x1) < (n_a0 : Int))) : rn m_X12_border 0 [.ref a0, .int (mI x1), .int (mI x2), .int (mI x3)] [] h = some (.inl (some (.int (mI (if x1' < 0 then (128 : Int) else (if x3' ≤ x2' then (gZ h a0 (wr ((16 * x2) + x1)) : Int) else 128))))), h) := by
  refine (tq_iload_n i_X12_border_0 rfl rfl).trans ?_
  refine (tq_if_lt (pt := 9) i_X12_border_1 w1 (by decide) rfl).trans ?_
  refine Eq.trans (b := if x1' < 0 then rn m_X12_border 23 [.ref a0, .int (mI x1), .int (mI x2), .int (mI x3)] [.int (mI 128)] h else rn m_X12_border 23 [.ref a0, .int (mI x1), .int (mI x2), .int (mI x3)] [.int (mI (if x3' ≤ x2' then (gZ h a0 (wr ((16 * x2) + x1)) : Int) else 128))] h) (ite_congr rfl (fun c1 => ?_) (fun c1 => ?_)) ?_
  · refine (tq_sipush i_X12_border_9 rfl).trans ?_
    refine (tq_goto (pc' := 23) i_X12_border_12 (by decide)).trans ?_
    rfl
  · refine (tq_iload_n i_X12_border_4 rfl rfl).trans ?_
    refine (tq_iload_n i_X12_border_5 rfl rfl).trans ?_
    refine (tq_icmp_ge (pt := 15) i_X12_border_6 w2 w3 (by decide) rfl).trans ?_
    refine Eq.trans (b := if x3' ≤ x2' then rn m_X12_border 23 [.ref a0, .int (mI x1), .int (mI x2), .int (mI x3)] [.int (mI (gZ h a0 (wr ((16 * x2) + x1))))] h else rn m_X12_border 23 [.ref a0, .int (mI x1), .int (mI x2), .int (mI x3)] [.int (mI 128)] h) (ite_congr rfl (fun c2 => ?_) (fun c2 => ?_)) ?_
    · refine (tq_aload_n i_X12_border_15 rfl (isA_ref _) rfl).trans ?_
      refine (tq_bipush i_X12_border_16 rfl).trans ?_
      refine (tq_iload_n i_X12_border_18 rfl rfl).trans ?_
      refine (tq_imul i_X12_border_19 rfl).trans ?_
      refine (tq_iload_n i_X12_border_20 rfl rfl).trans ?_
      refine (tq_iadd i_X12_border_21 rfl).trans ?_
      refine (tq_iaload i_X12_border_22 s2 (by decide) rfl (g3 c1 c2).1 (lt_gn n1 (g3 c1 c2).2) rfl).trans ?_
      rfl
    · refine (tq_sipush i_X12_border_9 rfl).trans ?_
      refine (tq_goto (pc' := 23) i_X12_border_12 (by decide)).trans ?_
      rfl
    exact ite_I
  refine Eq.trans ite_I ?_
  exact tq_ireturn i_X12_border_23 r_X12_border rfl
theorem border_ok {h : am_H} {a n : Nat} {x y t x' y' t' : Int} (w1 : wr x = x') (w2 : wr y = y') (w3 : wr t = t') (n1 : gn h a = n) (s : sh h a = (1, 0)) (hn : 256 ≤ (n : Int)) (g : (-1 ≤ x' ∧ x' < 16) ∧ (-1 ≤ y' ∧ y' < 16) ∧ 0 ≤ t') : rn m_X12_border 0 [.ref a, .int (mI x), .int (mI y), .int (mI t)] [] h = some (.inl (some (.int (mI (bord (gZ h a) t' x' y')))), h) := by
  have e : wr (16 * y + x) = 16 * y' + x' := by
    rw [wr_lin, w1, w2]
    exact wr_id (by omega) (by omega)
  rw [b_X12_border_0 w1 w2 w3 n1 s (fun _ _ => by rw [e]; omega), e]
  unfold bord
  by_cases c1 : x' < 0
  · rw [if_pos c1, if_pos (Or.inl c1)]
  · rw [if_neg c1]
    by_cases c2 : t' ≤ y'
    · rw [if_pos c2, if_neg (by omega)]
    · rw [if_neg c2, if_pos (by omega)]
theorem wr_tp (sl y : Int) : wr (tp sl y) = tp sl y := by have := tp_b sl y; exact wr_id (by omega) (by omega)
theorem top12_ok {x0 x1 x0' x1' : Int} {h : am_H} (w0 : wr x0 = x0') (w1 : wr x1 = x1') (g : x1' = 1 ∨ x1' = 2) : rn m_X12_top 0 [.int (mI x0), .int (mI x1)] [] h = some (.inl (some (.int (mI (tp x1' x0')))), h) := by
  rw [b_X12_top_0 w0 w1]
  have e : (if ¬ x1' = 2 then 0 else (if x0' < 8 then 0 else 8)) = tp x1' x0' := by
    unfold tp
    repeat' split
    all_goals omega
  rw [e]
def qr (x y : Int) : Int := 4 * (y / 4 % 4) + x / 4 % 4
theorem wr_qr (x y : Int) : wr (qr x y) = qr x y := by unfold qr; exact wr_id (by omega) (by omega)
theorem square12_ok {x0 x1 x0' x1' : Int} {h : am_H} (w0 : wr x0 = x0') (w1 : wr x1 = x1') (g : 0 ≤ x0' ∧ x0' < 16) (g2 : 0 ≤ x1' ∧ x1' < 16) : rn m_X12_square 0 [.int (mI x0), .int (mI x1)] [] h = some (.inl (some (.int (mI (qr x0' x1')))), h) := by
  rw [b_X12_square_0 w0 w1, tdv g.1, tdv g2.1]
  rw [show 4 * (x1' / 4) + x0' / 4 = qr x0' x1' by unfold qr; omega]
theorem i_X12_at_0 : am_i m_X12_at 0 = some (0, .aload_n 0, 1, [], 0) := rfl
theorem i_X12_at_1 : am_i m_X12_at 1 = some (1, .bipush 16, 2, [], 16) := rfl
theorem i_X12_at_3 : am_i m_X12_at 3 = some (3, .iload_n 2, 1, [], 0) := rfl
theorem i_X12_at_4 : am_i m_X12_at 4 = some (4, .invokestatic 144, 3, [78], 0) := rfl
theorem i_X12_at_7 : am_i m_X12_at 7 = some (7, .imul, 1, [], 0) := rfl
theorem i_X12_at_8 : am_i m_X12_at 8 = some (8, .iload_n 1, 1, [], 0) := rfl
theorem i_X12_at_9 : am_i m_X12_at 9 = some (9, .invokestatic 144, 3, [78], 0) := rfl
theorem i_X12_at_12 : am_i m_X12_at 12 = some (12, .iadd, 1, [], 0) := rfl
theorem i_X12_at_13 : am_i m_X12_at 13 = some (13, .iaload, 1, [], 0) := rfl
theorem i_X12_at_14 : am_i m_X12_at 14 = some (14, .ireturn, 1, [], 0) := rfl
theorem b_X12_at_0 {a0 n_a0 : Nat} {x1 x2 x1' x2' : Int} {h : am_H} (w1 : wr x1 = x1') (w2 : wr x2 = x2') (n1 : gn h a0 = n_a0) (s2 : sh h a0 = (1, 0)) (g3 : 0 ≤ wr ((16 * (ixs x2')) + (ixs x1')) ∧ wr ((16 * (ixs x2')) + (ixs x1')) < (n_a0 : Int)) : rn m_X12_at 0 [.ref a0, .int (mI x1), .int (mI x2)] [] h = some (.inl (some (.int (mI (gZ h a0 (wr ((16 * (ixs x2')) + (ixs x1'))))))), h) := by
  refine (tq_aload_n i_X12_at_0 rfl (isA_ref _) rfl).trans ?_
  refine (tq_bipush i_X12_at_1 rfl).trans ?_
  refine (tq_iload_n i_X12_at_3 rfl rfl).trans ?_
  refine (c_X12_inside i_X12_at_4 (ltd d_X12_at (by decide)) (stOk_2 _ _) rfl).trans ?_
  refine (congrArg (cl _ _ _ _) (inside12_ok w2)).trans ?_
  refine (cl_v _ _ _ _ _ _).trans ?_
  refine (tq_imul i_X12_at_7 rfl).trans ?_
  refine (tq_iload_n i_X12_at_8 rfl rfl).trans ?_
  refine (c_X12_inside i_X12_at_9 (ltd d_X12_at (by decide)) (stOk_2 _ _) rfl).trans ?_
  refine (congrArg (cl _ _ _ _) (inside12_ok w1)).trans ?_
  refine (cl_v _ _ _ _ _ _).trans ?_
  refine (tq_iadd i_X12_at_12 rfl).trans ?_
  refine (tq_iaload i_X12_at_13 s2 (by decide) rfl g3.1 (lt_gn n1 g3.2) rfl).trans ?_
  exact tq_ireturn i_X12_at_14 r_X12_at rfl
theorem at_ok {h : am_H} {a n : Nat} {x y x' y' : Int} (w1 : wr x = x') (w2 : wr y = y') (n1 : gn h a = n) (s : sh h a = (1, 0)) (hn : 256 ≤ (n : Int)) : rn m_X12_at 0 [.ref a, .int (mI x), .int (mI y)] [] h = some (.inl (some (.int (mI (gZ h a (16 * ixs y' + ixs x'))))), h) := by
  have a1 := ixs_b x'
  have a2 := ixs_b y'
  have e : wr ((16 * (ixs y')) + (ixs x')) = 16 * ixs y' + ixs x' := wr_id (by omega) (by omega)
  rw [b_X12_at_0 w1 w2 n1 s (by rw [e]; omega), e]
theorem i_X12_byVector_0 : am_i m_X12_byVector 0 = some (0, .iconst 2, 1, [], 2) := rfl
theorem i_X12_byVector_1 : am_i m_X12_byVector 1 = some (1, .iload_n 1, 1, [], 0) := rfl
theorem i_X12_byVector_2 : am_i m_X12_byVector 2 = some (2, .imul, 1, [], 0) := rfl
theorem i_X12_byVector_3 : am_i m_X12_byVector 3 = some (3, .iload_n 3, 1, [], 0) := rfl
theorem i_X12_byVector_4 : am_i m_X12_byVector 4 = some (4, .iadd, 1, [], 0) := rfl
theorem i_X12_byVector_5 : am_i m_X12_byVector 5 = some (5, .iconst 1, 1, [], 1) := rfl
theorem i_X12_byVector_6 : am_i m_X12_byVector 6 = some (6, .ishr, 1, [], 0) := rfl
theorem i_X12_byVector_7 : am_i m_X12_byVector 7 = some (7, .istore 5, 2, [], 0) := rfl
theorem i_X12_byVector_9 : am_i m_X12_byVector 9 = some (9, .iconst 2, 1, [], 2) := rfl
theorem i_X12_byVector_10 : am_i m_X12_byVector 10 = some (10, .iload_n 2, 1, [], 0) := rfl
theorem i_X12_byVector_11 : am_i m_X12_byVector 11 = some (11, .imul, 1, [], 0) := rfl
theorem i_X12_byVector_12 : am_i m_X12_byVector 12 = some (12, .iload 4, 2, [], 0) := rfl
theorem i_X12_byVector_14 : am_i m_X12_byVector 14 = some (14, .iadd, 1, [], 0) := rfl
theorem i_X12_byVector_15 : am_i m_X12_byVector 15 = some (15, .iconst 1, 1, [], 1) := rfl
theorem i_X12_byVector_16 : am_i m_X12_byVector 16 = some (16, .ishr, 1, [], 0) := rfl
theorem i_X12_byVector_17 : am_i m_X12_byVector 17 = some (17, .istore 6, 2, [], 0) := rfl
theorem i_X12_byVector_19 : am_i m_X12_byVector 19 = some (19, .iload 5, 2, [], 0) := rfl
theorem i_X12_byVector_21 : am_i m_X12_byVector 21 = some (21, .iload_n 3, 1, [], 0) := rfl
theorem i_X12_byVector_22 : am_i m_X12_byVector 22 = some (22, .iconst 1, 1, [], 1) := rfl
theorem i_X12_byVector_23 : am_i m_X12_byVector 23 = some (23, .iand, 1, [], 0) := rfl
theorem i_X12_byVector_24 : am_i m_X12_byVector 24 = some (24, .iadd, 1, [], 0) := rfl
theorem i_X12_byVector_25 : am_i m_X12_byVector 25 = some (25, .istore 7, 2, [], 0) := rfl
theorem i_X12_byVector_27 : am_i m_X12_byVector 27 = some (27, .iload 6, 2, [], 0) := rfl
theorem i_X12_byVector_29 : am_i m_X12_byVector 29 = some (29, .iload 4, 2, [], 0) := rfl
theorem i_X12_byVector_31 : am_i m_X12_byVector 31 = some (31, .iconst 1, 1, [], 1) := rfl
theorem i_X12_byVector_32 : am_i m_X12_byVector 32 = some (32, .iand, 1, [], 0) := rfl
theorem i_X12_byVector_33 : am_i m_X12_byVector 33 = some (33, .iadd, 1, [], 0) := rfl
theorem i_X12_byVector_34 : am_i m_X12_byVector 34 = some (34, .istore 8, 2, [], 0) := rfl
theorem i_X12_byVector_36 : am_i m_X12_byVector 36 = some (36, .aload_n 0, 1, [], 0) := rfl
theorem i_X12_byVector_37 : am_i m_X12_byVector 37 = some (37, .iload 5, 2, [], 0) := rfl
theorem i_X12_byVector_39 : am_i m_X12_byVector 39 = some (39, .iload 6, 2, [], 0) := rfl
theorem i_X12_byVector_41 : am_i m_X12_byVector 41 = some (41, .invokestatic 147, 3, [125], 0) := rfl
theorem i_X12_byVector_44 : am_i m_X12_byVector 44 = some (44, .aload_n 0, 1, [], 0) := rfl
theorem i_X12_byVector_45 : am_i m_X12_byVector 45 = some (45, .iload 7, 2, [], 0) := rfl
theorem i_X12_byVector_47 : am_i m_X12_byVector 47 = some (47, .iload 6, 2, [], 0) := rfl
theorem i_X12_byVector_49 : am_i m_X12_byVector 49 = some (49, .invokestatic 147, 3, [125], 0) := rfl
theorem i_X12_byVector_52 : am_i m_X12_byVector 52 = some (52, .iadd, 1, [], 0) := rfl
theorem i_X12_byVector_53 : am_i m_X12_byVector 53 = some (53, .aload_n 0, 1, [], 0) := rfl
theorem i_X12_byVector_54 : am_i m_X12_byVector 54 = some (54, .iload 5, 2, [], 0) := rfl
theorem i_X12_byVector_56 : am_i m_X12_byVector 56 = some (56, .iload 8, 2, [], 0) := rfl
theorem i_X12_byVector_58 : am_i m_X12_byVector 58 = some (58, .invokestatic 147, 3, [125], 0) := rfl
theorem i_X12_byVector_61 : am_i m_X12_byVector 61 = some (61, .iadd, 1, [], 0) := rfl
theorem i_X12_byVector_62 : am_i m_X12_byVector 62 = some (62, .aload_n 0, 1, [], 0) := rfl
theorem i_X12_byVector_63 : am_i m_X12_byVector 63 = some (63, .iload 7, 2, [], 0) := rfl
theorem i_X12_byVector_65 : am_i m_X12_byVector 65 = some (65, .iload 8, 2, [], 0) := rfl
theorem i_X12_byVector_67 : am_i m_X12_byVector 67 = some (67, .invokestatic 147, 3, [125], 0) := rfl
theorem i_X12_byVector_70 : am_i m_X12_byVector 70 = some (70, .iadd, 1, [], 0) := rfl
theorem i_X12_byVector_71 : am_i m_X12_byVector 71 = some (71, .istore 9, 2, [], 0) := rfl
theorem i_X12_byVector_73 : am_i m_X12_byVector 73 = some (73, .iload 9, 2, [], 0) := rfl
theorem i_X12_byVector_75 : am_i m_X12_byVector 75 = some (75, .iconst 2, 1, [], 2) := rfl
theorem i_X12_byVector_76 : am_i m_X12_byVector 76 = some (76, .iadd, 1, [], 0) := rfl
theorem i_X12_byVector_77 : am_i m_X12_byVector 77 = some (77, .iconst 2, 1, [], 2) := rfl
theorem i_X12_byVector_78 : am_i m_X12_byVector 78 = some (78, .ishr, 1, [], 0) := rfl
theorem i_X12_byVector_79 : am_i m_X12_byVector 79 = some (79, .ireturn, 1, [], 0) := rfl
theorem b_X12_byVector_0 {a0 n_a0 : Nat} {x1 x2 x3 x4 x3' x4' : Int} {h : am_H} (w3 : wr x3 = x3') (w4 : wr x4 = x4') (n1 : gn h a0 = n_a0) (s2 : sh h a0 = (1, 0)) (g3 : 256 ≤ (n_a0 : Int)) : rn m_X12_byVector 0 [.ref a0, .int (mI x1), .int (mI x2), .int (mI x3), .int (mI x4), am_J, am_J, am_J, am_J, am_J] [] h = some (.inl (some (.int (mI ((wr (((((gZ h a0 (16 * ixs (wr ((wr ((2 * x2) + x4)) / 2 ^ 1)) + ixs (wr ((wr ((2 * x1) + x3)) / 2 ^ 1)))) + (gZ h a0 (16 * ixs (wr ((wr ((2 * x2) + x4)) / 2 ^ 1)) + ixs (wr (((wr ((2 * x1) + x3)) / 2 ^ 1) + (x3' % 2 ^ 1)))))) + (gZ h a0 (16 * ixs (wr (((wr ((2 * x2) + x4)) / 2 ^ 1) + (x4' % 2 ^ 1))) + ixs (wr ((wr ((2 * x1) + x3)) / 2 ^ 1))))) + (gZ h a0 (16 * ixs (wr (((wr ((2 * x2) + x4)) / 2 ^ 1) + (x4' % 2 ^ 1))) + ixs (wr (((wr ((2 * x1) + x3)) / 2 ^ 1) + (x3' % 2 ^ 1)))))) + 2)) / 2 ^ 2)))), h) := by
  refine (tq_iconst i_X12_byVector_0 rfl).trans ?_
  refine (tq_iload_n i_X12_byVector_1 rfl rfl).trans ?_
  refine (tq_imul i_X12_byVector_2 rfl).trans ?_
  refine (tq_iload_n i_X12_byVector_3 rfl rfl).trans ?_
  refine (tq_iadd i_X12_byVector_4 rfl).trans ?_
  refine (tq_iconst i_X12_byVector_5 rfl).trans ?_
  refine (tq_ishr (k := 1) i_X12_byVector_6 rfl w_1 (by decide) rfl).trans ?_
  refine (tq_istore (L' := [.ref a0, .int (mI x1), .int (mI x2), .int (mI x3), .int (mI x4), .int (mI ((wr ((2 * x1) + x3)) / 2 ^ 1)), am_J, am_J, am_J, am_J]) i_X12_byVector_7 rfl rfl).trans ?_
  refine (tq_iconst i_X12_byVector_9 rfl).trans ?_
  refine (tq_iload_n i_X12_byVector_10 rfl rfl).trans ?_
  refine (tq_imul i_X12_byVector_11 rfl).trans ?_
  refine (tq_iload i_X12_byVector_12 rfl rfl).trans ?_
  refine (tq_iadd i_X12_byVector_14 rfl).trans ?_
  refine (tq_iconst i_X12_byVector_15 rfl).trans ?_
  refine (tq_ishr (k := 1) i_X12_byVector_16 rfl w_1 (by decide) rfl).trans ?_
  refine (tq_istore (L' := [.ref a0, .int (mI x1), .int (mI x2), .int (mI x3), .int (mI x4), .int (mI ((wr ((2 * x1) + x3)) / 2 ^ 1)), .int (mI ((wr ((2 * x2) + x4)) / 2 ^ 1)), am_J, am_J, am_J]) i_X12_byVector_17 rfl rfl).trans ?_
  refine (tq_iload i_X12_byVector_19 rfl rfl).trans ?_
  refine (tq_iload_n i_X12_byVector_21 rfl rfl).trans ?_
  refine (tq_iconst i_X12_byVector_22 rfl).trans ?_
  refine (tq_imask 1 i_X12_byVector_23 w3 (by decide) (by decide) rfl).trans ?_
  refine (tq_iadd i_X12_byVector_24 rfl).trans ?_
  refine (tq_istore (L' := [.ref a0, .int (mI x1), .int (mI x2), .int (mI x3), .int (mI x4), .int (mI ((wr ((2 * x1) + x3)) / 2 ^ 1)), .int (mI ((wr ((2 * x2) + x4)) / 2 ^ 1)), .int (mI (((wr ((2 * x1) + x3)) / 2 ^ 1) + (x3' % 2 ^ 1))), am_J, am_J]) i_X12_byVector_25 rfl rfl).trans ?_
  refine (tq_iload i_X12_byVector_27 rfl rfl).trans ?_
  refine (tq_iload i_X12_byVector_29 rfl rfl).trans ?_
  refine (tq_iconst i_X12_byVector_31 rfl).trans ?_
  refine (tq_imask 1 i_X12_byVector_32 w4 (by decide) (by decide) rfl).trans ?_
  refine (tq_iadd i_X12_byVector_33 rfl).trans ?_
  refine (tq_istore (L' := [.ref a0, .int (mI x1), .int (mI x2), .int (mI x3), .int (mI x4), .int (mI ((wr ((2 * x1) + x3)) / 2 ^ 1)), .int (mI ((wr ((2 * x2) + x4)) / 2 ^ 1)), .int (mI (((wr ((2 * x1) + x3)) / 2 ^ 1) + (x3' % 2 ^ 1))), .int (mI (((wr ((2 * x2) + x4)) / 2 ^ 1) + (x4' % 2 ^ 1))), am_J]) i_X12_byVector_34 rfl rfl).trans ?_
  refine (tq_aload_n i_X12_byVector_36 rfl (isA_ref _) rfl).trans ?_
  refine (tq_iload i_X12_byVector_37 rfl rfl).trans ?_
  refine (tq_iload i_X12_byVector_39 rfl rfl).trans ?_
  refine (c_X12_at i_X12_byVector_41 (ltd d_X12_byVector (by decide)) (isA_ref _) stOk_0 rfl).trans ?_
  refine (congrArg (cl _ _ _ _) (at_ok rfl rfl n1 s2 g3)).trans ?_
  refine (cl_v _ _ _ _ _ _).trans ?_
  refine (tq_aload_n i_X12_byVector_44 rfl (isA_ref _) rfl).trans ?_
  refine (tq_iload i_X12_byVector_45 rfl rfl).trans ?_
  refine (tq_iload i_X12_byVector_47 rfl rfl).trans ?_
  refine (c_X12_at i_X12_byVector_49 (ltd d_X12_byVector (by decide)) (isA_ref _) (stOk_1 _) rfl).trans ?_
  refine (congrArg (cl _ _ _ _) (at_ok rfl rfl n1 s2 g3)).trans ?_
  refine (cl_v _ _ _ _ _ _).trans ?_
  refine (tq_iadd i_X12_byVector_52 rfl).trans ?_
  refine (tq_aload_n i_X12_byVector_53 rfl (isA_ref _) rfl).trans ?_
  refine (tq_iload i_X12_byVector_54 rfl rfl).trans ?_
  refine (tq_iload i_X12_byVector_56 rfl rfl).trans ?_
  refine (c_X12_at i_X12_byVector_58 (ltd d_X12_byVector (by decide)) (isA_ref _) (stOk_1 _) rfl).trans ?_
  refine (congrArg (cl _ _ _ _) (at_ok rfl rfl n1 s2 g3)).trans ?_
  refine (cl_v _ _ _ _ _ _).trans ?_
  refine (tq_iadd i_X12_byVector_61 rfl).trans ?_
  refine (tq_aload_n i_X12_byVector_62 rfl (isA_ref _) rfl).trans ?_
  refine (tq_iload i_X12_byVector_63 rfl rfl).trans ?_
  refine (tq_iload i_X12_byVector_65 rfl rfl).trans ?_
  refine (c_X12_at i_X12_byVector_67 (ltd d_X12_byVector (by decide)) (isA_ref _) (stOk_1 _) rfl).trans ?_
  refine (congrArg (cl _ _ _ _) (at_ok rfl rfl n1 s2 g3)).trans ?_
  refine (cl_v _ _ _ _ _ _).trans ?_
  refine (tq_iadd i_X12_byVector_70 rfl).trans ?_
  refine (tq_istore (L' := [.ref a0, .int (mI x1), .int (mI x2), .int (mI x3), .int (mI x4), .int (mI ((wr ((2 * x1) + x3)) / 2 ^ 1)), .int (mI ((wr ((2 * x2) + x4)) / 2 ^ 1)), .int (mI (((wr ((2 * x1) + x3)) / 2 ^ 1) + (x3' % 2 ^ 1))), .int (mI (((wr ((2 * x2) + x4)) / 2 ^ 1) + (x4' % 2 ^ 1))), .int (mI ((((gZ h a0 (16 * ixs (wr ((wr ((2 * x2) + x4)) / 2 ^ 1)) + ixs (wr ((wr ((2 * x1) + x3)) / 2 ^ 1)))) + (gZ h a0 (16 * ixs (wr ((wr ((2 * x2) + x4)) / 2 ^ 1)) + ixs (wr (((wr ((2 * x1) + x3)) / 2 ^ 1) + (x3' % 2 ^ 1)))))) + (gZ h a0 (16 * ixs (wr (((wr ((2 * x2) + x4)) / 2 ^ 1) + (x4' % 2 ^ 1))) + ixs (wr ((wr ((2 * x1) + x3)) / 2 ^ 1))))) + (gZ h a0 (16 * ixs (wr (((wr ((2 * x2) + x4)) / 2 ^ 1) + (x4' % 2 ^ 1))) + ixs (wr (((wr ((2 * x1) + x3)) / 2 ^ 1) + (x3' % 2 ^ 1)))))))]) i_X12_byVector_71 rfl rfl).trans ?_
  refine (tq_iload i_X12_byVector_73 rfl rfl).trans ?_
  refine (tq_iconst i_X12_byVector_75 rfl).trans ?_
  refine (tq_iadd i_X12_byVector_76 rfl).trans ?_
  refine (tq_iconst i_X12_byVector_77 rfl).trans ?_
  refine (tq_ishr (k := 2) i_X12_byVector_78 rfl w_2 (by decide) rfl).trans ?_
  exact tq_ireturn i_X12_byVector_79 r_X12_byVector rfl
theorem byVector_ok {h : am_H} {a n : Nat} {x y u v : Int} (s : sh h a = (1, 0)) (n1 : gn h a = n) (hn : 256 ≤ (n : Int)) (hp : pixels (gZ h a)) (hx : -100 ≤ x ∧ x ≤ 100) (hy : -100 ≤ y ∧ y ≤ 100) (hu : -100 ≤ u ∧ u ≤ 100) (hw : -100 ≤ v ∧ v ≤ 100) : rn m_X12_byVector 0 [.ref a, .int (mI x), .int (mI y), .int (mI u), .int (mI v), am_J, am_J, am_J, am_J, am_J] [] h = some (.inl (some (.int (mI (hv (gZ h a) (2 * x + u) (2 * y + v))))), h) := by
  have e1 : wr (2 * x + u) / 2 ^ 1 = (2 * x + u) / 2 := by rw [wr_id (by omega) (by omega), pw1]
  have e2 : wr (2 * y + v) / 2 ^ 1 = (2 * y + v) / 2 := by rw [wr_id (by omega) (by omega), pw1]
  have e3 : (2 * x + u) / 2 + u % 2 ^ 1 = (2 * x + u + 1) / 2 := by rw [pw1]; omega
  have e4 : (2 * y + v) / 2 + v % 2 ^ 1 = (2 * y + v + 1) / 2 := by rw [pw1]; omega
  have f1 : wr ((2 * x + u) / 2) = (2 * x + u) / 2 := wr_id (by omega) (by omega)
  have f2 : wr ((2 * y + v) / 2) = (2 * y + v) / 2 := wr_id (by omega) (by omega)
  have f3 : wr ((2 * x + u + 1) / 2) = (2 * x + u + 1) / 2 := wr_id (by omega) (by omega)
  have f4 : wr ((2 * y + v + 1) / 2) = (2 * y + v + 1) / 2 := wr_id (by omega) (by omega)
  have a1 := ixs_b ((2 * y + v) / 2)
  have a2 := ixs_b ((2 * x + u) / 2)
  have a3 := ixs_b ((2 * y + v + 1) / 2)
  have a4 := ixs_b ((2 * x + u + 1) / 2)
  have b1 := hp (16 * ixs ((2 * y + v) / 2) + ixs ((2 * x + u) / 2)) (by omega) (by omega)
  have b2 := hp (16 * ixs ((2 * y + v) / 2) + ixs ((2 * x + u + 1) / 2)) (by omega) (by omega)
  have b3 := hp (16 * ixs ((2 * y + v + 1) / 2) + ixs ((2 * x + u) / 2)) (by omega) (by omega)
  have b4 := hp (16 * ixs ((2 * y + v + 1) / 2) + ixs ((2 * x + u + 1) / 2)) (by omega) (by omega)
  have st := b_X12_byVector_0 (a0 := a) (x1 := x) (x2 := y) (x3 := u) (x4 := v) (h := h) (wr_id (z := u) (by omega) (by omega)) (wr_id (z := v) (by omega) (by omega)) n1 s hn
  simp only [e1, e2, e3, e4, f1, f2, f3, f4] at st
  rw [st, pw2, wr_id (by omega) (by omega)]
  rfl
theorem i_X12_byBorder_0 : am_i m_X12_byBorder 0 = some (0, .iload_n 1, 1, [], 0) := rfl
theorem i_X12_byBorder_1 : am_i m_X12_byBorder 1 = some (1, .iload_n 3, 1, [], 0) := rfl
theorem i_X12_byBorder_2 : am_i m_X12_byBorder 2 = some (2, .idiv, 1, [], 0) := rfl
theorem i_X12_byBorder_3 : am_i m_X12_byBorder 3 = some (3, .iload_n 3, 1, [], 0) := rfl
theorem i_X12_byBorder_4 : am_i m_X12_byBorder 4 = some (4, .imul, 1, [], 0) := rfl
theorem i_X12_byBorder_5 : am_i m_X12_byBorder 5 = some (5, .istore 6, 2, [], 0) := rfl
theorem i_X12_byBorder_7 : am_i m_X12_byBorder 7 = some (7, .iload_n 2, 1, [], 0) := rfl
theorem i_X12_byBorder_8 : am_i m_X12_byBorder 8 = some (8, .iload_n 3, 1, [], 0) := rfl
theorem i_X12_byBorder_9 : am_i m_X12_byBorder 9 = some (9, .idiv, 1, [], 0) := rfl
theorem i_X12_byBorder_10 : am_i m_X12_byBorder 10 = some (10, .iload_n 3, 1, [], 0) := rfl
theorem i_X12_byBorder_11 : am_i m_X12_byBorder 11 = some (11, .imul, 1, [], 0) := rfl
theorem i_X12_byBorder_12 : am_i m_X12_byBorder 12 = some (12, .istore 7, 2, [], 0) := rfl
theorem i_X12_byBorder_14 : am_i m_X12_byBorder 14 = some (14, .iload_n 2, 1, [], 0) := rfl
theorem i_X12_byBorder_15 : am_i m_X12_byBorder 15 = some (15, .iload 5, 2, [], 0) := rfl
theorem i_X12_byBorder_17 : am_i m_X12_byBorder 17 = some (17, .invokestatic 137, 3, [40], 0) := rfl
theorem i_X12_byBorder_20 : am_i m_X12_byBorder 20 = some (20, .istore 8, 2, [], 0) := rfl
theorem i_X12_byBorder_22 : am_i m_X12_byBorder 22 = some (22, .aload_n 0, 1, [], 0) := rfl
theorem i_X12_byBorder_23 : am_i m_X12_byBorder 23 = some (23, .iload_n 1, 1, [], 0) := rfl
theorem i_X12_byBorder_24 : am_i m_X12_byBorder 24 = some (24, .iload 7, 2, [], 0) := rfl
theorem i_X12_byBorder_26 : am_i m_X12_byBorder 26 = some (26, .iconst 1, 1, [], 1) := rfl
theorem i_X12_byBorder_27 : am_i m_X12_byBorder 27 = some (27, .isub, 1, [], 0) := rfl
theorem i_X12_byBorder_28 : am_i m_X12_byBorder 28 = some (28, .iload 8, 2, [], 0) := rfl
theorem i_X12_byBorder_30 : am_i m_X12_byBorder 30 = some (30, .invokestatic 140, 3, [20], 0) := rfl
theorem i_X12_byBorder_33 : am_i m_X12_byBorder 33 = some (33, .istore 9, 2, [], 0) := rfl
theorem i_X12_byBorder_35 : am_i m_X12_byBorder 35 = some (35, .aload_n 0, 1, [], 0) := rfl
theorem i_X12_byBorder_36 : am_i m_X12_byBorder 36 = some (36, .iload 6, 2, [], 0) := rfl
theorem i_X12_byBorder_38 : am_i m_X12_byBorder 38 = some (38, .iconst 1, 1, [], 1) := rfl
theorem i_X12_byBorder_39 : am_i m_X12_byBorder 39 = some (39, .isub, 1, [], 0) := rfl
theorem i_X12_byBorder_40 : am_i m_X12_byBorder 40 = some (40, .iload_n 2, 1, [], 0) := rfl
theorem i_X12_byBorder_41 : am_i m_X12_byBorder 41 = some (41, .iload 8, 2, [], 0) := rfl
theorem i_X12_byBorder_43 : am_i m_X12_byBorder 43 = some (43, .invokestatic 140, 3, [20], 0) := rfl
theorem i_X12_byBorder_46 : am_i m_X12_byBorder 46 = some (46, .istore 10, 2, [], 0) := rfl
theorem i_X12_byBorder_48 : am_i m_X12_byBorder 48 = some (48, .iload 4, 2, [], 0) := rfl
theorem i_X12_byBorder_50 : am_i m_X12_byBorder 50 = some (50, .tableswitch 93 0 2 #[26, 87, 90], 26, [], 0) := rfl
theorem b_X12_byBorder_0 {a0 n_a0 : Nat} {x1 x2 x3 x4 x5 x1' x2' x3' x4' x5' : Int} {h : am_H} (w1 : wr x1 = x1') (w2 : wr x2 = x2') (w3 : wr x3 = x3') (w4 : wr x4 = x4') (w5 : wr x5 = x5') (g1 : x3' ≠ 0) (g2 : x5' = 1 ∨ x5' = 2) (n3 : gn h a0 = n_a0) (s4 : sh h a0 = (1, 0)) (g5 : 256 ≤ (n_a0 : Int)) (g6 : (-1 ≤ x1' ∧ x1' < 16) ∧ (-1 ≤ (wr (((Int.tdiv x2' x3') * x3) - 1)) ∧ (wr (((Int.tdiv x2' x3') * x3) - 1)) < 16) ∧ 0 ≤ (tp x5' x2')) (g7 : (-1 ≤ (wr (((Int.tdiv x1' x3') * x3) - 1)) ∧ (wr (((Int.tdiv x1' x3') * x3) - 1)) < 16) ∧ (-1 ≤ x2' ∧ x2' < 16) ∧ 0 ≤ (tp x5' x2')) : rn m_X12_byBorder 0 [.ref a0, .int (mI x1), .int (mI x2), .int (mI x3), .int (mI x4), .int (mI x5), am_J, am_J, am_J, am_J, am_J, am_J, am_J] [] h = sw x4' (fun p => rn m_X12_byBorder p [.ref a0, .int (mI x1), .int (mI x2), .int (mI x3), .int (mI x4), .int (mI x5), .int (mI ((Int.tdiv x1' x3') * x3)), .int (mI ((Int.tdiv x2' x3') * x3)), .int (mI (tp x5' x2')), .int (mI (bord (gZ h a0) (tp x5' x2') x1' (wr (((Int.tdiv x2' x3') * x3) - 1)))), .int (mI (bord (gZ h a0) (tp x5' x2') (wr (((Int.tdiv x1' x3') * x3) - 1)) x2')), am_J, am_J] [] h) 143 0 [76, 137, 140] := by
  refine (tq_iload_n i_X12_byBorder_0 rfl rfl).trans ?_
  refine (tq_iload_n i_X12_byBorder_1 rfl rfl).trans ?_
  refine (tq_idiv i_X12_byBorder_2 w1 w3 g1 rfl).trans ?_
  refine (tq_iload_n i_X12_byBorder_3 rfl rfl).trans ?_
  refine (tq_imul i_X12_byBorder_4 rfl).trans ?_
  refine (tq_istore (L' := [.ref a0, .int (mI x1), .int (mI x2), .int (mI x3), .int (mI x4), .int (mI x5), .int (mI ((Int.tdiv x1' x3') * x3)), am_J, am_J, am_J, am_J, am_J, am_J]) i_X12_byBorder_5 rfl rfl).trans ?_
  refine (tq_iload_n i_X12_byBorder_7 rfl rfl).trans ?_
  refine (tq_iload_n i_X12_byBorder_8 rfl rfl).trans ?_
  refine (tq_idiv i_X12_byBorder_9 w2 w3 g1 rfl).trans ?_
  refine (tq_iload_n i_X12_byBorder_10 rfl rfl).trans ?_
  refine (tq_imul i_X12_byBorder_11 rfl).trans ?_
  refine (tq_istore (L' := [.ref a0, .int (mI x1), .int (mI x2), .int (mI x3), .int (mI x4), .int (mI x5), .int (mI ((Int.tdiv x1' x3') * x3)), .int (mI ((Int.tdiv x2' x3') * x3)), am_J, am_J, am_J, am_J, am_J]) i_X12_byBorder_12 rfl rfl).trans ?_
  refine (tq_iload_n i_X12_byBorder_14 rfl rfl).trans ?_
  refine (tq_iload i_X12_byBorder_15 rfl rfl).trans ?_
  refine (c_X12_top i_X12_byBorder_17 (ltd d_X12_byBorder (by decide)) stOk_0 rfl).trans ?_
  refine (congrArg (cl _ _ _ _) (top12_ok w2 w5 g2)).trans ?_
  refine (cl_v _ _ _ _ _ _).trans ?_
  refine (tq_istore (L' := [.ref a0, .int (mI x1), .int (mI x2), .int (mI x3), .int (mI x4), .int (mI x5), .int (mI ((Int.tdiv x1' x3') * x3)), .int (mI ((Int.tdiv x2' x3') * x3)), .int (mI (tp x5' x2')), am_J, am_J, am_J, am_J]) i_X12_byBorder_20 rfl rfl).trans ?_
  refine (tq_aload_n i_X12_byBorder_22 rfl (isA_ref _) rfl).trans ?_
  refine (tq_iload_n i_X12_byBorder_23 rfl rfl).trans ?_
  refine (tq_iload i_X12_byBorder_24 rfl rfl).trans ?_
  refine (tq_iconst i_X12_byBorder_26 rfl).trans ?_
  refine (tq_isub i_X12_byBorder_27 rfl).trans ?_
  refine (tq_iload i_X12_byBorder_28 rfl rfl).trans ?_
  refine (c_X12_border i_X12_byBorder_30 (ltd d_X12_byBorder (by decide)) (isA_ref _) stOk_0 rfl).trans ?_
  refine (congrArg (cl _ _ _ _) (border_ok w1 rfl (wr_tp _ _) n3 s4 g5 g6)).trans ?_
  refine (cl_v _ _ _ _ _ _).trans ?_
  refine (tq_istore (L' := [.ref a0, .int (mI x1), .int (mI x2), .int (mI x3), .int (mI x4), .int (mI x5), .int (mI ((Int.tdiv x1' x3') * x3)), .int (mI ((Int.tdiv x2' x3') * x3)), .int (mI (tp x5' x2')), .int (mI (bord (gZ h a0) (tp x5' x2') x1' (wr (((Int.tdiv x2' x3') * x3) - 1)))), am_J, am_J, am_J]) i_X12_byBorder_33 rfl rfl).trans ?_
  refine (tq_aload_n i_X12_byBorder_35 rfl (isA_ref _) rfl).trans ?_
  refine (tq_iload i_X12_byBorder_36 rfl rfl).trans ?_
  refine (tq_iconst i_X12_byBorder_38 rfl).trans ?_
  refine (tq_isub i_X12_byBorder_39 rfl).trans ?_
  refine (tq_iload_n i_X12_byBorder_40 rfl rfl).trans ?_
  refine (tq_iload i_X12_byBorder_41 rfl rfl).trans ?_
  refine (c_X12_border i_X12_byBorder_43 (ltd d_X12_byBorder (by decide)) (isA_ref _) stOk_0 rfl).trans ?_
  refine (congrArg (cl _ _ _ _) (border_ok rfl w2 (wr_tp _ _) n3 s4 g5 g7)).trans ?_
  refine (cl_v _ _ _ _ _ _).trans ?_
  refine (tq_istore (L' := [.ref a0, .int (mI x1), .int (mI x2), .int (mI x3), .int (mI x4), .int (mI x5), .int (mI ((Int.tdiv x1' x3') * x3)), .int (mI ((Int.tdiv x2' x3') * x3)), .int (mI (tp x5' x2')), .int (mI (bord (gZ h a0) (tp x5' x2') x1' (wr (((Int.tdiv x2' x3') * x3) - 1)))), .int (mI (bord (gZ h a0) (tp x5' x2') (wr (((Int.tdiv x1' x3') * x3) - 1)) x2')), am_J, am_J]) i_X12_byBorder_46 rfl rfl).trans ?_
  refine (tq_iload i_X12_byBorder_48 rfl rfl).trans ?_
  exact tq_switch (dt := 143) (ts := [76, 137, 140]) i_X12_byBorder_50 w4 (by decide) (by decide) (by decide)
theorem i_X12_byBorder_76 : am_i m_X12_byBorder 76 = some (76, .iload_n 3, 1, [], 0) := rfl
theorem i_X12_byBorder_77 : am_i m_X12_byBorder 77 = some (77, .istore 11, 2, [], 0) := rfl
theorem i_X12_byBorder_79 : am_i m_X12_byBorder 79 = some (79, .iconst 0, 1, [], 0) := rfl
theorem i_X12_byBorder_80 : am_i m_X12_byBorder 80 = some (80, .istore 12, 2, [], 0) := rfl
theorem b_X12_byBorder_76 {a0 : Nat} {v1 v2 v4 v5 v9 v10 v11 v12 : Value} {x3 x6 x7 x8 : Int} {h : am_H} : rn m_X12_byBorder 76 [.ref a0, v1, v2, .int (mI x3), v4, v5, .int (mI x6), .int (mI x7), .int (mI x8), v9, v10, v11, v12] [] h = rn m_X12_byBorder 82 [.ref a0, v1, v2, .int (mI x3), v4, v5, .int (mI x6), .int (mI x7), .int (mI x8), v9, (am_k1 v10), .int (mI x3), .int (mI 0)] [] h := by
  refine (tq_iload_n i_X12_byBorder_76 rfl rfl).trans ?_
  refine (tq_istore (L' := [.ref a0, v1, v2, .int (mI x3), v4, v5, .int (mI x6), .int (mI x7), .int (mI x8), v9, (am_k1 v10), .int (mI x3), v12]) i_X12_byBorder_77 rfl rfl).trans ?_
  refine (tq_iconst i_X12_byBorder_79 rfl).trans ?_
  refine (tq_istore (L' := [.ref a0, v1, v2, .int (mI x3), v4, v5, .int (mI x6), .int (mI x7), .int (mI x8), v9, (am_k1 v10), .int (mI x3), .int (mI 0)]) i_X12_byBorder_80 rfl rfl).trans ?_
  rfl
theorem i_X12_byBorder_82 : am_i m_X12_byBorder 82 = some (82, .iload 12, 2, [], 0) := rfl
theorem i_X12_byBorder_84 : am_i m_X12_byBorder 84 = some (84, .iload_n 3, 1, [], 0) := rfl
theorem i_X12_byBorder_85 : am_i m_X12_byBorder 85 = some (85, .if_icmp .ge 45, 3, [], 0) := rfl
theorem i_X12_byBorder_88 : am_i m_X12_byBorder 88 = some (88, .iload 11, 2, [], 0) := rfl
theorem i_X12_byBorder_90 : am_i m_X12_byBorder 90 = some (90, .aload_n 0, 1, [], 0) := rfl
theorem i_X12_byBorder_91 : am_i m_X12_byBorder 91 = some (91, .iload 6, 2, [], 0) := rfl
theorem i_X12_byBorder_93 : am_i m_X12_byBorder 93 = some (93, .iload 12, 2, [], 0) := rfl
theorem i_X12_byBorder_95 : am_i m_X12_byBorder 95 = some (95, .iadd, 1, [], 0) := rfl
theorem i_X12_byBorder_96 : am_i m_X12_byBorder 96 = some (96, .iload 7, 2, [], 0) := rfl
theorem i_X12_byBorder_98 : am_i m_X12_byBorder 98 = some (98, .iconst 1, 1, [], 1) := rfl
theorem i_X12_byBorder_99 : am_i m_X12_byBorder 99 = some (99, .isub, 1, [], 0) := rfl
theorem i_X12_byBorder_100 : am_i m_X12_byBorder 100 = some (100, .iload 8, 2, [], 0) := rfl
theorem i_X12_byBorder_102 : am_i m_X12_byBorder 102 = some (102, .invokestatic 140, 3, [20], 0) := rfl
theorem i_X12_byBorder_105 : am_i m_X12_byBorder 105 = some (105, .aload_n 0, 1, [], 0) := rfl
theorem i_X12_byBorder_106 : am_i m_X12_byBorder 106 = some (106, .iload 6, 2, [], 0) := rfl
theorem i_X12_byBorder_108 : am_i m_X12_byBorder 108 = some (108, .iconst 1, 1, [], 1) := rfl
theorem i_X12_byBorder_109 : am_i m_X12_byBorder 109 = some (109, .isub, 1, [], 0) := rfl
theorem i_X12_byBorder_110 : am_i m_X12_byBorder 110 = some (110, .iload 7, 2, [], 0) := rfl
theorem i_X12_byBorder_112 : am_i m_X12_byBorder 112 = some (112, .iload 12, 2, [], 0) := rfl
theorem i_X12_byBorder_114 : am_i m_X12_byBorder 114 = some (114, .iadd, 1, [], 0) := rfl
theorem i_X12_byBorder_115 : am_i m_X12_byBorder 115 = some (115, .iload 8, 2, [], 0) := rfl
theorem i_X12_byBorder_117 : am_i m_X12_byBorder 117 = some (117, .invokestatic 140, 3, [20], 0) := rfl
theorem i_X12_byBorder_120 : am_i m_X12_byBorder 120 = some (120, .iadd, 1, [], 0) := rfl
theorem i_X12_byBorder_121 : am_i m_X12_byBorder 121 = some (121, .iadd, 1, [], 0) := rfl
theorem i_X12_byBorder_122 : am_i m_X12_byBorder 122 = some (122, .istore 11, 2, [], 0) := rfl
theorem i_X12_byBorder_124 : am_i m_X12_byBorder 124 = some (124, .iinc 12 1, 3, [], 0) := rfl
theorem i_X12_byBorder_127 : am_i m_X12_byBorder 127 = some (127, .goto (-45), 3, [], 0) := rfl
theorem i_X12_byBorder_130 : am_i m_X12_byBorder 130 = some (130, .iload 11, 2, [], 0) := rfl
theorem i_X12_byBorder_132 : am_i m_X12_byBorder 132 = some (132, .iconst 2, 1, [], 2) := rfl
theorem i_X12_byBorder_133 : am_i m_X12_byBorder 133 = some (133, .iload_n 3, 1, [], 0) := rfl
theorem i_X12_byBorder_134 : am_i m_X12_byBorder 134 = some (134, .imul, 1, [], 0) := rfl
theorem i_X12_byBorder_135 : am_i m_X12_byBorder 135 = some (135, .idiv, 1, [], 0) := rfl
theorem i_X12_byBorder_136 : am_i m_X12_byBorder 136 = some (136, .ireturn, 1, [], 0) := rfl
theorem b_X12_byBorder_82 {a0 n_a0 : Nat} {v1 v2 v4 v5 v9 v10 : Value} {x3 x6 x7 x8 x11 x12 x3' x8' x11' x12' : Int} {h : am_H} (w3 : wr x3 = x3') (w8 : wr x8 = x8') (w11 : wr x11 = x11') (w12 : wr x12 = x12') (g1 : (x3' ≤ x12') → (wr (2 * x3) ≠ 0)) (n2 : gn h a0 = n_a0) (s3 : sh h a0 = (1, 0)) (g4 : (¬ (x3' ≤ x12')) → (256 ≤ (n_a0 : Int))) (g5 : (¬ (x3' ≤ x12')) → ((-1 ≤ (wr (x6 + x12)) ∧ (wr (x6 + x12)) < 16) ∧ (-1 ≤ (wr (x7 - 1)) ∧ (wr (x7 - 1)) < 16) ∧ 0 ≤ x8')) (g6 : (¬ (x3' ≤ x12')) → ((-1 ≤ (wr (x6 - 1)) ∧ (wr (x6 - 1)) < 16) ∧ (-1 ≤ (wr (x7 + x12)) ∧ (wr (x7 + x12)) < 16) ∧ 0 ≤ x8')) : rn m_X12_byBorder 82 [.ref a0, v1, v2, .int (mI x3), v4, v5, .int (mI x6), .int (mI x7), .int (mI x8), v9, v10, .int (mI x11), .int (mI x12)] [] h = if x3' ≤ x12' then some (.inl (some (.int (mI (Int.tdiv x11' (wr (2 * x3)))))), h) else rn m_X12_byBorder 82 [.ref a0, v1, v2, .int (mI x3), v4, v5, .int (mI x6), .int (mI x7), .int (mI x8), v9, (am_k1 v10), .int (mI (x11 + ((bord (gZ h a0) x8' (wr (x6 + x12)) (wr (x7 - 1))) + (bord (gZ h a0) x8' (wr (x6 - 1)) (wr (x7 + x12)))))), .int (mI (x12 + 1))] [] h := by
  refine (tq_iload i_X12_byBorder_82 rfl rfl).trans ?_
  refine (tq_iload_n i_X12_byBorder_84 rfl rfl).trans ?_
  refine (tq_icmp_ge (pt := 130) i_X12_byBorder_85 w12 w3 (by decide) rfl).trans ?_
  refine ite_congr rfl (fun c1 => ?_) (fun c1 => ?_)
  · refine (tq_iload i_X12_byBorder_130 rfl rfl).trans ?_
    refine (tq_iconst i_X12_byBorder_132 rfl).trans ?_
    refine (tq_iload_n i_X12_byBorder_133 rfl rfl).trans ?_
    refine (tq_imul i_X12_byBorder_134 rfl).trans ?_
    refine (tq_idiv i_X12_byBorder_135 w11 rfl (g1 c1) rfl).trans ?_
    exact tq_ireturn i_X12_byBorder_136 r_X12_byBorder rfl
  · refine (tq_iload i_X12_byBorder_88 rfl rfl).trans ?_
    refine (tq_aload_n i_X12_byBorder_90 rfl (isA_ref _) rfl).trans ?_
    refine (tq_iload i_X12_byBorder_91 rfl rfl).trans ?_
    refine (tq_iload i_X12_byBorder_93 rfl rfl).trans ?_
    refine (tq_iadd i_X12_byBorder_95 rfl).trans ?_
    refine (tq_iload i_X12_byBorder_96 rfl rfl).trans ?_
    refine (tq_iconst i_X12_byBorder_98 rfl).trans ?_
    refine (tq_isub i_X12_byBorder_99 rfl).trans ?_
    refine (tq_iload i_X12_byBorder_100 rfl rfl).trans ?_
    refine (c_X12_border i_X12_byBorder_102 (ltd d_X12_byBorder (by decide)) (isA_ref _) (stOk_1 _) rfl).trans ?_
    refine (congrArg (cl _ _ _ _) (border_ok rfl rfl w8 n2 s3 (g4 c1) (g5 c1))).trans ?_
    refine (cl_v _ _ _ _ _ _).trans ?_
    refine (tq_aload_n i_X12_byBorder_105 rfl (isA_ref _) rfl).trans ?_
    refine (tq_iload i_X12_byBorder_106 rfl rfl).trans ?_
    refine (tq_iconst i_X12_byBorder_108 rfl).trans ?_
    refine (tq_isub i_X12_byBorder_109 rfl).trans ?_
    refine (tq_iload i_X12_byBorder_110 rfl rfl).trans ?_
    refine (tq_iload i_X12_byBorder_112 rfl rfl).trans ?_
    refine (tq_iadd i_X12_byBorder_114 rfl).trans ?_
    refine (tq_iload i_X12_byBorder_115 rfl rfl).trans ?_
    refine (c_X12_border i_X12_byBorder_117 (ltd d_X12_byBorder (by decide)) (isA_ref _) (stOk_2 _ _) rfl).trans ?_
    refine (congrArg (cl _ _ _ _) (border_ok rfl rfl w8 n2 s3 (g4 c1) (g6 c1))).trans ?_
    refine (cl_v _ _ _ _ _ _).trans ?_
    refine (tq_iadd i_X12_byBorder_120 rfl).trans ?_
    refine (tq_iadd i_X12_byBorder_121 rfl).trans ?_
    refine (tq_istore (L' := [.ref a0, v1, v2, .int (mI x3), v4, v5, .int (mI x6), .int (mI x7), .int (mI x8), v9, (am_k1 v10), .int (mI (x11 + ((bord (gZ h a0) x8' (wr (x6 + x12)) (wr (x7 - 1))) + (bord (gZ h a0) x8' (wr (x6 - 1)) (wr (x7 + x12)))))), .int (mI x12)]) i_X12_byBorder_122 rfl rfl).trans ?_
    refine (tq_iinc (L' := [.ref a0, v1, v2, .int (mI x3), v4, v5, .int (mI x6), .int (mI x7), .int (mI x8), v9, (am_k1 v10), .int (mI (x11 + ((bord (gZ h a0) x8' (wr (x6 + x12)) (wr (x7 - 1))) + (bord (gZ h a0) x8' (wr (x6 - 1)) (wr (x7 + x12)))))), .int (mI (x12 + 1))]) i_X12_byBorder_124 rfl rfl rfl).trans ?_
    refine (tq_goto (pc' := 82) i_X12_byBorder_127 (by decide)).trans ?_
    rfl
theorem i_X12_byBorder_137 : am_i m_X12_byBorder 137 = some (137, .iload 9, 2, [], 0) := rfl
theorem i_X12_byBorder_139 : am_i m_X12_byBorder 139 = some (139, .ireturn, 1, [], 0) := rfl
theorem b_X12_byBorder_137 {v0 v1 v2 v3 v4 v5 v6 v7 v8 v10 v11 v12 : Value} {x9 : Int} {h : am_H} : rn m_X12_byBorder 137 [v0, v1, v2, v3, v4, v5, v6, v7, v8, .int (mI x9), v10, v11, v12] [] h = some (.inl (some (.int (mI x9))), h) := by
  refine (tq_iload i_X12_byBorder_137 rfl rfl).trans ?_
  exact tq_ireturn i_X12_byBorder_139 r_X12_byBorder rfl
theorem i_X12_byBorder_140 : am_i m_X12_byBorder 140 = some (140, .iload 10, 2, [], 0) := rfl
theorem i_X12_byBorder_142 : am_i m_X12_byBorder 142 = some (142, .ireturn, 1, [], 0) := rfl
theorem b_X12_byBorder_140 {v0 v1 v2 v3 v4 v5 v6 v7 v8 v9 v11 v12 : Value} {x10 : Int} {h : am_H} : rn m_X12_byBorder 140 [v0, v1, v2, v3, v4, v5, v6, v7, v8, v9, .int (mI x10), v11, v12] [] h = some (.inl (some (.int (mI x10))), h) := by
  refine (tq_iload i_X12_byBorder_140 rfl rfl).trans ?_
  exact tq_ireturn i_X12_byBorder_142 r_X12_byBorder rfl
theorem i_X12_byBorder_143 : am_i m_X12_byBorder 143 = some (143, .iload 9, 2, [], 0) := rfl
theorem i_X12_byBorder_145 : am_i m_X12_byBorder 145 = some (145, .iload 10, 2, [], 0) := rfl
theorem i_X12_byBorder_147 : am_i m_X12_byBorder 147 = some (147, .iadd, 1, [], 0) := rfl
theorem i_X12_byBorder_148 : am_i m_X12_byBorder 148 = some (148, .aload_n 0, 1, [], 0) := rfl
theorem i_X12_byBorder_149 : am_i m_X12_byBorder 149 = some (149, .iload 6, 2, [], 0) := rfl
theorem i_X12_byBorder_151 : am_i m_X12_byBorder 151 = some (151, .iconst 1, 1, [], 1) := rfl
theorem i_X12_byBorder_152 : am_i m_X12_byBorder 152 = some (152, .isub, 1, [], 0) := rfl
theorem i_X12_byBorder_153 : am_i m_X12_byBorder 153 = some (153, .iload 7, 2, [], 0) := rfl
theorem i_X12_byBorder_155 : am_i m_X12_byBorder 155 = some (155, .iconst 1, 1, [], 1) := rfl
theorem i_X12_byBorder_156 : am_i m_X12_byBorder 156 = some (156, .isub, 1, [], 0) := rfl
theorem i_X12_byBorder_157 : am_i m_X12_byBorder 157 = some (157, .iload 8, 2, [], 0) := rfl
theorem i_X12_byBorder_159 : am_i m_X12_byBorder 159 = some (159, .invokestatic 140, 3, [20], 0) := rfl
theorem i_X12_byBorder_162 : am_i m_X12_byBorder 162 = some (162, .isub, 1, [], 0) := rfl
theorem i_X12_byBorder_163 : am_i m_X12_byBorder 163 = some (163, .invokestatic 118, 3, [76], 0) := rfl
theorem i_X12_byBorder_166 : am_i m_X12_byBorder 166 = some (166, .ireturn, 1, [], 0) := rfl
theorem b_X12_byBorder_143 {a0 n_a0 : Nat} {v1 v2 v3 v4 v5 v11 v12 : Value} {x6 x7 x8 x9 x10 x8' : Int} {h : am_H} (w8 : wr x8 = x8') (n1 : gn h a0 = n_a0) (s2 : sh h a0 = (1, 0)) (g3 : 256 ≤ (n_a0 : Int)) (g4 : (-1 ≤ (wr (x6 - 1)) ∧ (wr (x6 - 1)) < 16) ∧ (-1 ≤ (wr (x7 - 1)) ∧ (wr (x7 - 1)) < 16) ∧ 0 ≤ x8') : rn m_X12_byBorder 143 [.ref a0, v1, v2, v3, v4, v5, .int (mI x6), .int (mI x7), .int (mI x8), .int (mI x9), .int (mI x10), v11, v12] [] h = some (.inl (some (.int (mI (clampv (wr ((x9 + x10) - (bord (gZ h a0) x8' (wr (x6 - 1)) (wr (x7 - 1))))))))), h) := by
  refine (tq_iload i_X12_byBorder_143 rfl rfl).trans ?_
  refine (tq_iload i_X12_byBorder_145 rfl rfl).trans ?_
  refine (tq_iadd i_X12_byBorder_147 rfl).trans ?_
  refine (tq_aload_n i_X12_byBorder_148 rfl (isA_ref _) rfl).trans ?_
  refine (tq_iload i_X12_byBorder_149 rfl rfl).trans ?_
  refine (tq_iconst i_X12_byBorder_151 rfl).trans ?_
  refine (tq_isub i_X12_byBorder_152 rfl).trans ?_
  refine (tq_iload i_X12_byBorder_153 rfl rfl).trans ?_
  refine (tq_iconst i_X12_byBorder_155 rfl).trans ?_
  refine (tq_isub i_X12_byBorder_156 rfl).trans ?_
  refine (tq_iload i_X12_byBorder_157 rfl rfl).trans ?_
  refine (c_X12_border i_X12_byBorder_159 (ltd d_X12_byBorder (by decide)) (isA_ref _) (stOk_1 _) rfl).trans ?_
  refine (congrArg (cl _ _ _ _) (border_ok rfl rfl w8 n1 s2 g3 g4)).trans ?_
  refine (cl_v _ _ _ _ _ _).trans ?_
  refine (tq_isub i_X12_byBorder_162 rfl).trans ?_
  refine (c_X12_held i_X12_byBorder_163 (ltd d_X12_byBorder (by decide)) stOk_0 rfl).trans ?_
  refine (congrArg (cl _ _ _ _) (held_ok rfl)).trans ?_
  refine (cl_v _ _ _ _ _ _).trans ?_
  exact tq_ireturn i_X12_byBorder_166 r_X12_byBorder rfl
theorem tp_row {X Y Z T sl y : Int} (li : lies X Y Z T) (hy : Y ≤ y ∧ y < Y + Z) : tp sl y = tp sl Y := by
  have l1 := li.1
  have e : (1 < sl ∧ 8 ≤ y) ↔ (1 < sl ∧ 8 ≤ Y) := by omega
  unfold tp
  simp only [e]
theorem byBorder_ok {h : am_H} {a n : Nat} {X Y Z sl m x y : Int} (s : sh h a = (1, 0)) (n1 : gn h a = n) (hn : 256 ≤ (n : Int)) (hp : pixels (gZ h a)) (li : lies X Y Z (tp sl Y)) (hs : sl = 1 ∨ sl = 2) (hm : 0 ≤ m ∧ m < 4) (hx : X ≤ x ∧ x < X + Z) (hy : Y ≤ y ∧ y < Y + Z) : rn m_X12_byBorder 0 [.ref a, .int (mI x), .int (mI y), .int (mI Z), .int (mI m), .int (mI sl), am_J, am_J, am_J, am_J, am_J, am_J, am_J] [] h = some (.inl (some (.int (mI (gsB (gZ h a) X Y Z (tp sl Y) m x y)))), h) := by
  have tb := tp_b sl Y
  obtain ⟨ip, mm⟩ := lies_part li tb.2
  have hb := meanv_b hp ip
  have hz := ip.1
  obtain ⟨-, hX, hY, hT⟩ := ip
  have eX : x.tdiv Z * Z = X := by
    rw [tdv (by omega)]
    have l1 := li.1
    rcases l1 with ⟨rfl, hX, hY⟩ | ⟨rfl, hX, hY⟩ <;> omega
  have eY : y.tdiv Z * Z = Y := by
    rw [tdv (by omega)]
    have l1 := li.1
    rcases l1 with ⟨rfl, hX, hY⟩ | ⟨rfl, hX, hY⟩ <;> omega
  have et := tp_row (sl := sl) li hy
  have st := b_X12_byBorder_0 (a0 := a) (n_a0 := n) (x1 := x) (x2 := y) (x3 := Z) (x4 := m) (x5 := sl) (h := h) (wr_id (z := x) (by omega) (by omega)) (wr_id (z := y) (by omega) (by omega)) (wr_id (z := Z) (by omega) (by omega)) (wr_id (z := m) (by omega) (by omega)) (wr_id (z := sl) (by omega) (by omega))
  simp (disch := omega) only [eX, eY, et, wr_id] at st
  have st := st (by omega) hs n1 s hn (by omega) (by omega)
  rw [st]
  have : m = 0 ∨ m = 1 ∨ m = 2 ∨ m = 3 := by omega
  unfold gsB
  rcases this with rfl | rfl | rfl | rfl
  · show rn m_X12_byBorder 76 _ _ _ = _
    rw [b_X12_byBorder_76, if_pos rfl]
    have h1 := sm_le (n := Z.toNat) (f := fun i => bord (gZ h a) (tp sl Y) (X + i) (Y - 1) + bord (gZ h a) (tp sl Y) (X - 1) (Y + i)) (b := 510) fun i i0 i1 => by
      have q1 := bord_b (t := tp sl Y) (x := X + i) (y := Y - 1) hp (by omega) (by omega) (by omega)
      have q2 := bord_b (t := tp sl Y) (x := X - 1) (y := Y + i) hp (by omega) (by omega) (by omega)
      omega
    refine lp (m := m_X12_byBorder) (pc := 82) (L := fun i (z : Int × Value) => [.ref a, .int (mI x), .int (mI y), .int (mI Z), .int (mI 0), .int (mI sl), .int (mI X), .int (mI Y), .int (mI (tp sl Y)), .int (mI (bord (gZ h a) (tp sl Y) x (Y - 1))), z.2, .int (mI z.1), .int (mI i)]) (N := Z) (P := fun r => r = some (.inl (some (.int (mI (meanv (gZ h a) X Y Z (tp sl Y))))), h)) (fun i z h' => 0 ≤ i ∧ h' = h ∧ z.1 = Z + sm i.toNat (fun i => bord (gZ h a) (tp sl Y) (X + i) (Y - 1) + bord (gZ h a) (tp sl Y) (X - 1) (Y + i))) ?_ ?_ 0 (Z, _) h (by omega) ⟨by omega, rfl, (Int.add_zero _).symm⟩
    · intro i z h' hi ⟨i0, e, ez⟩
      obtain ⟨z, v⟩ := z
      subst e
      simp only at ez
      have h2 := sm_le (n := i.toNat) (f := fun i => bord (gZ h' a) (tp sl Y) (X + i) (Y - 1) + bord (gZ h' a) (tp sl Y) (X - 1) (Y + i)) (b := 510) fun i i0 i1 => by
        have q1 := bord_b (t := tp sl Y) (x := X + i) (y := Y - 1) hp (by omega) (by omega) (by omega)
        have q2 := bord_b (t := tp sl Y) (x := X - 1) (y := Y + i) hp (by omega) (by omega) (by omega)
        omega
      have st := b_X12_byBorder_82 (a0 := a) (n_a0 := n) (v1 := .int (mI x)) (v2 := .int (mI y)) (x3 := Z) (v4 := .int (mI 0)) (v5 := .int (mI sl)) (x6 := X) (x7 := Y) (x8 := tp sl Y) (v9 := .int (mI (bord (gZ h' a) (tp sl Y) x (Y - 1)))) (v10 := v) (x11 := z) (x12 := i) (h := h') (wr_id (z := Z) (by omega) (by omega)) (wr_tp sl Y) (wr_id (z := z) (by omega) (by omega)) (wr_id (z := i) (by omega) (by omega))
      simp (disch := omega) only [wr_id] at st
      have st := st (fun _ => by omega) n1 s (fun _ => hn) (fun _ => by omega) (fun _ => by omega)
      rw [if_neg (by omega)] at st
      refine ⟨(_, _), h', st, by omega, rfl, ?_⟩
      simp only
      rw [sm_succ i0, ez, Int.add_assoc]
    · intro z h' ⟨i0, e, ez⟩
      obtain ⟨z, v⟩ := z
      subst e
      simp only at ez
      have st := b_X12_byBorder_82 (a0 := a) (n_a0 := n) (v1 := .int (mI x)) (v2 := .int (mI y)) (x3 := Z) (v4 := .int (mI 0)) (v5 := .int (mI sl)) (x6 := X) (x7 := Y) (x8 := tp sl Y) (v9 := .int (mI (bord (gZ h' a) (tp sl Y) x (Y - 1)))) (v10 := v) (x11 := z) (x12 := Z) (h := h') (wr_id (z := Z) (by omega) (by omega)) (wr_tp sl Y) (wr_id (z := z) (by omega) (by omega)) (wr_id (z := Z) (by omega) (by omega))
      simp (disch := omega) only [wr_id] at st
      have st := st (fun _ => by omega) n1 s (fun _ => hn) (fun _ => by omega) (fun _ => by omega)
      rw [if_pos (by omega), tdv (by omega)] at st
      simp only
      rw [st, ez]
      unfold meanv
      rw [Int.add_comm Z]
  · show rn m_X12_byBorder 137 _ _ _ = _
    rw [b_X12_byBorder_137]
    rfl
  · show rn m_X12_byBorder 140 _ _ _ = _
    rw [b_X12_byBorder_140]
    rfl
  · show rn m_X12_byBorder 143 _ _ _ = _
    have q1 := bord_b (t := tp sl Y) (x := x) (y := Y - 1) hp (by omega) (by omega) (by omega)
    have q2 := bord_b (t := tp sl Y) (x := X - 1) (y := y) hp (by omega) (by omega) (by omega)
    have q3 := bord_b (t := tp sl Y) (x := X - 1) (y := Y - 1) hp (by omega) (by omega) (by omega)
    have st := b_X12_byBorder_143 (a0 := a) (n_a0 := n) (v1 := .int (mI x)) (v2 := .int (mI y)) (v3 := .int (mI Z)) (v4 := .int (mI 3)) (v5 := .int (mI sl)) (x6 := X) (x7 := Y) (x8 := tp sl Y) (x9 := bord (gZ h a) (tp sl Y) x (Y - 1)) (x10 := bord (gZ h a) (tp sl Y) (X - 1) y) (v11 := am_J) (v12 := am_J) (h := h) (wr_tp sl Y) n1 s hn
    simp (disch := omega) only [wr_id] at st
    rw [st (by omega)]
    rfl
