/-! ===== rows of numbers ===== -/
theorem i_X7_get_0 : am_i m_X7_get 0 = some (0, .aload_n 0, 1, [], 0) := rfl
theorem i_X7_get_1 : am_i m_X7_get 1 = some (1, .ifnull 19, 3, [], 0) := rfl
theorem i_X7_get_4 : am_i m_X7_get 4 = some (4, .iload_n 1, 1, [], 0) := rfl
theorem i_X7_get_5 : am_i m_X7_get 5 = some (5, .ifCond .lt 15, 3, [], 0) := rfl
theorem i_X7_get_8 : am_i m_X7_get 8 = some (8, .iload_n 1, 1, [], 0) := rfl
theorem i_X7_get_9 : am_i m_X7_get 9 = some (9, .aload_n 0, 1, [], 0) := rfl
theorem i_X7_get_10 : am_i m_X7_get 10 = some (10, .arraylength, 1, [], 0) := rfl
theorem i_X7_get_11 : am_i m_X7_get 11 = some (11, .if_icmp .ge 9, 3, [], 0) := rfl
theorem i_X7_get_14 : am_i m_X7_get 14 = some (14, .aload_n 0, 1, [], 0) := rfl
theorem i_X7_get_15 : am_i m_X7_get 15 = some (15, .iload_n 1, 1, [], 0) := rfl
theorem i_X7_get_16 : am_i m_X7_get 16 = some (16, .iaload, 1, [], 0) := rfl
theorem i_X7_get_17 : am_i m_X7_get 17 = some (17, .goto 4, 3, [], 0) := rfl
theorem i_X7_get_20 : am_i m_X7_get 20 = some (20, .iconst 0, 1, [], 0) := rfl
theorem i_X7_get_21 : am_i m_X7_get 21 = some (21, .ireturn, 1, [], 0) := rfl
theorem b_X7_get_0 {a0 t_a0 n_a0 : Nat} {x1 x1' : Int} {h : am_H} (w1 : wr x1 = x1') (n1 : gn h a0 = n_a0) (s2 : sh h a0 = (1, t_a0)) (g3 : (¬ (x1' < 0)) → (¬ ((n_a0 : Int) ≤ x1')) → (0 ≤ x1' ∧ x1' < (n_a0 : Int))) (t4 : t_a0 = 0 ∨ t_a0 = 7) : rn m_X7_get 0 [.ref a0, .int (mI x1)] [] h = some (.inl (some (.int (mI (if x1' < 0 then 0 else (if (n_a0 : Int) ≤ x1' then 0 else gZ h a0 x1'))))), h) := by
  refine (tq_aload_n i_X7_get_0 rfl (isA_ref _) rfl).trans ?_
  refine (tq_ifnull_r i_X7_get_1 rfl).trans ?_
  refine (tq_iload_n i_X7_get_4 rfl rfl).trans ?_
  refine (tq_if_lt (pt := 20) i_X7_get_5 w1 (by decide) rfl).trans ?_
  refine Eq.trans (b := if x1' < 0 then rn m_X7_get 21 [.ref a0, .int (mI x1)] [.int (mI 0)] h else rn m_X7_get 21 [.ref a0, .int (mI x1)] [.int (mI (if (n_a0 : Int) ≤ x1' then 0 else gZ h a0 x1'))] h) (ite_congr rfl (fun c1 => ?_) (fun c1 => ?_)) ?_
  · refine (tq_iconst i_X7_get_20 rfl).trans ?_
    rfl
  · refine (tq_iload_n i_X7_get_8 rfl rfl).trans ?_
    refine (tq_aload_n i_X7_get_9 rfl (isA_ref _) rfl).trans ?_
    refine (tq_alen i_X7_get_10 s2 (by decide) (by decide) rfl).trans ?_
    rw [n1]
    refine (tq_icmp_ge (pt := 20) i_X7_get_11 w1 (wr_len s2 n1 (by decide) (by decide)) (by decide) rfl).trans ?_
    refine Eq.trans (b := if (n_a0 : Int) ≤ x1' then rn m_X7_get 21 [.ref a0, .int (mI x1)] [.int (mI 0)] h else rn m_X7_get 21 [.ref a0, .int (mI x1)] [.int (mI (gZ h a0 x1'))] h) (ite_congr rfl (fun c2 => ?_) (fun c2 => ?_)) ?_
    · refine (tq_iconst i_X7_get_20 rfl).trans ?_
      rfl
    · refine (tq_aload_n i_X7_get_14 rfl (isA_ref _) rfl).trans ?_
      refine (tq_iload_n i_X7_get_15 rfl rfl).trans ?_
      refine (tq_iaload i_X7_get_16 s2 t4 w1 (g3 c1 c2).1 (lt_gn n1 (g3 c1 c2).2) rfl).trans ?_
      refine (tq_goto (pc' := 21) i_X7_get_17 (by decide)).trans ?_
      rfl
    exact ite_I
  refine Eq.trans ite_I ?_
  exact tq_ireturn i_X7_get_21 r_X7_get rfl
theorem i_X7_put_0 : am_i m_X7_put 0 = some (0, .aload_n 0, 1, [], 0) := rfl
theorem i_X7_put_1 : am_i m_X7_put 1 = some (1, .ifnull 17, 3, [], 0) := rfl
theorem i_X7_put_4 : am_i m_X7_put 4 = some (4, .iload_n 1, 1, [], 0) := rfl
theorem i_X7_put_5 : am_i m_X7_put 5 = some (5, .ifCond .lt 13, 3, [], 0) := rfl
theorem i_X7_put_8 : am_i m_X7_put 8 = some (8, .iload_n 1, 1, [], 0) := rfl
theorem i_X7_put_9 : am_i m_X7_put 9 = some (9, .aload_n 0, 1, [], 0) := rfl
theorem i_X7_put_10 : am_i m_X7_put 10 = some (10, .arraylength, 1, [], 0) := rfl
theorem i_X7_put_11 : am_i m_X7_put 11 = some (11, .if_icmp .ge 7, 3, [], 0) := rfl
theorem i_X7_put_14 : am_i m_X7_put 14 = some (14, .aload_n 0, 1, [], 0) := rfl
theorem i_X7_put_15 : am_i m_X7_put 15 = some (15, .iload_n 1, 1, [], 0) := rfl
theorem i_X7_put_16 : am_i m_X7_put 16 = some (16, .iload_n 2, 1, [], 0) := rfl
theorem i_X7_put_17 : am_i m_X7_put 17 = some (17, .iastore, 1, [], 0) := rfl
theorem i_X7_put_18 : am_i m_X7_put 18 = some (18, .return_, 1, [], 0) := rfl
theorem b_X7_put_0 {a0 n_a0 : Nat} {x1 x2 x1' : Int} {h : am_H} (w1 : wr x1 = x1') (n1 : gn h a0 = n_a0) (s2 : sh h a0 = (1, 0)) (g3 : (¬ (x1' < 0)) → (¬ ((n_a0 : Int) ≤ x1')) → (0 ≤ x1' ∧ x1' < (n_a0 : Int))) : rn m_X7_put 0 [.ref a0, .int (mI x1), .int (mI x2)] [] h = if x1' < 0 then some (.inl none, h) else if (n_a0 : Int) ≤ x1' then some (.inl none, h) else some (.inl none, uZ h a0 x1' x2) := by
  refine (tq_aload_n i_X7_put_0 rfl (isA_ref _) rfl).trans ?_
  refine (tq_ifnull_r i_X7_put_1 rfl).trans ?_
  refine (tq_iload_n i_X7_put_4 rfl rfl).trans ?_
  refine (tq_if_lt (pt := 18) i_X7_put_5 w1 (by decide) rfl).trans ?_
  refine ite_congr rfl (fun c1 => ?_) (fun c1 => ?_)
  · exact tq_return i_X7_put_18 r_X7_put
  · refine (tq_iload_n i_X7_put_8 rfl rfl).trans ?_
    refine (tq_aload_n i_X7_put_9 rfl (isA_ref _) rfl).trans ?_
    refine (tq_alen i_X7_put_10 s2 (by decide) (by decide) rfl).trans ?_
    rw [n1]
    refine (tq_icmp_ge (pt := 18) i_X7_put_11 w1 (wr_len s2 n1 (by decide) (by decide)) (by decide) rfl).trans ?_
    refine ite_congr rfl (fun c2 => ?_) (fun c2 => ?_)
    · exact tq_return i_X7_put_18 r_X7_put
    · refine (tq_aload_n i_X7_put_14 rfl (isA_ref _) rfl).trans ?_
      refine (tq_iload_n i_X7_put_15 rfl rfl).trans ?_
      refine (tq_iload_n i_X7_put_16 rfl rfl).trans ?_
      refine (tq_iastore i_X7_put_17 s2 w1 (g3 c1 c2).1 (lt_gn n1 (g3 c1 c2).2) rfl).trans ?_
      exact tq_return i_X7_put_18 r_X7_put
theorem i_X7_set_0 : am_i m_X7_set 0 = some (0, .iconst 0, 1, [], 0) := rfl
theorem i_X7_set_1 : am_i m_X7_set 1 = some (1, .istore_n 2, 1, [], 0) := rfl
theorem b_X7_set_0 {a0 : Nat} {x1 : Int} {h : am_H} : rn m_X7_set 0 [.ref a0, .int (mI x1), am_J] [] h = rn m_X7_set 2 [.ref a0, .int (mI x1), .int (mI 0)] [] h := by
  refine (tq_iconst i_X7_set_0 rfl).trans ?_
  refine (tq_istore_n (L' := [.ref a0, .int (mI x1), .int (mI 0)]) i_X7_set_1 rfl rfl).trans ?_
  rfl
theorem i_X7_set_2 : am_i m_X7_set 2 = some (2, .iload_n 2, 1, [], 0) := rfl
theorem i_X7_set_3 : am_i m_X7_set 3 = some (3, .aload_n 0, 1, [], 0) := rfl
theorem i_X7_set_4 : am_i m_X7_set 4 = some (4, .arraylength, 1, [], 0) := rfl
theorem i_X7_set_5 : am_i m_X7_set 5 = some (5, .if_icmp .ge 13, 3, [], 0) := rfl
theorem i_X7_set_8 : am_i m_X7_set 8 = some (8, .aload_n 0, 1, [], 0) := rfl
theorem i_X7_set_9 : am_i m_X7_set 9 = some (9, .iload_n 2, 1, [], 0) := rfl
theorem i_X7_set_10 : am_i m_X7_set 10 = some (10, .iload_n 1, 1, [], 0) := rfl
theorem i_X7_set_11 : am_i m_X7_set 11 = some (11, .iastore, 1, [], 0) := rfl
theorem i_X7_set_12 : am_i m_X7_set 12 = some (12, .iinc 2 1, 3, [], 0) := rfl
theorem i_X7_set_15 : am_i m_X7_set 15 = some (15, .goto (-13), 3, [], 0) := rfl
theorem i_X7_set_18 : am_i m_X7_set 18 = some (18, .return_, 1, [], 0) := rfl
theorem b_X7_set_2 {a0 n_a0 : Nat} {x1 x2 x2' : Int} {h : am_H} (w2 : wr x2 = x2') (n1 : gn h a0 = n_a0) (s2 : sh h a0 = (1, 0)) (g3 : (¬ ((n_a0 : Int) ≤ x2')) → (0 ≤ x2' ∧ x2' < (n_a0 : Int))) : rn m_X7_set 2 [.ref a0, .int (mI x1), .int (mI x2)] [] h = if (n_a0 : Int) ≤ x2' then some (.inl none, h) else rn m_X7_set 2 [.ref a0, .int (mI x1), .int (mI (x2 + 1))] [] (uZ h a0 x2' x1) := by
  refine (tq_iload_n i_X7_set_2 rfl rfl).trans ?_
  refine (tq_aload_n i_X7_set_3 rfl (isA_ref _) rfl).trans ?_
  refine (tq_alen i_X7_set_4 s2 (by decide) (by decide) rfl).trans ?_
  rw [n1]
  refine (tq_icmp_ge (pt := 18) i_X7_set_5 w2 (wr_len s2 n1 (by decide) (by decide)) (by decide) rfl).trans ?_
  refine ite_congr rfl (fun c1 => ?_) (fun c1 => ?_)
  · exact tq_return i_X7_set_18 r_X7_set
  · refine (tq_aload_n i_X7_set_8 rfl (isA_ref _) rfl).trans ?_
    refine (tq_iload_n i_X7_set_9 rfl rfl).trans ?_
    refine (tq_iload_n i_X7_set_10 rfl rfl).trans ?_
    refine (tq_iastore i_X7_set_11 s2 w2 (g3 c1).1 (lt_gn n1 (g3 c1).2) rfl).trans ?_
    refine (tq_iinc (L' := [.ref a0, .int (mI x1), .int (mI (x2 + 1))]) i_X7_set_12 rfl rfl rfl).trans ?_
    refine (tq_goto (pc' := 2) i_X7_set_15 (by decide)).trans ?_
    rfl
theorem i_X7_copy_0 : am_i m_X7_copy 0 = some (0, .iconst 0, 1, [], 0) := rfl
theorem i_X7_copy_1 : am_i m_X7_copy 1 = some (1, .istore_n 2, 1, [], 0) := rfl
theorem b_X7_copy_0 {a0 a1 : Nat} {h : am_H} : rn m_X7_copy 0 [.ref a0, .ref a1, am_J] [] h = rn m_X7_copy 2 [.ref a0, .ref a1, .int (mI 0)] [] h := by
  refine (tq_iconst i_X7_copy_0 rfl).trans ?_
  refine (tq_istore_n (L' := [.ref a0, .ref a1, .int (mI 0)]) i_X7_copy_1 rfl rfl).trans ?_
  rfl
theorem i_X7_copy_2 : am_i m_X7_copy 2 = some (2, .iload_n 2, 1, [], 0) := rfl
theorem i_X7_copy_3 : am_i m_X7_copy 3 = some (3, .aload_n 0, 1, [], 0) := rfl
theorem i_X7_copy_4 : am_i m_X7_copy 4 = some (4, .arraylength, 1, [], 0) := rfl
theorem i_X7_copy_5 : am_i m_X7_copy 5 = some (5, .if_icmp .ge 21, 3, [], 0) := rfl
theorem i_X7_copy_8 : am_i m_X7_copy 8 = some (8, .iload_n 2, 1, [], 0) := rfl
theorem i_X7_copy_9 : am_i m_X7_copy 9 = some (9, .aload_n 1, 1, [], 0) := rfl
theorem i_X7_copy_10 : am_i m_X7_copy 10 = some (10, .arraylength, 1, [], 0) := rfl
theorem i_X7_copy_11 : am_i m_X7_copy 11 = some (11, .if_icmp .ge 15, 3, [], 0) := rfl
theorem i_X7_copy_14 : am_i m_X7_copy 14 = some (14, .aload_n 1, 1, [], 0) := rfl
theorem i_X7_copy_15 : am_i m_X7_copy 15 = some (15, .iload_n 2, 1, [], 0) := rfl
theorem i_X7_copy_16 : am_i m_X7_copy 16 = some (16, .aload_n 0, 1, [], 0) := rfl
theorem i_X7_copy_17 : am_i m_X7_copy 17 = some (17, .iload_n 2, 1, [], 0) := rfl
theorem i_X7_copy_18 : am_i m_X7_copy 18 = some (18, .iaload, 1, [], 0) := rfl
theorem i_X7_copy_19 : am_i m_X7_copy 19 = some (19, .iastore, 1, [], 0) := rfl
theorem i_X7_copy_20 : am_i m_X7_copy 20 = some (20, .iinc 2 1, 3, [], 0) := rfl
theorem i_X7_copy_23 : am_i m_X7_copy 23 = some (23, .goto (-21), 3, [], 0) := rfl
theorem i_X7_copy_26 : am_i m_X7_copy 26 = some (26, .return_, 1, [], 0) := rfl
theorem b_X7_copy_2 {a0 a1 n_a0 n_a1 : Nat} {x2 x2' : Int} {h : am_H} (w2 : wr x2 = x2') (n1 : gn h a0 = n_a0) (s2 : sh h a0 = (1, 0)) (n3 : gn h a1 = n_a1) (s4 : sh h a1 = (1, 0)) (g5 : (¬ ((n_a0 : Int) ≤ x2')) → (¬ ((n_a1 : Int) ≤ x2')) → (0 ≤ x2' ∧ x2' < (n_a0 : Int))) (g6 : (¬ ((n_a0 : Int) ≤ x2')) → (¬ ((n_a1 : Int) ≤ x2')) → (0 ≤ x2' ∧ x2' < (n_a1 : Int))) : rn m_X7_copy 2 [.ref a0, .ref a1, .int (mI x2)] [] h = if (n_a0 : Int) ≤ x2' then some (.inl none, h) else if (n_a1 : Int) ≤ x2' then some (.inl none, h) else rn m_X7_copy 2 [.ref a0, .ref a1, .int (mI (x2 + 1))] [] (uZ h a1 x2' (gZ h a0 x2')) := by
  refine (tq_iload_n i_X7_copy_2 rfl rfl).trans ?_
  refine (tq_aload_n i_X7_copy_3 rfl (isA_ref _) rfl).trans ?_
  refine (tq_alen i_X7_copy_4 s2 (by decide) (by decide) rfl).trans ?_
  rw [n1]
  refine (tq_icmp_ge (pt := 26) i_X7_copy_5 w2 (wr_len s2 n1 (by decide) (by decide)) (by decide) rfl).trans ?_
  refine ite_congr rfl (fun c1 => ?_) (fun c1 => ?_)
  · exact tq_return i_X7_copy_26 r_X7_copy
  · refine (tq_iload_n i_X7_copy_8 rfl rfl).trans ?_
    refine (tq_aload_n i_X7_copy_9 rfl (isA_ref _) rfl).trans ?_
    refine (tq_alen i_X7_copy_10 s4 (by decide) (by decide) rfl).trans ?_
    rw [n3]
    refine (tq_icmp_ge (pt := 26) i_X7_copy_11 w2 (wr_len s4 n3 (by decide) (by decide)) (by decide) rfl).trans ?_
    refine ite_congr rfl (fun c2 => ?_) (fun c2 => ?_)
    · exact tq_return i_X7_copy_26 r_X7_copy
    · refine (tq_aload_n i_X7_copy_14 rfl (isA_ref _) rfl).trans ?_
      refine (tq_iload_n i_X7_copy_15 rfl rfl).trans ?_
      refine (tq_aload_n i_X7_copy_16 rfl (isA_ref _) rfl).trans ?_
      refine (tq_iload_n i_X7_copy_17 rfl rfl).trans ?_
      refine (tq_iaload i_X7_copy_18 s2 (by decide) w2 (g5 c1 c2).1 (lt_gn n1 (g5 c1 c2).2) rfl).trans ?_
      refine (tq_iastore i_X7_copy_19 s4 w2 (g6 c1 c2).1 (lt_gn n3 (g6 c1 c2).2) rfl).trans ?_
      refine (tq_iinc (L' := [.ref a0, .ref a1, .int (mI (x2 + 1))]) i_X7_copy_20 rfl rfl rfl).trans ?_
      refine (tq_goto (pc' := 2) i_X7_copy_23 (by decide)).trans ?_
      rfl
theorem i_X7_shift_0 : am_i m_X7_shift 0 = some (0, .aload_n 0, 1, [], 0) := rfl
theorem i_X7_shift_1 : am_i m_X7_shift 1 = some (1, .arraylength, 1, [], 0) := rfl
theorem i_X7_shift_2 : am_i m_X7_shift 2 = some (2, .iconst 1, 1, [], 1) := rfl
theorem i_X7_shift_3 : am_i m_X7_shift 3 = some (3, .isub, 1, [], 0) := rfl
theorem i_X7_shift_4 : am_i m_X7_shift 4 = some (4, .istore_n 2, 1, [], 0) := rfl
theorem b_X7_shift_0 {a0 n_a0 : Nat} {x1 : Int} {h : am_H} (n1 : gn h a0 = n_a0) (s2 : sh h a0 = (1, 0)) : rn m_X7_shift 0 [.ref a0, .int (mI x1), am_J] [] h = rn m_X7_shift 5 [.ref a0, .int (mI x1), .int (mI ((n_a0 : Int) - 1))] [] h := by
  refine (tq_aload_n i_X7_shift_0 rfl (isA_ref _) rfl).trans ?_
  refine (tq_alen i_X7_shift_1 s2 (by decide) (by decide) rfl).trans ?_
  rw [n1]
  refine (tq_iconst i_X7_shift_2 rfl).trans ?_
  refine (tq_isub i_X7_shift_3 rfl).trans ?_
  refine (tq_istore_n (L' := [.ref a0, .int (mI x1), .int (mI ((n_a0 : Int) - 1))]) i_X7_shift_4 rfl rfl).trans ?_
  rfl
theorem i_X7_shift_5 : am_i m_X7_shift 5 = some (5, .iload_n 2, 1, [], 0) := rfl
theorem i_X7_shift_6 : am_i m_X7_shift 6 = some (6, .iload_n 1, 1, [], 0) := rfl
theorem i_X7_shift_7 : am_i m_X7_shift 7 = some (7, .if_icmp .lt 21, 3, [], 0) := rfl
theorem i_X7_shift_10 : am_i m_X7_shift 10 = some (10, .iload_n 1, 1, [], 0) := rfl
theorem i_X7_shift_11 : am_i m_X7_shift 11 = some (11, .ifCond .le 17, 3, [], 0) := rfl
theorem i_X7_shift_14 : am_i m_X7_shift 14 = some (14, .aload_n 0, 1, [], 0) := rfl
theorem i_X7_shift_15 : am_i m_X7_shift 15 = some (15, .iload_n 2, 1, [], 0) := rfl
theorem i_X7_shift_16 : am_i m_X7_shift 16 = some (16, .aload_n 0, 1, [], 0) := rfl
theorem i_X7_shift_17 : am_i m_X7_shift 17 = some (17, .iload_n 2, 1, [], 0) := rfl
theorem i_X7_shift_18 : am_i m_X7_shift 18 = some (18, .iload_n 1, 1, [], 0) := rfl
theorem i_X7_shift_19 : am_i m_X7_shift 19 = some (19, .isub, 1, [], 0) := rfl
theorem i_X7_shift_20 : am_i m_X7_shift 20 = some (20, .iaload, 1, [], 0) := rfl
theorem i_X7_shift_21 : am_i m_X7_shift 21 = some (21, .iastore, 1, [], 0) := rfl
theorem i_X7_shift_22 : am_i m_X7_shift 22 = some (22, .iinc 2 (-1), 3, [], 0) := rfl
theorem i_X7_shift_25 : am_i m_X7_shift 25 = some (25, .goto (-20), 3, [], 0) := rfl
theorem i_X7_shift_28 : am_i m_X7_shift 28 = some (28, .return_, 1, [], 0) := rfl
theorem b_X7_shift_5 {a0 n_a0 : Nat} {x1 x2 x1' x2' : Int} {h : am_H} (w1 : wr x1 = x1') (w2 : wr x2 = x2') (n1 : gn h a0 = n_a0) (s2 : sh h a0 = (1, 0)) (g3 : (¬ (x2' < x1')) → (¬ (x1' ≤ 0)) → (0 ≤ wr (x2 - x1) ∧ wr (x2 - x1) < (n_a0 : Int))) (g4 : (¬ (x2' < x1')) → (¬ (x1' ≤ 0)) → (0 ≤ x2' ∧ x2' < (n_a0 : Int))) : rn m_X7_shift 5 [.ref a0, .int (mI x1), .int (mI x2)] [] h = if x2' < x1' then some (.inl none, h) else if x1' ≤ 0 then some (.inl none, h) else rn m_X7_shift 5 [.ref a0, .int (mI x1), .int (mI (x2 + (-1)))] [] (uZ h a0 x2' (gZ h a0 (wr (x2 - x1)))) := by
  refine (tq_iload_n i_X7_shift_5 rfl rfl).trans ?_
  refine (tq_iload_n i_X7_shift_6 rfl rfl).trans ?_
  refine (tq_icmp_lt (pt := 28) i_X7_shift_7 w2 w1 (by decide) rfl).trans ?_
  refine ite_congr rfl (fun c1 => ?_) (fun c1 => ?_)
  · exact tq_return i_X7_shift_28 r_X7_shift
  · refine (tq_iload_n i_X7_shift_10 rfl rfl).trans ?_
    refine (tq_if_le (pt := 28) i_X7_shift_11 w1 (by decide) rfl).trans ?_
    refine ite_congr rfl (fun c2 => ?_) (fun c2 => ?_)
    · exact tq_return i_X7_shift_28 r_X7_shift
    · refine (tq_aload_n i_X7_shift_14 rfl (isA_ref _) rfl).trans ?_
      refine (tq_iload_n i_X7_shift_15 rfl rfl).trans ?_
      refine (tq_aload_n i_X7_shift_16 rfl (isA_ref _) rfl).trans ?_
      refine (tq_iload_n i_X7_shift_17 rfl rfl).trans ?_
      refine (tq_iload_n i_X7_shift_18 rfl rfl).trans ?_
      refine (tq_isub i_X7_shift_19 rfl).trans ?_
      refine (tq_iaload i_X7_shift_20 s2 (by decide) rfl (g3 c1 c2).1 (lt_gn n1 (g3 c1 c2).2) rfl).trans ?_
      refine (tq_iastore i_X7_shift_21 s2 w2 (g4 c1 c2).1 (lt_gn n1 (g4 c1 c2).2) rfl).trans ?_
      refine (tq_iinc (L' := [.ref a0, .int (mI x1), .int (mI (x2 + (-1)))]) i_X7_shift_22 rfl rfl rfl).trans ?_
      refine (tq_goto (pc' := 5) i_X7_shift_25 (by decide)).trans ?_
      rfl
theorem gn_ok {h : am_H} {a n : Nat} {t : Nat} (s : sh h a = (1, t)) (n1 : gn h a = n) : n ≤ 65536 := by
  rw [← n1]
  exact gn_le (by rw [s]; exact Nat.le_refl 1) (by rw [s]; show (1 : Nat) ≤ 4; decide)
theorem get_ok {h : am_H} {a n t : Nat} {i i' : Int} (w : wr i = i') (n1 : gn h a = n) (s : sh h a = (1, t)) (ht : t = 0 ∨ t = 7) (g : 0 ≤ i' ∧ i' < (n : Int)) : rn m_X7_get 0 [.ref a, .int (mI i)] [] h = some (.inl (some (.int (mI (gZ h a i')))), h) := by
  rw [b_X7_get_0 w n1 s (fun _ _ => g) ht, if_neg (by omega), if_neg (by omega)]
theorem put_ok {h : am_H} {a n : Nat} {i v i' : Int} (w : wr i = i') (n1 : gn h a = n) (s : sh h a = (1, 0)) (g : 0 ≤ i' ∧ i' < (n : Int)) : rn m_X7_put 0 [.ref a, .int (mI i), .int (mI v)] [] h = some (.inl none, uZ h a i' v) := by
  rw [b_X7_put_0 w n1 s (fun _ _ => g), if_neg (by omega), if_neg (by omega)]
def fset (n : Nat) (v : Int) (f : Int → Int32) : Int → Int32 := fun i => if 0 ≤ i ∧ i < (n : Int) then mI v else f i
theorem set_ok {h : am_H} {a n : Nat} {x : Int} (s : sh h a = (1, 0)) (n1 : gn h a = n) : rn m_X7_set 0 [.ref a, .int (mI x), am_J] [] h = some (.inl none, uI h a (fset n x (gI h a))) := by
  have nle := gn_ok s n1
  have s' : ∀ {h' : am_H} f, h' = uI h a f → sh h' a = (1, 0) := fun f e => by rw [e, sh_uI]; exact s
  have n' : ∀ {h' : am_H} f, h' = uI h a f → gn h' a = n := fun f e => by rw [e, gn_uI]; exact n1
  rw [b_X7_set_0]
  refine lp (L := fun i (_ : Unit) => [.ref a, .int (mI x), .int (mI i)]) (N := n) (P := fun r => r = some (.inl none, uI h a (fset n x (gI h a)))) (fun i _ h' => 0 ≤ i ∧ h' = uI h a (fun j => if 0 ≤ j ∧ j < i then mI x else gI h a j)) ?_ ?_ 0 () h (by omega) ⟨by omega, ?_⟩
  · intro i _ h' hi ⟨h0, e⟩
    refine ⟨(), _, (b_X7_set_2 (wr_id (by omega) (by omega)) (n' _ e) (s' _ e) (fun _ => ⟨h0, hi⟩)).trans (if_neg (by omega)), by omega, ?_⟩
    rw [e, uZ_uI (sh1 s)]
    exact uI_ext fun j => by (simp only [am_up]; repeat' split) <;> first | rfl | (exfalso; omega)
  · intro _ h' ⟨h0, e⟩
    rw [b_X7_set_2 (wr_id (by omega) (by omega)) (n' _ e) (s' _ e) (fun _ => ⟨h0, by omega⟩), if_pos (by omega), e]
    rfl
  · exact (uI_id (sh1 s)).symm.trans (uI_ext fun j => (if_neg (by omega)).symm)
def fcopy (n : Nat) (f g : Int → Int32) : Int → Int32 := fun i => if 0 ≤ i ∧ i < (n : Int) then f i else g i
theorem copy_ok {h : am_H} {a b n k : Nat} (s : sh h a = (1, 0)) (n1 : gn h a = n) (sb : sh h b = (1, 0)) (n2 : gn h b = k) (ab : a ≠ b) : rn m_X7_copy 0 [.ref a, .ref b, am_J] [] h = some (.inl none, uI h b (fcopy (min n k) (gI h a) (gI h b))) := by
  have nle := gn_ok s n1
  have nle2 := gn_ok sb n2
  have s' : ∀ {h' : am_H} f, h' = uI h b f → sh h' a = (1, 0) := fun f e => by rw [e, sh_uI]; exact s
  have n' : ∀ {h' : am_H} f, h' = uI h b f → gn h' a = n := fun f e => by rw [e, gn_uI]; exact n1
  have sb' : ∀ {h' : am_H} f, h' = uI h b f → sh h' b = (1, 0) := fun f e => by rw [e, sh_uI]; exact sb
  have n2' : ∀ {h' : am_H} f, h' = uI h b f → gn h' b = k := fun f e => by rw [e, gn_uI]; exact n2
  rw [b_X7_copy_0]
  refine lp (L := fun i (_ : Unit) => [.ref a, .ref b, .int (mI i)]) (N := (min n k : Nat)) (P := fun r => r = some (.inl none, uI h b (fcopy (min n k) (gI h a) (gI h b)))) (fun i _ h' => 0 ≤ i ∧ h' = uI h b (fun j => if 0 ≤ j ∧ j < i then gI h a j else gI h b j)) ?_ ?_ 0 () h (by omega) ⟨by omega, ?_⟩
  · intro i _ h' hi ⟨h0, e⟩
    refine ⟨(), _, (b_X7_copy_2 (wr_id (by omega) (by omega)) (n' _ e) (s' _ e) (n2' _ e) (sb' _ e) (fun _ _ => ⟨h0, by omega⟩) (fun _ _ => ⟨h0, by omega⟩)).trans ((if_neg (by omega)).trans (if_neg (by omega))), by omega, ?_⟩
    rw [e, uZ_uI (sh1 sb), gZ_uI_ne _ ab, ← gI_mI]
    exact uI_ext fun j => by
      simp only [am_up]
      repeat' split
      all_goals first | rfl | (exfalso; omega) | (rename_i q _; rw [q]) | (rename_i q; rw [q])
  · intro _ h' ⟨h0, e⟩
    rw [b_X7_copy_2 (wr_id (by omega) (by omega)) (n' _ e) (s' _ e) (n2' _ e) (sb' _ e) (fun _ _ => ⟨h0, by omega⟩) (fun _ _ => ⟨h0, by omega⟩)]
    have : (if (n : Int) ≤ ((min n k : Nat) : Int) then some ((Sum.inl none, h') : am_Rs) else if (k : Int) ≤ ((min n k : Nat) : Int) then some (.inl none, h') else rn m_X7_copy 2 [.ref a, .ref b, .int (mI (((min n k : Nat) : Int) + 1))] [] (uZ h' b ((min n k : Nat) : Int) (gZ h' a ((min n k : Nat) : Int)))) = some (.inl none, h') := by
      by_cases q : (n : Int) ≤ ((min n k : Nat) : Int)
      · rw [if_pos q]
      · rw [if_neg q, if_pos (by omega)]
    rw [this, e]
    rfl
  · exact (uI_id (sh1 sb)).symm.trans (uI_ext fun j => (if_neg (by omega)).symm)
def fshift (n : Nat) (k : Int) (f : Int → Int32) : Int → Int32 := fun i => if k ≤ i ∧ i < (n : Int) then f (i - k) else f i
theorem shift_ok {h : am_H} {a n : Nat} {k : Int} (s : sh h a = (1, 0)) (n1 : gn h a = n) (hk : 0 < k) (hk2 : k ≤ n) : rn m_X7_shift 0 [.ref a, .int (mI k), am_J] [] h = some (.inl none, uI h a (fshift n k (gI h a))) := by
  have nle := gn_ok s n1
  have s' : ∀ {h' : am_H} f, h' = uI h a f → sh h' a = (1, 0) := fun f e => by rw [e, sh_uI]; exact s
  have n' : ∀ {h' : am_H} f, h' = uI h a f → gn h' a = n := fun f e => by rw [e, gn_uI]; exact n1
  rw [b_X7_shift_0 n1 s]
  have := lp (m := m_X7_shift) (pc := 5) (L := fun i (_ : Unit) => [.ref a, .int (mI k), .int (mI ((n : Int) - 1 - i))]) (N := n - k) (P := fun r => r = some (.inl none, uI h a (fshift n k (gI h a)))) (fun i _ h' => 0 ≤ i ∧ h' = uI h a (fun j => if (n : Int) - 1 - i < j ∧ j < n then gI h a (j - k) else gI h a j)) ?_ ?_ 0 () h (by omega) ⟨by omega, ?_⟩
  · rw [show (n : Int) - 1 - 0 = n - 1 by omega] at this
    exact this
  · intro i _ h' hi ⟨h0, e⟩
    have w1 : wr (((n : Int) - 1 - i) - k) = ((n : Int) - 1 - i) - k := wr_id (by omega) (by omega)
    refine ⟨(), _, (b_X7_shift_5 (wr_id (by omega) (by omega)) (wr_id (by omega) (by omega)) (n' _ e) (s' _ e) (fun _ _ => by rw [w1]; omega) (fun _ _ => by omega)).trans ((if_neg (by omega)).trans ((if_neg (by omega)).trans (by rw [show (n : Int) - 1 - i + -1 = n - 1 - (i + 1) by omega]))), by omega, ?_⟩
    rw [e, uZ_uI (sh1 s), w1, gZ_uI (sh1 s), if_neg (by omega), mI_toInt]
    exact uI_ext fun j => by
      simp only [am_up]
      repeat' split
      all_goals first | rfl | (exfalso; omega) | (rename_i q _; rw [q]) | (rename_i q; rw [q])
  · intro _ h' ⟨h0, e⟩
    have w1 : wr (((n : Int) - 1 - (n - k)) - k) = ((n : Int) - 1 - (n - k)) - k := wr_id (by omega) (by omega)
    rw [b_X7_shift_5 (wr_id (by omega) (by omega)) (wr_id (by omega) (by omega)) (n' _ e) (s' _ e) (fun _ _ => by omega) (fun _ _ => by omega), if_pos (by omega), e]
    congr 2
    exact uI_ext fun j => by
      unfold fshift
      repeat' split
      all_goals first | rfl | (exfalso; omega)
  · exact (uI_id (sh1 s)).symm.trans (uI_ext fun j => (if_neg (by omega)).symm)
