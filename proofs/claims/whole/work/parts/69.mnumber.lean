/-! ===== the model says a number ===== -/
def Ms (h h' : am_H) (M : Nat) (A : cA) (es : List (Int × Bool)) : Prop := Md (SM M) h h' ∧ MR h' M (runA A es)
theorem Ms_tr {h h' h'' : am_H} {M : Nat} {A : cA} {xs ys : List (Int × Bool)} (a : Ms h h' M A xs) (b : Ms h' h'' M (runA A xs) ys) : Ms h h'' M A (xs ++ ys) := by
  refine ⟨Md_tr a.1 b.1, ?_⟩
  rw [runA_app]
  exact b.2
theorem Ms_nil {h : am_H} {M : Nat} {A : cA} (q : MR h M A) : Ms h h M A [] := ⟨Md_rf _ _, q⟩
theorem saysw {h : am_H} {M e : Nat} {A : cA} {c x1 x2 x' : Int} {b : Bool} (w1 : wr x1 = c) (w2 : wr x2 = x') (hb : x' = 0 ↔ b = false) (q : MR h M A) (f : Ft A e 1 0) (hc : 0 ≤ c ∧ c < 70) : ∃ h', rn m_X12_says 0 [.ref M, .int (mI x1), .int (mI x2), am_J, am_J] [] h = some (.inl none, h') ∧ Ms h h' M A [(c, b)] := by
  obtain ⟨f1, f2, f3⟩ := Ft_len f
  exact says_ok w1 w2 hb q f1 (by omega) hc
theorem saysPw {h : am_H} {M e : Nat} {A : cA} {x1 x' : Int} {b : Bool} (w1 : wr x1 = x') (hb : x' = 0 ↔ b = false) (q : MR h M A) (f : Ft A e 0 1) : ∃ h', rn m_X12_saysPlain 0 [.ref M, .int (mI x1)] [] h = some (.inl none, h') ∧ Ms h h' M A [((-1 : Int), b)] := by
  obtain ⟨f1, f2, f3⟩ := Ft_len f
  exact saysPlain_ok w1 hb q f1 (by omega)
theorem i_X12_saysNumber_0 : am_i m_X12_saysNumber 0 = some (0, .iconst 0, 1, [], 0) := rfl
theorem i_X12_saysNumber_1 : am_i m_X12_saysNumber 1 = some (1, .istore_n 3, 1, [], 0) := rfl
theorem b_X12_saysNumber_0 {a0 : Nat} {x1 x2 : Int} {h : am_H} : rn m_X12_saysNumber 0 [.ref a0, .int (mI x1), .int (mI x2), am_J, am_J, am_J] [] h = rn m_X12_saysNumber 2 [.ref a0, .int (mI x1), .int (mI x2), .int (mI 0), am_J, am_J] [] h := by
  refine (tq_iconst i_X12_saysNumber_0 rfl).trans ?_
  refine (tq_istore_n (L' := [.ref a0, .int (mI x1), .int (mI x2), .int (mI 0), am_J, am_J]) i_X12_saysNumber_1 rfl rfl).trans ?_
  rfl
theorem i_X12_saysNumber_2 : am_i m_X12_saysNumber 2 = some (2, .iload_n 3, 1, [], 0) := rfl
theorem i_X12_saysNumber_3 : am_i m_X12_saysNumber 3 = some (3, .bipush 12, 2, [], 12) := rfl
theorem i_X12_saysNumber_5 : am_i m_X12_saysNumber 5 = some (5, .if_icmp .ge 36, 3, [], 0) := rfl
theorem i_X12_saysNumber_8 : am_i m_X12_saysNumber 8 = some (8, .aload_n 0, 1, [], 0) := rfl
theorem i_X12_saysNumber_9 : am_i m_X12_saysNumber 9 = some (9, .iload_n 1, 1, [], 0) := rfl
theorem i_X12_saysNumber_10 : am_i m_X12_saysNumber 10 = some (10, .iload_n 3, 1, [], 0) := rfl
theorem i_X12_saysNumber_11 : am_i m_X12_saysNumber 11 = some (11, .iconst 5, 1, [], 5) := rfl
theorem i_X12_saysNumber_12 : am_i m_X12_saysNumber 12 = some (12, .invokestatic 3, 3, [0, 2], 0) := rfl
theorem i_X12_saysNumber_15 : am_i m_X12_saysNumber 15 = some (15, .iadd, 1, [], 0) := rfl
theorem i_X12_saysNumber_16 : am_i m_X12_saysNumber 16 = some (16, .iload_n 2, 1, [], 0) := rfl
theorem i_X12_saysNumber_17 : am_i m_X12_saysNumber 17 = some (17, .iload_n 3, 1, [], 0) := rfl
theorem i_X12_saysNumber_18 : am_i m_X12_saysNumber 18 = some (18, .if_icmp .le 7, 3, [], 0) := rfl
theorem i_X12_saysNumber_21 : am_i m_X12_saysNumber 21 = some (21, .iconst 1, 1, [], 1) := rfl
theorem i_X12_saysNumber_22 : am_i m_X12_saysNumber 22 = some (22, .goto 4, 3, [], 0) := rfl
theorem i_X12_saysNumber_25 : am_i m_X12_saysNumber 25 = some (25, .iconst 0, 1, [], 0) := rfl
theorem i_X12_saysNumber_26 : am_i m_X12_saysNumber 26 = some (26, .invokevirtual 246, 3, [90, 10], 0) := rfl
theorem i_X12_saysNumber_41 : am_i m_X12_saysNumber 41 = some (41, .iload_n 2, 1, [], 0) := rfl
theorem i_X12_saysNumber_42 : am_i m_X12_saysNumber 42 = some (42, .bipush 11, 2, [], 11) := rfl
theorem i_X12_saysNumber_44 : am_i m_X12_saysNumber 44 = some (44, .isub, 1, [], 0) := rfl
theorem i_X12_saysNumber_45 : am_i m_X12_saysNumber 45 = some (45, .istore_n 3, 1, [], 0) := rfl
theorem i_X12_saysNumber_46 : am_i m_X12_saysNumber 46 = some (46, .iconst 0, 1, [], 0) := rfl
theorem i_X12_saysNumber_47 : am_i m_X12_saysNumber 47 = some (47, .istore 4, 2, [], 0) := rfl
theorem b_X12_saysNumber_2 {a0 : Nat} {x1 x2 x3 x2' x3' : Int} {v4 v5 : Value} {h : am_H} (w2 : wr x2 = x2') (w3 : wr x3 = x3') (k1 : K10 h a0) : rn m_X12_saysNumber 2 [.ref a0, .int (mI x1), .int (mI x2), .int (mI x3), v4, v5] [] h = if 12 ≤ x3' then rn m_X12_saysNumber 49 [.ref a0, .int (mI x1), .int (mI x2), .int (mI (x2 - 11)), .int (mI 0), v5] [] h else cl m_X12_saysNumber 29 [.ref a0, .int (mI x1), .int (mI x2), .int (mI x3), v4, v5] [] (rn m_X12_says 0 [.ref a0, .int (mI (x1 + (min x3' 5))), .int (mI (bZ (¬ (x2' ≤ x3')))), am_J, am_J] [] h) := by
  refine (tq_iload_n i_X12_saysNumber_2 rfl rfl).trans ?_
  refine (tq_bipush i_X12_saysNumber_3 rfl).trans ?_
  refine (tq_icmp_ge (pt := 41) i_X12_saysNumber_5 w3 w_12 (by decide) rfl).trans ?_
  refine ite_congr rfl (fun c1 => ?_) (fun c1 => ?_)
  · refine (tq_iload_n i_X12_saysNumber_41 rfl rfl).trans ?_
    refine (tq_bipush i_X12_saysNumber_42 rfl).trans ?_
    refine (tq_isub i_X12_saysNumber_44 rfl).trans ?_
    refine (tq_istore_n (L' := [.ref a0, .int (mI x1), .int (mI x2), .int (mI (x2 - 11)), v4, v5]) i_X12_saysNumber_45 rfl rfl).trans ?_
    refine (tq_iconst i_X12_saysNumber_46 rfl).trans ?_
    refine (tq_istore (L' := [.ref a0, .int (mI x1), .int (mI x2), .int (mI (x2 - 11)), .int (mI 0), v5]) i_X12_saysNumber_47 rfl rfl).trans ?_
    rfl
  · refine (tq_aload_n i_X12_saysNumber_8 rfl (isA_ref _) rfl).trans ?_
    refine (tq_iload_n i_X12_saysNumber_9 rfl rfl).trans ?_
    refine (tq_iload_n i_X12_saysNumber_10 rfl rfl).trans ?_
    refine (tq_iconst i_X12_saysNumber_11 rfl).trans ?_
    refine (tq_min i_X12_saysNumber_12 w3 w_5 (Nat.le_of_ble_eq_true rfl) rfl).trans ?_
    refine (tq_iadd i_X12_saysNumber_15 rfl).trans ?_
    refine (tq_iload_n i_X12_saysNumber_16 rfl rfl).trans ?_
    refine (tq_iload_n i_X12_saysNumber_17 rfl rfl).trans ?_
    refine (tq_icmp_le (pt := 25) i_X12_saysNumber_18 w2 w3 (by decide) rfl).trans ?_
    refine Eq.trans (b := if x2' ≤ x3' then rn m_X12_saysNumber 26 [.ref a0, .int (mI x1), .int (mI x2), .int (mI x3), v4, v5] [.int (mI 0), .int (mI (x1 + (min x3' 5))), .ref a0] h else rn m_X12_saysNumber 26 [.ref a0, .int (mI x1), .int (mI x2), .int (mI x3), v4, v5] [.int (mI 1), .int (mI (x1 + (min x3' 5))), .ref a0] h) (ite_congr rfl (fun c2 => ?_) (fun c2 => ?_)) ?_
    · refine (tq_iconst i_X12_saysNumber_25 rfl).trans ?_
      rfl
    · refine (tq_iconst i_X12_saysNumber_21 rfl).trans ?_
      refine (tq_goto (pc' := 26) i_X12_saysNumber_22 (by decide)).trans ?_
      rfl
    refine Eq.trans ite_b01 ?_
    exact c_X12_says i_X12_saysNumber_26 (K10_s k1) (ltd d_X12_saysNumber (by decide)) stOk_0 rfl
theorem i_X12_saysNumber_29 : am_i m_X12_saysNumber 29 = some (29, .iload_n 2, 1, [], 0) := rfl
theorem i_X12_saysNumber_30 : am_i m_X12_saysNumber 30 = some (30, .iload_n 3, 1, [], 0) := rfl
theorem i_X12_saysNumber_31 : am_i m_X12_saysNumber 31 = some (31, .if_icmp .gt 4, 3, [], 0) := rfl
theorem i_X12_saysNumber_34 : am_i m_X12_saysNumber 34 = some (34, .return_, 1, [], 0) := rfl
theorem i_X12_saysNumber_35 : am_i m_X12_saysNumber 35 = some (35, .iinc 3 1, 3, [], 0) := rfl
theorem i_X12_saysNumber_38 : am_i m_X12_saysNumber 38 = some (38, .goto (-36), 3, [], 0) := rfl
theorem b_X12_saysNumber_29 {a0 : Nat} {x1 x2 x3 x2' x3' : Int} {v4 v5 : Value} {h : am_H} (w2 : wr x2 = x2') (w3 : wr x3 = x3') : rn m_X12_saysNumber 29 [.ref a0, .int (mI x1), .int (mI x2), .int (mI x3), v4, v5] [] h = if x3' < x2' then rn m_X12_saysNumber 2 [.ref a0, .int (mI x1), .int (mI x2), .int (mI (x3 + 1)), v4, v5] [] h else some (.inl none, h) := by
  refine (tq_iload_n i_X12_saysNumber_29 rfl rfl).trans ?_
  refine (tq_iload_n i_X12_saysNumber_30 rfl rfl).trans ?_
  refine (tq_icmp_gt (pt := 35) i_X12_saysNumber_31 w2 w3 (by decide) rfl).trans ?_
  refine ite_congr rfl (fun c1 => ?_) (fun c1 => ?_)
  · refine (tq_iinc (L' := [.ref a0, .int (mI x1), .int (mI x2), .int (mI (x3 + 1)), v4, v5]) i_X12_saysNumber_35 rfl rfl rfl).trans ?_
    refine (tq_goto (pc' := 2) i_X12_saysNumber_38 (by decide)).trans ?_
    rfl
  · exact tq_return i_X12_saysNumber_34 r_X12_saysNumber
theorem i_X12_saysNumber_49 : am_i m_X12_saysNumber 49 = some (49, .iload_n 3, 1, [], 0) := rfl
theorem i_X12_saysNumber_50 : am_i m_X12_saysNumber 50 = some (50, .iload 4, 2, [], 0) := rfl
theorem i_X12_saysNumber_52 : am_i m_X12_saysNumber 52 = some (52, .ishr, 1, [], 0) := rfl
theorem i_X12_saysNumber_53 : am_i m_X12_saysNumber 53 = some (53, .iconst 1, 1, [], 1) := rfl
theorem i_X12_saysNumber_54 : am_i m_X12_saysNumber 54 = some (54, .if_icmp .le 9, 3, [], 0) := rfl
theorem i_X12_saysNumber_57 : am_i m_X12_saysNumber 57 = some (57, .iinc 4 1, 3, [], 0) := rfl
theorem i_X12_saysNumber_60 : am_i m_X12_saysNumber 60 = some (60, .goto (-11), 3, [], 0) := rfl
theorem i_X12_saysNumber_63 : am_i m_X12_saysNumber 63 = some (63, .iconst 0, 1, [], 0) := rfl
theorem i_X12_saysNumber_64 : am_i m_X12_saysNumber 64 = some (64, .istore 5, 2, [], 0) := rfl
theorem b_X12_saysNumber_49 {a0 k_52 : Nat} {v1 v2 v5 : Value} {x3 x4 x3' x4' : Int} {h : am_H} (w3 : wr x3 = x3') (w4 : wr x4 = x4') (g1 : x4' = (k_52 : Int)) (g2 : k_52 < 32) : rn m_X12_saysNumber 49 [.ref a0, v1, v2, .int (mI x3), .int (mI x4), v5] [] h = if (wr (x3' / 2 ^ k_52)) ≤ 1 then rn m_X12_saysNumber 66 [.ref a0, v1, v2, .int (mI x3), .int (mI x4), .int (mI 0)] [] h else rn m_X12_saysNumber 49 [.ref a0, v1, v2, .int (mI x3), .int (mI (x4 + 1)), v5] [] h := by
  refine (tq_iload_n i_X12_saysNumber_49 rfl rfl).trans ?_
  refine (tq_iload i_X12_saysNumber_50 rfl rfl).trans ?_
  refine (tq_ishr i_X12_saysNumber_52 w3 (w4.trans g1) g2 rfl).trans ?_
  refine (tq_iconst i_X12_saysNumber_53 rfl).trans ?_
  refine (tq_icmp_le (pt := 63) i_X12_saysNumber_54 rfl w_1 (by decide) rfl).trans ?_
  refine ite_congr rfl (fun c1 => ?_) (fun c1 => ?_)
  · refine (tq_iconst i_X12_saysNumber_63 rfl).trans ?_
    refine (tq_istore (L' := [.ref a0, v1, v2, .int (mI x3), .int (mI x4), .int (mI 0)]) i_X12_saysNumber_64 rfl rfl).trans ?_
    rfl
  · refine (tq_iinc (L' := [.ref a0, v1, v2, .int (mI x3), .int (mI (x4 + 1)), v5]) i_X12_saysNumber_57 rfl rfl rfl).trans ?_
    refine (tq_goto (pc' := 49) i_X12_saysNumber_60 (by decide)).trans ?_
    rfl
theorem i_X12_saysNumber_66 : am_i m_X12_saysNumber 66 = some (66, .iload 5, 2, [], 0) := rfl
theorem i_X12_saysNumber_68 : am_i m_X12_saysNumber 68 = some (68, .iload 4, 2, [], 0) := rfl
theorem i_X12_saysNumber_70 : am_i m_X12_saysNumber 70 = some (70, .if_icmp .ge 14, 3, [], 0) := rfl
theorem i_X12_saysNumber_73 : am_i m_X12_saysNumber 73 = some (73, .aload_n 0, 1, [], 0) := rfl
theorem i_X12_saysNumber_74 : am_i m_X12_saysNumber 74 = some (74, .iconst 1, 1, [], 1) := rfl
theorem i_X12_saysNumber_75 : am_i m_X12_saysNumber 75 = some (75, .invokevirtual 250, 3, [91, 10], 0) := rfl
theorem i_X12_saysNumber_84 : am_i m_X12_saysNumber 84 = some (84, .aload_n 0, 1, [], 0) := rfl
theorem i_X12_saysNumber_85 : am_i m_X12_saysNumber 85 = some (85, .iconst 0, 1, [], 0) := rfl
theorem i_X12_saysNumber_86 : am_i m_X12_saysNumber 86 = some (86, .invokevirtual 250, 3, [91, 10], 0) := rfl
theorem b_X12_saysNumber_66 {a0 : Nat} {v1 v2 : Value} {x3 x4 x5 x4' x5' : Int} {h : am_H} (w4 : wr x4 = x4') (w5 : wr x5 = x5') (k1 : K10 h a0) : rn m_X12_saysNumber 66 [.ref a0, v1, v2, .int (mI x3), .int (mI x4), .int (mI x5)] [] h = if x4' ≤ x5' then cl m_X12_saysNumber 89 [.ref a0, v1, v2, .int (mI x3), .int (mI x4), .int (mI x5)] [] (rn m_X12_saysPlain 0 [.ref a0, .int (mI 0)] [] h) else cl m_X12_saysNumber 78 [.ref a0, v1, v2, .int (mI x3), .int (mI x4), .int (mI x5)] [] (rn m_X12_saysPlain 0 [.ref a0, .int (mI 1)] [] h) := by
  refine (tq_iload i_X12_saysNumber_66 rfl rfl).trans ?_
  refine (tq_iload i_X12_saysNumber_68 rfl rfl).trans ?_
  refine (tq_icmp_ge (pt := 84) i_X12_saysNumber_70 w5 w4 (by decide) rfl).trans ?_
  refine ite_congr rfl (fun c1 => ?_) (fun c1 => ?_)
  · refine (tq_aload_n i_X12_saysNumber_84 rfl (isA_ref _) rfl).trans ?_
    refine (tq_iconst i_X12_saysNumber_85 rfl).trans ?_
    exact c_X12_saysPlain i_X12_saysNumber_86 (K10_s k1) (ltd d_X12_saysNumber (by decide)) stOk_0 rfl
  · refine (tq_aload_n i_X12_saysNumber_73 rfl (isA_ref _) rfl).trans ?_
    refine (tq_iconst i_X12_saysNumber_74 rfl).trans ?_
    exact c_X12_saysPlain i_X12_saysNumber_75 (K10_s k1) (ltd d_X12_saysNumber (by decide)) stOk_0 rfl
theorem i_X12_saysNumber_78 : am_i m_X12_saysNumber 78 = some (78, .iinc 5 1, 3, [], 0) := rfl
theorem i_X12_saysNumber_81 : am_i m_X12_saysNumber 81 = some (81, .goto (-15), 3, [], 0) := rfl
theorem b_X12_saysNumber_78 {a0 : Nat} {v1 v2 : Value} {x3 x4 x5 : Int} {h : am_H} : rn m_X12_saysNumber 78 [.ref a0, v1, v2, .int (mI x3), .int (mI x4), .int (mI x5)] [] h = rn m_X12_saysNumber 66 [.ref a0, v1, v2, .int (mI x3), .int (mI x4), .int (mI (x5 + 1))] [] h := by
  refine (tq_iinc (L' := [.ref a0, v1, v2, .int (mI x3), .int (mI x4), .int (mI (x5 + 1))]) i_X12_saysNumber_78 rfl rfl rfl).trans ?_
  refine (tq_goto (pc' := 66) i_X12_saysNumber_81 (by decide)).trans ?_
  rfl
theorem i_X12_saysNumber_89 : am_i m_X12_saysNumber 89 = some (89, .iload 4, 2, [], 0) := rfl
theorem i_X12_saysNumber_91 : am_i m_X12_saysNumber 91 = some (91, .iconst 1, 1, [], 1) := rfl
theorem i_X12_saysNumber_92 : am_i m_X12_saysNumber 92 = some (92, .isub, 1, [], 0) := rfl
theorem i_X12_saysNumber_93 : am_i m_X12_saysNumber 93 = some (93, .istore 5, 2, [], 0) := rfl
theorem b_X12_saysNumber_89 {a0 : Nat} {v1 v2 v5 : Value} {x3 x4 : Int} {h : am_H} : rn m_X12_saysNumber 89 [.ref a0, v1, v2, .int (mI x3), .int (mI x4), v5] [] h = rn m_X12_saysNumber 95 [.ref a0, v1, v2, .int (mI x3), .int (mI x4), .int (mI (x4 - 1))] [] h := by
  refine (tq_iload i_X12_saysNumber_89 rfl rfl).trans ?_
  refine (tq_iconst i_X12_saysNumber_91 rfl).trans ?_
  refine (tq_isub i_X12_saysNumber_92 rfl).trans ?_
  refine (tq_istore (L' := [.ref a0, v1, v2, .int (mI x3), .int (mI x4), .int (mI (x4 - 1))]) i_X12_saysNumber_93 rfl rfl).trans ?_
  rfl
theorem i_X12_saysNumber_95 : am_i m_X12_saysNumber 95 = some (95, .iload 5, 2, [], 0) := rfl
theorem i_X12_saysNumber_97 : am_i m_X12_saysNumber 97 = some (97, .ifCond .lt 28, 3, [], 0) := rfl
theorem i_X12_saysNumber_100 : am_i m_X12_saysNumber 100 = some (100, .aload_n 0, 1, [], 0) := rfl
theorem i_X12_saysNumber_101 : am_i m_X12_saysNumber 101 = some (101, .iload_n 3, 1, [], 0) := rfl
theorem i_X12_saysNumber_102 : am_i m_X12_saysNumber 102 = some (102, .iload 5, 2, [], 0) := rfl
theorem i_X12_saysNumber_104 : am_i m_X12_saysNumber 104 = some (104, .ishr, 1, [], 0) := rfl
theorem i_X12_saysNumber_105 : am_i m_X12_saysNumber 105 = some (105, .iconst 1, 1, [], 1) := rfl
theorem i_X12_saysNumber_106 : am_i m_X12_saysNumber 106 = some (106, .iand, 1, [], 0) := rfl
theorem i_X12_saysNumber_107 : am_i m_X12_saysNumber 107 = some (107, .iconst 1, 1, [], 1) := rfl
theorem i_X12_saysNumber_108 : am_i m_X12_saysNumber 108 = some (108, .if_icmp .ne 7, 3, [], 0) := rfl
theorem i_X12_saysNumber_111 : am_i m_X12_saysNumber 111 = some (111, .iconst 1, 1, [], 1) := rfl
theorem i_X12_saysNumber_112 : am_i m_X12_saysNumber 112 = some (112, .goto 4, 3, [], 0) := rfl
theorem i_X12_saysNumber_115 : am_i m_X12_saysNumber 115 = some (115, .iconst 0, 1, [], 0) := rfl
theorem i_X12_saysNumber_116 : am_i m_X12_saysNumber 116 = some (116, .invokevirtual 250, 3, [91, 10], 0) := rfl
theorem i_X12_saysNumber_125 : am_i m_X12_saysNumber 125 = some (125, .return_, 1, [], 0) := rfl
theorem b_X12_saysNumber_95 {a0 k_104 : Nat} {v1 v2 v4 : Value} {x3 x5 x3' x5' : Int} {h : am_H} (w3 : wr x3 = x3') (w5 : wr x5 = x5') (g1 : (¬ (x5' < 0)) → (x5' = (k_104 : Int))) (g2 : (¬ (x5' < 0)) → (k_104 < 32)) (k3 : K10 h a0) : rn m_X12_saysNumber 95 [.ref a0, v1, v2, .int (mI x3), v4, .int (mI x5)] [] h = if x5' < 0 then some (.inl none, h) else cl m_X12_saysNumber 119 [.ref a0, v1, v2, .int (mI x3), v4, .int (mI x5)] [] (rn m_X12_saysPlain 0 [.ref a0, .int (mI (bZ (¬ (¬ ((wr (x3' / 2 ^ k_104)) % 2 ^ 1) = 1))))] [] h) := by
  refine (tq_iload i_X12_saysNumber_95 rfl rfl).trans ?_
  refine (tq_if_lt (pt := 125) i_X12_saysNumber_97 w5 (by decide) rfl).trans ?_
  refine ite_congr rfl (fun c1 => ?_) (fun c1 => ?_)
  · exact tq_return i_X12_saysNumber_125 r_X12_saysNumber
  · refine (tq_aload_n i_X12_saysNumber_100 rfl (isA_ref _) rfl).trans ?_
    refine (tq_iload_n i_X12_saysNumber_101 rfl rfl).trans ?_
    refine (tq_iload i_X12_saysNumber_102 rfl rfl).trans ?_
    refine (tq_ishr i_X12_saysNumber_104 w3 (w5.trans (g1 c1)) (g2 c1) rfl).trans ?_
    refine (tq_iconst i_X12_saysNumber_105 rfl).trans ?_
    refine (tq_imask 1 i_X12_saysNumber_106 rfl (by decide) (by decide) rfl).trans ?_
    refine (tq_iconst i_X12_saysNumber_107 rfl).trans ?_
    refine (tq_icmp_ne (pt := 115) i_X12_saysNumber_108 (wr_mask (by decide)) w_1 (by decide) rfl).trans ?_
    refine Eq.trans (b := if ¬ ((wr (x3' / 2 ^ k_104)) % 2 ^ 1) = 1 then rn m_X12_saysNumber 116 [.ref a0, v1, v2, .int (mI x3), v4, .int (mI x5)] [.int (mI 0), .ref a0] h else rn m_X12_saysNumber 116 [.ref a0, v1, v2, .int (mI x3), v4, .int (mI x5)] [.int (mI 1), .ref a0] h) (ite_congr rfl (fun c2 => ?_) (fun c2 => ?_)) ?_
    · refine (tq_iconst i_X12_saysNumber_115 rfl).trans ?_
      rfl
    · refine (tq_iconst i_X12_saysNumber_111 rfl).trans ?_
      refine (tq_goto (pc' := 116) i_X12_saysNumber_112 (by decide)).trans ?_
      rfl
    refine Eq.trans ite_b01 ?_
    exact c_X12_saysPlain i_X12_saysNumber_116 (K10_s k3) (ltd d_X12_saysNumber (by decide)) stOk_0 rfl
theorem i_X12_saysNumber_119 : am_i m_X12_saysNumber 119 = some (119, .iinc 5 (-1), 3, [], 0) := rfl
theorem i_X12_saysNumber_122 : am_i m_X12_saysNumber 122 = some (122, .goto (-27), 3, [], 0) := rfl
theorem b_X12_saysNumber_119 {a0 : Nat} {v1 v2 v4 : Value} {x3 x5 : Int} {h : am_H} : rn m_X12_saysNumber 119 [.ref a0, v1, v2, .int (mI x3), v4, .int (mI x5)] [] h = rn m_X12_saysNumber 95 [.ref a0, v1, v2, .int (mI x3), (am_k1 v4), .int (mI (x5 + (-1)))] [] h := by
  refine (tq_iinc (L' := [.ref a0, v1, v2, .int (mI x3), (am_k1 v4), .int (mI (x5 + (-1)))]) i_X12_saysNumber_119 rfl rfl rfl).trans ?_
  refine (tq_goto (pc' := 95) i_X12_saysNumber_122 (by decide)).trans ?_
  rfl
theorem snB_ok {M : Nat} {c n : Int} (hc : 0 ≤ c ∧ c + 5 < 70) (hn : 0 ≤ n ∧ n ≤ 100000) : ∀ (f : Nat) (j : Int), j + f = 12 → 0 ≤ j → j ≤ n → ∀ (h : am_H) (A : cA) (e np : Nat) (v5 : Value), MR h M A → Ft A e (nC (evB c n f j)) np → ∃ h', Ms h h' M A (evB c n f j) ∧ (11 < n → rn m_X12_saysNumber 2 [.ref M, .int (mI c), .int (mI n), .int (mI j), am_J, v5] [] h = rn m_X12_saysNumber 49 [.ref M, .int (mI c), .int (mI n), .int (mI (n - 11)), .int (mI 0), v5] [] h') ∧ (¬ 11 < n → rn m_X12_saysNumber 2 [.ref M, .int (mI c), .int (mI n), .int (mI j), am_J, v5] [] h = some (.inl none, h'))
  | 0, j, hj, j0, jn, h, A, e, np, v5, q, f => by
    have st := b_X12_saysNumber_2 (a0 := M) (x1 := c) (v4 := am_J) (v5 := v5) (h := h) (wr_id (z := n) (by omega) (by omega)) (wr_id (z := j) (by omega) (by omega)) q.1
    rw [if_pos (by omega)] at st
    exact ⟨h, Ms_nil q, fun _ => st, fun g => absurd (by omega) g⟩
  | f + 1, j, hj, j0, jn, h, A, e, np, v5, q, ft => by
    have st := b_X12_saysNumber_2 (a0 := M) (x1 := c) (v4 := am_J) (v5 := v5) (h := h) (wr_id (z := n) (by omega) (by omega)) (wr_id (z := j) (by omega) (by omega)) q.1
    have eb : bZ (¬ (n ≤ j)) = bZ (j < n) := bZ_congr (by omega)
    rw [if_neg (by omega), eb] at st
    have e0 : ¬ (c + min j 5 < 0) := by omega
    have ft1 : Ft A e 1 0 := Ft_mono ft (by simp only [evB, nC]; rw [if_neg e0]; omega) (by omega)
    obtain ⟨h1, e1, r1⟩ := saysw (x1 := c + min j 5) (x2 := bZ (j < n)) (b := decide (j < n)) (wr_id (by omega) (by omega)) (wr_bZ _) bZ_iff q ft1 (by omega)
    have st1 := b_X12_saysNumber_29 (a0 := M) (x1 := c) (v4 := am_J) (v5 := v5) (h := h1) (wr_id (z := n) (by omega) (by omega)) (wr_id (z := j) (by omega) (by omega))
    rw [e1, cl_n] at st
    by_cases g : j < n
    · have ih := snB_ok hc hn f (j + 1) (by omega) (by omega) (by omega) h1 (runA A [(c + min j 5, decide (j < n))]) (e + 1) np v5 r1.2 (by
        refine Ft_run [_] (Ft_mono ft ?_ ?_)
        · simp only [evB, nC, if_pos g]; rw [if_neg e0]; omega
        · simp only [nP]; rw [if_neg e0]; omega)
      obtain ⟨h2, r2, a2, b2⟩ := ih
      rw [if_pos g] at st1
      refine ⟨h2, ?_, fun g2 => st.trans (st1.trans (a2 g2)), fun g2 => st.trans (st1.trans (b2 g2))⟩
      simp only [evB, if_pos g]
      exact Ms_tr r1 r2
    · rw [if_neg g] at st1
      refine ⟨h1, ?_, fun g2 => absurd g2 (by omega), fun _ => st.trans st1⟩
      simp only [evB, if_neg g]
      exact r1
theorem snD_ok {M : Nat} {m : Int} {v1 v2 : Value} (hm : 1 ≤ m ∧ m ≤ 100000) : ∀ (t : Nat), t < 32 → ∀ (h : am_H) (A : cA) (e nc : Nat) (v4 : Value), MR h M A → Ft A e nc t → ∃ h', rn m_X12_saysNumber 95 [.ref M, v1, v2, .int (mI m), v4, .int (mI ((t : Int) - 1))] [] h = some (.inl none, h') ∧ Ms h h' M A (evD m t)
  | 0, _, h, A, e, nc, v4, q, ft => by
    have st := b_X12_saysNumber_95 (a0 := M) (k_104 := 0) (v1 := v1) (v2 := v2) (v4 := v4) (h := h) (wr_id (z := m) (by omega) (by omega)) (wr_id (z := ((0 : Nat) : Int) - 1) (by omega) (by omega)) (fun g => absurd (by omega) g) (fun _ => by decide) q.1
    rw [if_pos (by omega)] at st
    exact ⟨h, st, Ms_nil q⟩
  | t + 1, ht, h, A, e, nc, v4, q, ft => by
    have st := b_X12_saysNumber_95 (a0 := M) (k_104 := t) (v1 := v1) (v2 := v2) (v4 := v4) (h := h) (wr_id (z := m) (by omega) (by omega)) (wr_id (z := ((t + 1 : Nat) : Int) - 1) (by omega) (by omega)) (fun g => by omega) (fun _ => by omega) q.1
    have pb := pw_b (m := m) (by omega) t
    have eb : bZ (¬ (¬ ((wr (m / 2 ^ t)) % 2 ^ 1) = 1)) = bZ (m / 2 ^ t % 2 = 1) := bZ_congr (by rw [wr_id (by omega) (by omega), pw1]; omega)
    rw [if_neg (by omega), eb] at st
    obtain ⟨h1, e1, r1⟩ := saysPw (x1 := bZ (m / 2 ^ t % 2 = 1)) (b := decide (m / 2 ^ t % 2 = 1)) (wr_bZ _) bZ_iff q (Ft_mono ft (by omega) (by omega))
    rw [e1, cl_n, b_X12_saysNumber_119, show ((t + 1 : Nat) : Int) - 1 + -1 = (t : Int) - 1 by omega] at st
    obtain ⟨h2, e2, r2⟩ := snD_ok hm t (by omega) h1 (runA A [(-1, decide (m / 2 ^ t % 2 = 1))]) (e + 1) nc (am_k1 v4) r1.2 (Ft_run [_] (Ft_mono ft (by simp only [nC]; rw [if_pos (by decide)]; omega) (by simp only [nP]; rw [if_pos (by decide)]; omega)))
    exact ⟨h2, st.trans e2, Ms_tr r1 r2⟩
theorem snR_ok {M : Nat} {m : Int} {v1 v2 : Value} (hm : 1 ≤ m ∧ m ≤ 100000) (ht : hl m < 32) : ∀ (k i : Nat), i + k = hl m → ∀ (h : am_H) (A : cA) (e nc : Nat), MR h M A → Ft A e nc (k + 1 + hl m) → ∃ h', rn m_X12_saysNumber 66 [.ref M, v1, v2, .int (mI m), .int (mI (hl m : Int)), .int (mI (i : Int))] [] h = some (.inl none, h') ∧ Ms h h' M A (List.replicate k (-1, true) ++ ((-1, false) :: evD m (hl m)))
  | 0, i, hi, h, A, e, nc, q, ft => by
    have st := b_X12_saysNumber_66 (a0 := M) (v1 := v1) (v2 := v2) (x3 := m) (h := h) (wr_id (z := (hl m : Int)) (by omega) (by omega)) (wr_id (z := (i : Int)) (by omega) (by omega)) q.1
    rw [if_pos (by omega)] at st
    obtain ⟨h1, e1, r1⟩ := saysPw (x1 := 0) (x' := 0) (b := false) (wr_id (by omega) (by omega)) (by decide) q (Ft_mono ft (by omega) (by omega))
    rw [e1, cl_n, b_X12_saysNumber_89] at st
    obtain ⟨h2, e2, r2⟩ := snD_ok (v1 := v1) (v2 := v2) hm (hl m) ht h1 (runA A [(-1, false)]) (e + 1) nc _ r1.2 (Ft_run [_] (Ft_mono ft (by simp only [nC]; rw [if_pos (by decide)]; omega) (by simp only [nP]; rw [if_pos (by decide)]; omega)))
    have r3 : Ms h h2 M A ([(-1, false)] ++ evD m (hl m)) := Ms_tr r1 r2
    exact ⟨h2, st.trans e2, r3⟩
  | k + 1, i, hi, h, A, e, nc, q, ft => by
    have st := b_X12_saysNumber_66 (a0 := M) (v1 := v1) (v2 := v2) (x3 := m) (h := h) (wr_id (z := (hl m : Int)) (by omega) (by omega)) (wr_id (z := (i : Int)) (by omega) (by omega)) q.1
    rw [if_neg (by omega)] at st
    obtain ⟨h1, e1, r1⟩ := saysPw (x1 := 1) (x' := 1) (b := true) (wr_id (by omega) (by omega)) (by decide) q (Ft_mono ft (by omega) (by omega))
    rw [e1, cl_n, b_X12_saysNumber_78, show (i : Int) + 1 = ((i + 1 : Nat) : Int) by omega] at st
    obtain ⟨h2, e2, r2⟩ := snR_ok (v1 := v1) (v2 := v2) hm ht k (i + 1) (by omega) h1 (runA A [(-1, true)]) (e + 1) nc r1.2 (Ft_run [_] (Ft_mono ft (by simp only [nC]; rw [if_pos (by decide)]; omega) (by simp only [nP]; rw [if_pos (by decide)]; omega)))
    have r3 : Ms h h2 M A ([(-1, true)] ++ (List.replicate k (-1, true) ++ ((-1, false) :: evD m (hl m)))) := Ms_tr r1 r2
    rw [List.replicate_succ]
    exact ⟨h2, st.trans e2, r3⟩
theorem snH_ok {M : Nat} {m : Int} {v1 v2 v5 : Value} {h : am_H} (hm : 1 ≤ m ∧ m ≤ 100000) (ht : hl m < 32) : ∀ (k i : Nat), i + k = hl m → rn m_X12_saysNumber 49 [.ref M, v1, v2, .int (mI m), .int (mI (i : Int)), v5] [] h = rn m_X12_saysNumber 66 [.ref M, v1, v2, .int (mI m), .int (mI (hl m : Int)), .int (mI 0)] [] h
  | 0, i, hi => by
    have st := b_X12_saysNumber_49 (a0 := M) (k_52 := i) (v1 := v1) (v2 := v2) (v5 := v5) (h := h) (wr_id (z := m) (by omega) (by omega)) (wr_id (z := (i : Int)) (by omega) (by omega)) rfl (by omega)
    have pb := pw_b (m := m) (by omega) i
    have := hl_ok hm.1 i
    rw [wr_id (z := m / 2 ^ i) (by omega) (by omega), if_pos (by omega), show i = hl m by omega] at st
    rw [show i = hl m by omega]
    exact st
  | k + 1, i, hi => by
    have st := b_X12_saysNumber_49 (a0 := M) (k_52 := i) (v1 := v1) (v2 := v2) (v5 := v5) (h := h) (wr_id (z := m) (by omega) (by omega)) (wr_id (z := (i : Int)) (by omega) (by omega)) rfl (by omega)
    have pb := pw_b (m := m) (by omega) i
    have := hl_ok hm.1 i
    rw [wr_id (z := m / 2 ^ i) (by omega) (by omega), if_neg (by omega), show (i : Int) + 1 = ((i + 1 : Nat) : Int) by omega] at st
    exact st.trans (snH_ok hm ht k (i + 1) (by omega))
theorem saysNumber_ok {h : am_H} {M e : Nat} {A : cA} {c n : Int} (q : MR h M A) (f : Ft A e (nC (evN c n)) (nP (evN c n))) (hc : 0 ≤ c ∧ c + 5 < 70) (hn : 0 ≤ n ∧ n ≤ 100000) : ∃ h', rn m_X12_saysNumber 0 [.ref M, .int (mI c), .int (mI n), am_J, am_J, am_J] [] h = some (.inl none, h') ∧ Ms h h' M A (evN c n) := by
  unfold evN at *
  rw [nC_app, nP_app] at f
  obtain ⟨h1, r1, a1, b1⟩ := snB_ok hc hn 12 0 (by omega) (by omega) (by omega) h A e (nP (evB c n 12 0) + nP (if 11 < n then evR (n - 11) else [])) am_J q (Ft_mono f (by omega) (by omega))
  rw [b_X12_saysNumber_0]
  by_cases g : 11 < n
  · rw [if_pos g] at f ⊢
    have p17 : (2 : Int) ^ (16 + 1) = 131072 := by decide
    have hb : hl (n - 11) ≤ 16 := hl_b (by omega) (by omega)
    have cR := nC_evR (n - 11)
    have f1 := Ft_run (evB c n 12 0) f
    have e4 := snH_ok (M := M) (v1 := .int (mI c)) (v2 := .int (mI n)) (v5 := am_J) (m := n - 11) (h := h1) (by omega) (by omega) (hl (n - 11)) 0 (by omega)
    obtain ⟨h2, e2, r2⟩ := snR_ok (v1 := .int (mI c)) (v2 := .int (mI n)) (m := n - 11) (by omega) (by omega) (hl (n - 11)) 0 (by omega) h1 _ _ _ r1.2 (Ft_mono f1 (Nat.le_refl _) (by omega))
    exact ⟨h2, (a1 g).trans (e4.trans e2), Ms_tr r1 r2⟩
  · rw [if_neg g]
    rw [List.append_nil]
    exact ⟨h1, b1 g, r1⟩
