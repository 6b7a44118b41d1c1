/-! ===== the class writes modes, vectors, squares ===== -/
def RW (h : am_H) : Prop := gn h 0 = 16 ∧ sh h 0 = (1, 7) ∧ ∀ k, 0 ≤ k → k < 16 → gZ h 0 k = rowp k
def WSt (h : am_H) (S w : Nat) : Prop := 0 < S ∧ K7 h S ∧ fA h S 2 = some w ∧ (w = S + 1 ∨ w = S + 4) ∧ RW h
theorem SW_n {w c k : Nat} (h : c ≠ w ∧ c ≠ w + 1 ∧ c ≠ w + 2) : ¬ SW w c k := by unfold SW; omega
theorem WSt_md {h h' : am_H} {S w : Nat} (m : Md (SW w) h h') (s : WSt h S w) : WSt h' S w := by
  obtain ⟨s0, s1, s2, s3, s4, s5, s6⟩ := s
  exact ⟨s0, K7_sm m.1 s1, (md_fA m (SW_n (by omega))).trans s2, s3, (md_gn m _).trans s4, (md_sh m _).trans s5, fun k k0 k1 => (md_gZ m (SW_n (by omega)) k).trans (s6 k k0 k1)⟩
theorem Ft_b {A : cA} {e n p : Nat} {c : Int} {b : Bool} (hc : 0 ≤ c) (f : Ft A e (n + 1) p) : Ft (runA A [(c, b)]) (e + 1) n p := by
  refine Ft_run [_] (Ft_mono f ?_ ?_)
  · simp only [nC]; rw [if_neg (by omega)]; omega
  · simp only [nP]; rw [if_neg (by omega)]; omega
theorem Ft_p {A : cA} {e n p : Nat} {b : Bool} (f : Ft A e n (p + 1)) : Ft (runA A [(-1, b)]) (e + 1) n p := by
  refine Ft_run [_] (Ft_mono f ?_ ?_)
  · simp only [nC]; rw [if_pos (by decide)]; omega
  · simp only [nP]; rw [if_pos (by decide)]; omega
theorem bitP {h : am_H} {w e : Nat} {A : cA} {c x1 : Int} {p : Prop} [Decidable p] (w1 : wr x1 = c) (q : WR h w A e) (f : Ft A e 1 0) (hc : 0 ≤ c ∧ c < 70) : ∃ h', rn m_X10_bit 0 [.ref w, .int (mI x1), .int (mI (bZ p)), am_J, am_J, am_J] [] h = some (.inl none, h') ∧ Wr h h' w A e [(c, decide p)] := bitw w1 (wr_bZ _) bZ_iff q f hc
theorem plainP {h : am_H} {w e : Nat} {A : cA} {p : Prop} [Decidable p] (q : WR h w A e) (f : Ft A e 0 1) : ∃ h', rn m_X10_plain 0 [.ref w, .int (mI (bZ p)), am_J, am_J] [] h = some (.inl none, h') ∧ Wr h h' w A e [((-1 : Int), decide p)] := plainw (wr_bZ _) bZ_iff q f
theorem i_X8_writeMode_0 : am_i m_X8_writeMode 0 = some (0, .aload_n 1, 1, [], 0) := rfl
theorem i_X8_writeMode_1 : am_i m_X8_writeMode 1 = some (1, .invokevirtual 119, 3, [27, 6], 0) := rfl
theorem i_X8_writeMode_4 : am_i m_X8_writeMode 4 = some (4, .ifCond .eq 26, 3, [], 0) := rfl
theorem i_X8_writeMode_7 : am_i m_X8_writeMode 7 = some (7, .aload_n 0, 1, [], 0) := rfl
theorem i_X8_writeMode_8 : am_i m_X8_writeMode 8 = some (8, .getfield 21, 3, [7, 2, 0], 0) := rfl
theorem i_X8_writeMode_11 : am_i m_X8_writeMode 11 = some (11, .iconst 1, 1, [], 1) := rfl
theorem i_X8_writeMode_12 : am_i m_X8_writeMode 12 = some (12, .aload_n 0, 1, [], 0) := rfl
theorem i_X8_writeMode_13 : am_i m_X8_writeMode 13 = some (13, .getfield 27, 3, [7, 3, 0], 0) := rfl
theorem i_X8_writeMode_16 : am_i m_X8_writeMode 16 = some (16, .invokevirtual 122, 3, [20, 5], 0) := rfl
theorem i_X8_writeMode_19 : am_i m_X8_writeMode 19 = some (19, .ifCond .ne 7, 3, [], 0) := rfl
theorem i_X8_writeMode_22 : am_i m_X8_writeMode 22 = some (22, .iconst 1, 1, [], 1) := rfl
theorem i_X8_writeMode_23 : am_i m_X8_writeMode 23 = some (23, .goto 4, 3, [], 0) := rfl
theorem i_X8_writeMode_26 : am_i m_X8_writeMode 26 = some (26, .iconst 0, 1, [], 0) := rfl
theorem i_X8_writeMode_27 : am_i m_X8_writeMode 27 = some (27, .invokevirtual 59, 3, [72, 8], 0) := rfl
theorem b_X8_writeMode_0 {a0 a1 a0_writer : Nat} {h : am_H} (k1 : K6 h a1) (k2 : K7 h a0) (e3 : fA h a0 2 = some a0_writer) (k4 : K8 h a0_writer) : rn m_X8_writeMode 0 [.ref a0, .ref a1] [] h = if (¬ ((fZ h a1 0) = 105)) then cl m_X8_writeMode 30 [.ref a0, .ref a1] [] (rn m_X10_bit 0 [.ref a0_writer, .int (mI 1), .int (mI (bZ (¬ (¬ (4 ≤ (fZ h (a0 + 7) 4)))))), am_J, am_J, am_J] [] h) else rn m_X8_writeMode 30 [.ref a0, .ref a1] [] h := by
  refine (tq_aload_n i_X8_writeMode_0 rfl (isA_ref _) rfl).trans ?_
  refine (c_X6_leansOnFirst i_X8_writeMode_1 (K6_s k1) (ltd d_X8_writeMode (by decide)) stOk_0 rfl).trans ?_
  refine (congrArg (cl _ _ _ _) (b_X6_leansOnFirst_0 k1)).trans ?_
  refine (cl_v _ _ _ _ _ _).trans ?_
  refine (tq_ifb_eq (pt := 30) i_X8_writeMode_4 (by decide) rfl).trans ?_
  refine ite_congr rfl (fun c1 => ?_) (fun c1 => ?_)
  · refine (tq_aload_n i_X8_writeMode_7 rfl (isA_ref _) rfl).trans ?_
    refine (tq_getfield i_X8_writeMode_8 (K7_s k2) (gR (g_7_2 (K7_s k2)) e3) (isV_ref _) rfl).trans ?_
    refine (tq_iconst i_X8_writeMode_11 rfl).trans ?_
    refine (tq_aload_n i_X8_writeMode_12 rfl (isA_ref _) rfl).trans ?_
    refine (tq_getfield i_X8_writeMode_13 (K7_s k2) (gR (g_7_3 (K7_s k2)) (K7_e3 k2)) (isV_ref _) rfl).trans ?_
    refine (c_X5_isOfBorder i_X8_writeMode_16 (K5_s (K7_k3 k2)) (ltd d_X8_writeMode (by decide)) (stOk_2 _ _) rfl).trans ?_
    refine (congrArg (cl _ _ _ _) (b_X5_isOfBorder_0 (K7_k3 k2))).trans ?_
    refine (cl_v _ _ _ _ _ _).trans ?_
    refine (tq_ifb_ne (pt := 26) i_X8_writeMode_19 (by decide) rfl).trans ?_
    refine Eq.trans (b := if (¬ (4 ≤ (fZ h (a0 + 7) 4))) then rn m_X8_writeMode 27 [.ref a0, .ref a1] [.int (mI 0), .int (mI 1), .ref a0_writer] h else rn m_X8_writeMode 27 [.ref a0, .ref a1] [.int (mI 1), .int (mI 1), .ref a0_writer] h) (ite_congr rfl (fun c2 => ?_) (fun c2 => ?_)) ?_
    · refine (tq_iconst i_X8_writeMode_26 rfl).trans ?_
      rfl
    · refine (tq_iconst i_X8_writeMode_22 rfl).trans ?_
      refine (tq_goto (pc' := 27) i_X8_writeMode_23 (by decide)).trans ?_
      rfl
    refine Eq.trans ite_b01 ?_
    exact c_X10_bit i_X8_writeMode_27 (K8_s k4) (ltd d_X8_writeMode (by decide)) stOk_0 rfl
  · rfl
theorem i_X8_writeMode_30 : am_i m_X8_writeMode 30 = some (30, .aload_n 0, 1, [], 0) := rfl
theorem i_X8_writeMode_31 : am_i m_X8_writeMode 31 = some (31, .getfield 27, 3, [7, 3, 0], 0) := rfl
theorem i_X8_writeMode_34 : am_i m_X8_writeMode 34 = some (34, .invokevirtual 122, 3, [20, 5], 0) := rfl
theorem i_X8_writeMode_37 : am_i m_X8_writeMode 37 = some (37, .ifCond .eq 72, 3, [], 0) := rfl
theorem i_X8_writeMode_40 : am_i m_X8_writeMode 40 = some (40, .aload_n 0, 1, [], 0) := rfl
theorem i_X8_writeMode_41 : am_i m_X8_writeMode 41 = some (41, .getfield 21, 3, [7, 2, 0], 0) := rfl
theorem i_X8_writeMode_44 : am_i m_X8_writeMode 44 = some (44, .iconst 4, 1, [], 4) := rfl
theorem i_X8_writeMode_45 : am_i m_X8_writeMode 45 = some (45, .aload_n 0, 1, [], 0) := rfl
theorem i_X8_writeMode_46 : am_i m_X8_writeMode 46 = some (46, .getfield 27, 3, [7, 3, 0], 0) := rfl
theorem i_X8_writeMode_49 : am_i m_X8_writeMode 49 = some (49, .getfield 125, 3, [5, 4, 1], 0) := rfl
theorem i_X8_writeMode_52 : am_i m_X8_writeMode 52 = some (52, .iconst 2, 1, [], 2) := rfl
theorem i_X8_writeMode_53 : am_i m_X8_writeMode 53 = some (53, .if_icmp .lt 7, 3, [], 0) := rfl
theorem i_X8_writeMode_56 : am_i m_X8_writeMode 56 = some (56, .iconst 1, 1, [], 1) := rfl
theorem i_X8_writeMode_57 : am_i m_X8_writeMode 57 = some (57, .goto 4, 3, [], 0) := rfl
theorem i_X8_writeMode_60 : am_i m_X8_writeMode 60 = some (60, .iconst 0, 1, [], 0) := rfl
theorem i_X8_writeMode_61 : am_i m_X8_writeMode 61 = some (61, .invokevirtual 59, 3, [72, 8], 0) := rfl
theorem i_X8_writeMode_109 : am_i m_X8_writeMode 109 = some (109, .aload_n 1, 1, [], 0) := rfl
theorem i_X8_writeMode_110 : am_i m_X8_writeMode 110 = some (110, .invokevirtual 128, 3, [28, 6], 0) := rfl
theorem i_X8_writeMode_113 : am_i m_X8_writeMode 113 = some (113, .ifCond .eq 64, 3, [], 0) := rfl
theorem i_X8_writeMode_116 : am_i m_X8_writeMode 116 = some (116, .aload_n 0, 1, [], 0) := rfl
theorem i_X8_writeMode_117 : am_i m_X8_writeMode 117 = some (117, .getfield 21, 3, [7, 2, 0], 0) := rfl
theorem i_X8_writeMode_120 : am_i m_X8_writeMode 120 = some (120, .iconst 2, 1, [], 2) := rfl
theorem i_X8_writeMode_121 : am_i m_X8_writeMode 121 = some (121, .aload_n 0, 1, [], 0) := rfl
theorem i_X8_writeMode_122 : am_i m_X8_writeMode 122 = some (122, .getfield 27, 3, [7, 3, 0], 0) := rfl
theorem i_X8_writeMode_125 : am_i m_X8_writeMode 125 = some (125, .getfield 125, 3, [5, 4, 1], 0) := rfl
theorem i_X8_writeMode_128 : am_i m_X8_writeMode 128 = some (128, .bipush 6, 2, [], 6) := rfl
theorem i_X8_writeMode_130 : am_i m_X8_writeMode 130 = some (130, .if_icmp .ne 7, 3, [], 0) := rfl
theorem i_X8_writeMode_133 : am_i m_X8_writeMode 133 = some (133, .iconst 1, 1, [], 1) := rfl
theorem i_X8_writeMode_134 : am_i m_X8_writeMode 134 = some (134, .goto 4, 3, [], 0) := rfl
theorem i_X8_writeMode_137 : am_i m_X8_writeMode 137 = some (137, .iconst 0, 1, [], 0) := rfl
theorem i_X8_writeMode_138 : am_i m_X8_writeMode 138 = some (138, .invokevirtual 59, 3, [72, 8], 0) := rfl
theorem b_X8_writeMode_30 {a0 a1 a0_writer : Nat} {h : am_H} (k1 : K7 h a0) (e2 : fA h a0 2 = some a0_writer) (k3 : K8 h a0_writer) (k4 : K6 h a1) : rn m_X8_writeMode 30 [.ref a0, .ref a1] [] h = if (¬ (4 ≤ (fZ h (a0 + 7) 4))) then cl m_X8_writeMode 64 [.ref a0, .ref a1] [] (rn m_X10_bit 0 [.ref a0_writer, .int (mI 4), .int (mI (bZ (¬ ((fZ h (a0 + 7) 4) < 2)))), am_J, am_J, am_J] [] h) else if (¬ (¬ (fZ h a1 0) = 98)) then cl m_X8_writeMode 141 [.ref a0, .ref a1] [] (rn m_X10_bit 0 [.ref a0_writer, .int (mI 2), .int (mI (bZ (¬ (¬ (fZ h (a0 + 7) 4) = 6)))), am_J, am_J, am_J] [] h) else rn m_X8_writeMode 177 [.ref a0, .ref a1] [] h := by
  refine (tq_aload_n i_X8_writeMode_30 rfl (isA_ref _) rfl).trans ?_
  refine (tq_getfield i_X8_writeMode_31 (K7_s k1) (gR (g_7_3 (K7_s k1)) (K7_e3 k1)) (isV_ref _) rfl).trans ?_
  refine (c_X5_isOfBorder i_X8_writeMode_34 (K5_s (K7_k3 k1)) (ltd d_X8_writeMode (by decide)) stOk_0 rfl).trans ?_
  refine (congrArg (cl _ _ _ _) (b_X5_isOfBorder_0 (K7_k3 k1))).trans ?_
  refine (cl_v _ _ _ _ _ _).trans ?_
  refine (tq_ifb_eq (pt := 109) i_X8_writeMode_37 (by decide) rfl).trans ?_
  refine ite_congr rfl (fun c1 => ?_) (fun c1 => ?_)
  · refine (tq_aload_n i_X8_writeMode_40 rfl (isA_ref _) rfl).trans ?_
    refine (tq_getfield i_X8_writeMode_41 (K7_s k1) (gR (g_7_2 (K7_s k1)) e2) (isV_ref _) rfl).trans ?_
    refine (tq_iconst i_X8_writeMode_44 rfl).trans ?_
    refine (tq_aload_n i_X8_writeMode_45 rfl (isA_ref _) rfl).trans ?_
    refine (tq_getfield i_X8_writeMode_46 (K7_s k1) (gR (g_7_3 (K7_s k1)) (K7_e3 k1)) (isV_ref _) rfl).trans ?_
    refine (tq_getfield i_X8_writeMode_49 (K5_s (K7_k3 k1)) (g_5_4 (K5_s (K7_k3 k1))) (isV_I _) rfl).trans ?_
    refine (tq_iconst i_X8_writeMode_52 rfl).trans ?_
    refine (tq_icmp_lt (pt := 60) i_X8_writeMode_53 (wr_fZ _ _ _) w_2 (by decide) rfl).trans ?_
    refine Eq.trans (b := if (fZ h (a0 + 7) 4) < 2 then rn m_X8_writeMode 61 [.ref a0, .ref a1] [.int (mI 0), .int (mI 4), .ref a0_writer] h else rn m_X8_writeMode 61 [.ref a0, .ref a1] [.int (mI 1), .int (mI 4), .ref a0_writer] h) (ite_congr rfl (fun c2 => ?_) (fun c2 => ?_)) ?_
    · refine (tq_iconst i_X8_writeMode_60 rfl).trans ?_
      rfl
    · refine (tq_iconst i_X8_writeMode_56 rfl).trans ?_
      refine (tq_goto (pc' := 61) i_X8_writeMode_57 (by decide)).trans ?_
      rfl
    refine Eq.trans ite_b01 ?_
    exact c_X10_bit i_X8_writeMode_61 (K8_s k3) (ltd d_X8_writeMode (by decide)) stOk_0 rfl
  · refine (tq_aload_n i_X8_writeMode_109 rfl (isA_ref _) rfl).trans ?_
    refine (c_X6_leansOnSecond i_X8_writeMode_110 (K6_s k4) (ltd d_X8_writeMode (by decide)) stOk_0 rfl).trans ?_
    refine (congrArg (cl _ _ _ _) (b_X6_leansOnSecond_0 k4)).trans ?_
    refine (cl_v _ _ _ _ _ _).trans ?_
    refine (tq_ifb_eq (pt := 177) i_X8_writeMode_113 (by decide) rfl).trans ?_
    refine ite_congr rfl (fun c3 => ?_) (fun c3 => ?_)
    · refine (tq_aload_n i_X8_writeMode_116 rfl (isA_ref _) rfl).trans ?_
      refine (tq_getfield i_X8_writeMode_117 (K7_s k1) (gR (g_7_2 (K7_s k1)) e2) (isV_ref _) rfl).trans ?_
      refine (tq_iconst i_X8_writeMode_120 rfl).trans ?_
      refine (tq_aload_n i_X8_writeMode_121 rfl (isA_ref _) rfl).trans ?_
      refine (tq_getfield i_X8_writeMode_122 (K7_s k1) (gR (g_7_3 (K7_s k1)) (K7_e3 k1)) (isV_ref _) rfl).trans ?_
      refine (tq_getfield i_X8_writeMode_125 (K5_s (K7_k3 k1)) (g_5_4 (K5_s (K7_k3 k1))) (isV_I _) rfl).trans ?_
      refine (tq_bipush i_X8_writeMode_128 rfl).trans ?_
      refine (tq_icmp_ne (pt := 137) i_X8_writeMode_130 (wr_fZ _ _ _) w_6 (by decide) rfl).trans ?_
      refine Eq.trans (b := if ¬ (fZ h (a0 + 7) 4) = 6 then rn m_X8_writeMode 138 [.ref a0, .ref a1] [.int (mI 0), .int (mI 2), .ref a0_writer] h else rn m_X8_writeMode 138 [.ref a0, .ref a1] [.int (mI 1), .int (mI 2), .ref a0_writer] h) (ite_congr rfl (fun c4 => ?_) (fun c4 => ?_)) ?_
      · refine (tq_iconst i_X8_writeMode_137 rfl).trans ?_
        rfl
      · refine (tq_iconst i_X8_writeMode_133 rfl).trans ?_
        refine (tq_goto (pc' := 138) i_X8_writeMode_134 (by decide)).trans ?_
        rfl
      refine Eq.trans ite_b01 ?_
      exact c_X10_bit i_X8_writeMode_138 (K8_s k3) (ltd d_X8_writeMode (by decide)) stOk_0 rfl
    · rfl
theorem i_X8_writeMode_64 : am_i m_X8_writeMode 64 = some (64, .aload_n 0, 1, [], 0) := rfl
theorem i_X8_writeMode_65 : am_i m_X8_writeMode 65 = some (65, .getfield 21, 3, [7, 2, 0], 0) := rfl
theorem i_X8_writeMode_68 : am_i m_X8_writeMode 68 = some (68, .aload_n 0, 1, [], 0) := rfl
theorem i_X8_writeMode_69 : am_i m_X8_writeMode 69 = some (69, .getfield 27, 3, [7, 3, 0], 0) := rfl
theorem i_X8_writeMode_72 : am_i m_X8_writeMode 72 = some (72, .getfield 125, 3, [5, 4, 1], 0) := rfl
theorem i_X8_writeMode_75 : am_i m_X8_writeMode 75 = some (75, .iconst 2, 1, [], 2) := rfl
theorem i_X8_writeMode_76 : am_i m_X8_writeMode 76 = some (76, .if_icmp .lt 8, 3, [], 0) := rfl
theorem i_X8_writeMode_79 : am_i m_X8_writeMode 79 = some (79, .bipush 6, 2, [], 6) := rfl
theorem i_X8_writeMode_81 : am_i m_X8_writeMode 81 = some (81, .goto 4, 3, [], 0) := rfl
theorem i_X8_writeMode_84 : am_i m_X8_writeMode 84 = some (84, .iconst 5, 1, [], 5) := rfl
theorem i_X8_writeMode_85 : am_i m_X8_writeMode 85 = some (85, .aload_n 0, 1, [], 0) := rfl
theorem i_X8_writeMode_86 : am_i m_X8_writeMode 86 = some (86, .getfield 27, 3, [7, 3, 0], 0) := rfl
theorem i_X8_writeMode_89 : am_i m_X8_writeMode 89 = some (89, .getfield 125, 3, [5, 4, 1], 0) := rfl
theorem i_X8_writeMode_92 : am_i m_X8_writeMode 92 = some (92, .iconst 2, 1, [], 2) := rfl
theorem i_X8_writeMode_93 : am_i m_X8_writeMode 93 = some (93, .irem, 1, [], 0) := rfl
theorem i_X8_writeMode_94 : am_i m_X8_writeMode 94 = some (94, .iconst 1, 1, [], 1) := rfl
theorem i_X8_writeMode_95 : am_i m_X8_writeMode 95 = some (95, .if_icmp .ne 7, 3, [], 0) := rfl
theorem i_X8_writeMode_98 : am_i m_X8_writeMode 98 = some (98, .iconst 1, 1, [], 1) := rfl
theorem i_X8_writeMode_99 : am_i m_X8_writeMode 99 = some (99, .goto 4, 3, [], 0) := rfl
theorem i_X8_writeMode_102 : am_i m_X8_writeMode 102 = some (102, .iconst 0, 1, [], 0) := rfl
theorem i_X8_writeMode_103 : am_i m_X8_writeMode 103 = some (103, .invokevirtual 59, 3, [72, 8], 0) := rfl
theorem b_X8_writeMode_64 {a0 a0_writer : Nat} {v1 : Value} {h : am_H} (k1 : K7 h a0) (e2 : fA h a0 2 = some a0_writer) (k3 : K8 h a0_writer) : rn m_X8_writeMode 64 [.ref a0, v1] [] h = cl m_X8_writeMode 106 [.ref a0, v1] [] (rn m_X10_bit 0 [.ref a0_writer, .int (mI (if (fZ h (a0 + 7) 4) < 2 then (5 : Int) else 6)), .int (mI (bZ (¬ (¬ (wr (Int.tmod (fZ h (a0 + 7) 4) 2)) = 1)))), am_J, am_J, am_J] [] h) := by
  refine (tq_aload_n i_X8_writeMode_64 rfl (isA_ref _) rfl).trans ?_
  refine (tq_getfield i_X8_writeMode_65 (K7_s k1) (gR (g_7_2 (K7_s k1)) e2) (isV_ref _) rfl).trans ?_
  refine (tq_aload_n i_X8_writeMode_68 rfl (isA_ref _) rfl).trans ?_
  refine (tq_getfield i_X8_writeMode_69 (K7_s k1) (gR (g_7_3 (K7_s k1)) (K7_e3 k1)) (isV_ref _) rfl).trans ?_
  refine (tq_getfield i_X8_writeMode_72 (K5_s (K7_k3 k1)) (g_5_4 (K5_s (K7_k3 k1))) (isV_I _) rfl).trans ?_
  refine (tq_iconst i_X8_writeMode_75 rfl).trans ?_
  refine (tq_icmp_lt (pt := 84) i_X8_writeMode_76 (wr_fZ _ _ _) w_2 (by decide) rfl).trans ?_
  refine Eq.trans (b := if (fZ h (a0 + 7) 4) < 2 then rn m_X8_writeMode 85 [.ref a0, v1] [.int (mI 5), .ref a0_writer] h else rn m_X8_writeMode 85 [.ref a0, v1] [.int (mI 6), .ref a0_writer] h) (ite_congr rfl (fun c1 => ?_) (fun c1 => ?_)) ?_
  · refine (tq_iconst i_X8_writeMode_84 rfl).trans ?_
    rfl
  · refine (tq_bipush i_X8_writeMode_79 rfl).trans ?_
    refine (tq_goto (pc' := 85) i_X8_writeMode_81 (by decide)).trans ?_
    rfl
  refine Eq.trans ite_I ?_
  refine (tq_aload_n i_X8_writeMode_85 rfl (isA_ref _) rfl).trans ?_
  refine (tq_getfield i_X8_writeMode_86 (K7_s k1) (gR (g_7_3 (K7_s k1)) (K7_e3 k1)) (isV_ref _) rfl).trans ?_
  refine (tq_getfield i_X8_writeMode_89 (K5_s (K7_k3 k1)) (g_5_4 (K5_s (K7_k3 k1))) (isV_I _) rfl).trans ?_
  refine (tq_iconst i_X8_writeMode_92 rfl).trans ?_
  refine (tq_irem i_X8_writeMode_93 (wr_fZ _ _ _) w_2 (by decide) rfl).trans ?_
  refine (tq_iconst i_X8_writeMode_94 rfl).trans ?_
  refine (tq_icmp_ne (pt := 102) i_X8_writeMode_95 rfl w_1 (by decide) rfl).trans ?_
  refine Eq.trans (b := if ¬ (wr (Int.tmod (fZ h (a0 + 7) 4) 2)) = 1 then rn m_X8_writeMode 103 [.ref a0, v1] [.int (mI 0), .int (mI (if (fZ h (a0 + 7) 4) < 2 then (5 : Int) else 6)), .ref a0_writer] h else rn m_X8_writeMode 103 [.ref a0, v1] [.int (mI 1), .int (mI (if (fZ h (a0 + 7) 4) < 2 then (5 : Int) else 6)), .ref a0_writer] h) (ite_congr rfl (fun c2 => ?_) (fun c2 => ?_)) ?_
  · refine (tq_iconst i_X8_writeMode_102 rfl).trans ?_
    rfl
  · refine (tq_iconst i_X8_writeMode_98 rfl).trans ?_
    refine (tq_goto (pc' := 103) i_X8_writeMode_99 (by decide)).trans ?_
    rfl
  refine Eq.trans ite_b01 ?_
  exact c_X10_bit i_X8_writeMode_103 (K8_s k3) (ltd d_X8_writeMode (by decide)) stOk_0 rfl
theorem i_X8_writeMode_106 : am_i m_X8_writeMode 106 = some (106, .goto 71, 3, [], 0) := rfl
theorem b_X8_writeMode_106 {v0 v1 : Value} {h : am_H} : rn m_X8_writeMode 106 [v0, v1] [] h = rn m_X8_writeMode 177 [v0, v1] [] h := by
  refine (tq_goto (pc' := 177) i_X8_writeMode_106 (by decide)).trans ?_
  rfl
theorem i_X8_writeMode_141 : am_i m_X8_writeMode 141 = some (141, .aload_n 0, 1, [], 0) := rfl
theorem i_X8_writeMode_142 : am_i m_X8_writeMode 142 = some (142, .getfield 27, 3, [7, 3, 0], 0) := rfl
theorem i_X8_writeMode_145 : am_i m_X8_writeMode 145 = some (145, .getfield 125, 3, [5, 4, 1], 0) := rfl
theorem i_X8_writeMode_148 : am_i m_X8_writeMode 148 = some (148, .bipush 6, 2, [], 6) := rfl
theorem i_X8_writeMode_150 : am_i m_X8_writeMode 150 = some (150, .if_icmp .eq 27, 3, [], 0) := rfl
theorem i_X8_writeMode_153 : am_i m_X8_writeMode 153 = some (153, .aload_n 0, 1, [], 0) := rfl
theorem i_X8_writeMode_154 : am_i m_X8_writeMode 154 = some (154, .getfield 21, 3, [7, 2, 0], 0) := rfl
theorem i_X8_writeMode_157 : am_i m_X8_writeMode 157 = some (157, .iconst 3, 1, [], 3) := rfl
theorem i_X8_writeMode_158 : am_i m_X8_writeMode 158 = some (158, .aload_n 0, 1, [], 0) := rfl
theorem i_X8_writeMode_159 : am_i m_X8_writeMode 159 = some (159, .getfield 27, 3, [7, 3, 0], 0) := rfl
theorem i_X8_writeMode_162 : am_i m_X8_writeMode 162 = some (162, .getfield 125, 3, [5, 4, 1], 0) := rfl
theorem i_X8_writeMode_165 : am_i m_X8_writeMode 165 = some (165, .iconst 5, 1, [], 5) := rfl
theorem i_X8_writeMode_166 : am_i m_X8_writeMode 166 = some (166, .if_icmp .ne 7, 3, [], 0) := rfl
theorem i_X8_writeMode_169 : am_i m_X8_writeMode 169 = some (169, .iconst 1, 1, [], 1) := rfl
theorem i_X8_writeMode_170 : am_i m_X8_writeMode 170 = some (170, .goto 4, 3, [], 0) := rfl
theorem i_X8_writeMode_173 : am_i m_X8_writeMode 173 = some (173, .iconst 0, 1, [], 0) := rfl
theorem i_X8_writeMode_174 : am_i m_X8_writeMode 174 = some (174, .invokevirtual 59, 3, [72, 8], 0) := rfl
theorem b_X8_writeMode_141 {a0 a0_writer : Nat} {v1 : Value} {h : am_H} (k1 : K7 h a0) (e2 : fA h a0 2 = some a0_writer) (k3 : K8 h a0_writer) : rn m_X8_writeMode 141 [.ref a0, v1] [] h = if (fZ h (a0 + 7) 4) = 6 then rn m_X8_writeMode 177 [.ref a0, v1] [] h else cl m_X8_writeMode 177 [.ref a0, v1] [] (rn m_X10_bit 0 [.ref a0_writer, .int (mI 3), .int (mI (bZ (¬ (¬ (fZ h (a0 + 7) 4) = 5)))), am_J, am_J, am_J] [] h) := by
  refine (tq_aload_n i_X8_writeMode_141 rfl (isA_ref _) rfl).trans ?_
  refine (tq_getfield i_X8_writeMode_142 (K7_s k1) (gR (g_7_3 (K7_s k1)) (K7_e3 k1)) (isV_ref _) rfl).trans ?_
  refine (tq_getfield i_X8_writeMode_145 (K5_s (K7_k3 k1)) (g_5_4 (K5_s (K7_k3 k1))) (isV_I _) rfl).trans ?_
  refine (tq_bipush i_X8_writeMode_148 rfl).trans ?_
  refine (tq_icmp_eq (pt := 177) i_X8_writeMode_150 (wr_fZ _ _ _) w_6 (by decide) rfl).trans ?_
  refine ite_congr rfl (fun c1 => ?_) (fun c1 => ?_)
  · rfl
  · refine (tq_aload_n i_X8_writeMode_153 rfl (isA_ref _) rfl).trans ?_
    refine (tq_getfield i_X8_writeMode_154 (K7_s k1) (gR (g_7_2 (K7_s k1)) e2) (isV_ref _) rfl).trans ?_
    refine (tq_iconst i_X8_writeMode_157 rfl).trans ?_
    refine (tq_aload_n i_X8_writeMode_158 rfl (isA_ref _) rfl).trans ?_
    refine (tq_getfield i_X8_writeMode_159 (K7_s k1) (gR (g_7_3 (K7_s k1)) (K7_e3 k1)) (isV_ref _) rfl).trans ?_
    refine (tq_getfield i_X8_writeMode_162 (K5_s (K7_k3 k1)) (g_5_4 (K5_s (K7_k3 k1))) (isV_I _) rfl).trans ?_
    refine (tq_iconst i_X8_writeMode_165 rfl).trans ?_
    refine (tq_icmp_ne (pt := 173) i_X8_writeMode_166 (wr_fZ _ _ _) w_5 (by decide) rfl).trans ?_
    refine Eq.trans (b := if ¬ (fZ h (a0 + 7) 4) = 5 then rn m_X8_writeMode 174 [.ref a0, v1] [.int (mI 0), .int (mI 3), .ref a0_writer] h else rn m_X8_writeMode 174 [.ref a0, v1] [.int (mI 1), .int (mI 3), .ref a0_writer] h) (ite_congr rfl (fun c2 => ?_) (fun c2 => ?_)) ?_
    · refine (tq_iconst i_X8_writeMode_173 rfl).trans ?_
      rfl
    · refine (tq_iconst i_X8_writeMode_169 rfl).trans ?_
      refine (tq_goto (pc' := 174) i_X8_writeMode_170 (by decide)).trans ?_
      rfl
    refine Eq.trans ite_b01 ?_
    exact c_X10_bit i_X8_writeMode_174 (K8_s k3) (ltd d_X8_writeMode (by decide)) stOk_0 rfl
theorem i_X8_writeMode_177 : am_i m_X8_writeMode 177 = some (177, .return_, 1, [], 0) := rfl
theorem b_X8_writeMode_177 {v0 v1 : Value} {h : am_H} : rn m_X8_writeMode 177 [v0, v1] [] h = some (.inl none, h) := by
  exact tq_return i_X8_writeMode_177 r_X8_writeMode
theorem wM2_ok {h : am_H} {S D w e : Nat} {A : cA} {kd m : Int} (s : WSt h S w) (q : WR h w A e) (k6 : K6 h D) (e0 : fZ h D 0 = kd) (em : fZ h (S + 7) 4 = m) (hm : 0 ≤ m ∧ m ≤ 6) (f : Ft A e 2 0) : ∃ h', rn m_X8_writeMode 30 [.ref S, .ref D] [] h = some (.inl none, h') ∧ Wr h h' w A e (evM2 kd m) := by
  have st := b_X8_writeMode_30 (a0 := S) (a1 := D) (h := h) s.2.1 s.2.2.1 q.1 k6
  rw [em, e0] at st
  unfold evM2
  by_cases g : m < 4
  · rw [if_pos (by omega), bZ_congr (q := 1 < m) (by omega)] at st
    obtain ⟨h1, e1, r1⟩ := bitP (x1 := 4) (p := 1 < m) (wr_id (by omega) (by omega)) q (Ft_mono f (by omega) (by omega)) (by omega)
    have s1 := WSt_md r1.1 s
    have st1 := b_X8_writeMode_64 (a0 := S) (v1 := .ref D) (h := h1) s1.2.1 s1.2.2.1 r1.2.1
    rw [md_fZ r1.1 (SW_n (by have := s.2.2.2.1; omega)), em, tmd hm.1, wr_id (z := m % 2) (by omega) (by omega), bZ_congr (q := m % 2 = 1) (by omega)] at st1
    obtain ⟨h2, e2, r2⟩ := bitP (x1 := if m < 2 then 5 else 6) (c := if m < 2 then 5 else 6) (p := m % 2 = 1) (wr_id (by split <;> omega) (by split <;> omega)) r1.2 (Ft_b (by omega) (Ft_mono f (by omega) (by omega))) (by split <;> omega)
    rw [e1, cl_n, st1, e2, cl_n, b_X8_writeMode_106, b_X8_writeMode_177] at st
    rw [if_pos g]
    exact ⟨h2, st, Wr_tr r1 r2⟩
  · rw [if_neg (by omega)] at st
    rw [if_neg g]
    by_cases g2 : kd = 98
    · rw [if_pos (by omega), bZ_congr (q := m = 6) (by omega)] at st
      rw [if_pos g2]
      obtain ⟨h1, e1, r1⟩ := bitP (x1 := 2) (p := m = 6) (wr_id (by omega) (by omega)) q (Ft_mono f (by omega) (by omega)) (by omega)
      have s1 := WSt_md r1.1 s
      have st1 := b_X8_writeMode_141 (a0 := S) (v1 := .ref D) (h := h1) s1.2.1 s1.2.2.1 r1.2.1
      rw [md_fZ r1.1 (SW_n (by have := s.2.2.2.1; omega)), em] at st1
      rw [e1, cl_n] at st
      by_cases g3 : m = 6
      · rw [if_pos g3, b_X8_writeMode_177] at st1
        rw [if_pos g3]
        exact ⟨h1, st.trans st1, r1⟩
      · rw [if_neg g3, bZ_congr (q := m = 5) (by omega)] at st1
        rw [if_neg g3]
        obtain ⟨h2, e2, r2⟩ := bitP (x1 := 3) (p := m = 5) (wr_id (by omega) (by omega)) r1.2 (Ft_b (by omega) (Ft_mono f (by omega) (by omega))) (by omega)
        rw [e2, cl_n, b_X8_writeMode_177] at st1
        exact ⟨h2, st.trans st1, Wr_tr r1 r2⟩
    · rw [if_neg (by omega), b_X8_writeMode_177] at st
      rw [if_neg g2]
      exact ⟨h, st, Wr_nil q⟩
theorem wM_ok {h : am_H} {S D w e : Nat} {A : cA} {kd m : Int} (s : WSt h S w) (q : WR h w A e) (k6 : K6 h D) (nD : D ≠ w ∧ D ≠ w + 1 ∧ D ≠ w + 2) (e0 : fZ h D 0 = kd) (em : fZ h (S + 7) 4 = m) (hm : 0 ≤ m ∧ m ≤ 6) (f : Ft A e 3 0) : ∃ h', rn m_X8_writeMode 0 [.ref S, .ref D] [] h = some (.inl none, h') ∧ Wr h h' w A e (evM kd m) := by
  have st := b_X8_writeMode_0 (a0 := S) (a1 := D) (h := h) k6 s.2.1 s.2.2.1 q.1
  rw [em, e0] at st
  unfold evM
  by_cases g : kd = 105
  · rw [if_neg (by omega)] at st
    rw [if_pos g, List.nil_append]
    obtain ⟨h1, e1, r1⟩ := wM2_ok s q k6 e0 em hm (Ft_mono f (by omega) (by omega))
    exact ⟨h1, st.trans e1, r1⟩
  · rw [if_pos (by omega), bZ_congr (q := 3 < m) (by omega)] at st
    rw [if_neg g]
    obtain ⟨h1, e1, r1⟩ := bitP (x1 := 1) (p := 3 < m) (wr_id (by omega) (by omega)) q (Ft_mono f (by omega) (by omega)) (by omega)
    have s1 := WSt_md r1.1 s
    obtain ⟨h2, e2, r2⟩ := wM2_ok s1 r1.2 (K6_sm r1.1.1 k6) ((md_fZ r1.1 (SW_n nD)).trans e0) ((md_fZ r1.1 (SW_n (by have := s.2.2.2.1; omega))).trans em) hm (Ft_b (by omega) f)
    rw [e1, cl_n, e2] at st
    exact ⟨h2, st, Wr_tr r1 r2⟩
theorem i_X8_writeVector_0 : am_i m_X8_writeVector 0 = some (0, .iload_n 1, 1, [], 0) := rfl
theorem i_X8_writeVector_1 : am_i m_X8_writeVector 1 = some (1, .ifCond .ne 5, 3, [], 0) := rfl
theorem i_X8_writeVector_4 : am_i m_X8_writeVector 4 = some (4, .iload_n 3, 1, [], 0) := rfl
theorem i_X8_writeVector_5 : am_i m_X8_writeVector 5 = some (5, .ireturn, 1, [], 0) := rfl
theorem i_X8_writeVector_6 : am_i m_X8_writeVector 6 = some (6, .iload_n 2, 1, [], 0) := rfl
theorem i_X8_writeVector_7 : am_i m_X8_writeVector 7 = some (7, .invokestatic 131, 3, [39], 0) := rfl
theorem i_X8_writeVector_10 : am_i m_X8_writeVector 10 = some (10, .iload_n 3, 1, [], 0) := rfl
theorem i_X8_writeVector_11 : am_i m_X8_writeVector 11 = some (11, .invokestatic 131, 3, [39], 0) := rfl
theorem i_X8_writeVector_14 : am_i m_X8_writeVector 14 = some (14, .isub, 1, [], 0) := rfl
theorem i_X8_writeVector_15 : am_i m_X8_writeVector 15 = some (15, .istore 4, 2, [], 0) := rfl
theorem i_X8_writeVector_17 : am_i m_X8_writeVector 17 = some (17, .aload_n 0, 1, [], 0) := rfl
theorem i_X8_writeVector_18 : am_i m_X8_writeVector 18 = some (18, .getfield 21, 3, [7, 2, 0], 0) := rfl
theorem i_X8_writeVector_21 : am_i m_X8_writeVector 21 = some (21, .bipush 8, 2, [], 8) := rfl
theorem i_X8_writeVector_23 : am_i m_X8_writeVector 23 = some (23, .iload 4, 2, [], 0) := rfl
theorem i_X8_writeVector_25 : am_i m_X8_writeVector 25 = some (25, .invokestatic 134, 3, [0, 0], 0) := rfl
theorem i_X8_writeVector_28 : am_i m_X8_writeVector 28 = some (28, .invokevirtual 139, 3, [87, 8], 0) := rfl
theorem b_X8_writeVector_0 {a0 a0_writer : Nat} {x1 x2 x3 x1' x2' x3' : Int} {h : am_H} (w1 : wr x1 = x1') (w2 : wr x2 = x2') (w3 : wr x3 = x3') (k1 : K7 h a0) (e2 : fA h a0 2 = some a0_writer) (k3 : K8 h a0_writer) : rn m_X8_writeVector 0 [.ref a0, .int (mI x1), .int (mI x2), .int (mI x3), am_J, am_J] [] h = if ¬ x1' = 0 then cl m_X8_writeVector 31 [.ref a0, .int (mI x1), .int (mI x2), .int (mI x3), .int (mI (((Int.tdiv x2' 100) - 8) - ((Int.tdiv x3' 100) - 8))), am_J] [] (rn m_X10_number 0 [.ref a0_writer, .int (mI 8), .int (mI (max (wr (((Int.tdiv x2' 100) - 8) - ((Int.tdiv x3' 100) - 8))) (-(wr (((Int.tdiv x2' 100) - 8) - ((Int.tdiv x3' 100) - 8)))))), am_J, am_J, am_J, am_J] [] h) else some (.inl (some (.int (mI x3))), h) := by
  refine (tq_iload_n i_X8_writeVector_0 rfl rfl).trans ?_
  refine (tq_if_ne (pt := 6) i_X8_writeVector_1 w1 (by decide) rfl).trans ?_
  refine ite_congr rfl (fun c1 => ?_) (fun c1 => ?_)
  · refine (tq_iload_n i_X8_writeVector_6 rfl rfl).trans ?_
    refine (c_X9_right i_X8_writeVector_7 (ltd d_X8_writeVector (by decide)) stOk_0 rfl).trans ?_
    refine (congrArg (cl _ _ _ _) (b_X9_right_0 w2)).trans ?_
    refine (cl_v _ _ _ _ _ _).trans ?_
    refine (tq_iload_n i_X8_writeVector_10 rfl rfl).trans ?_
    refine (c_X9_right i_X8_writeVector_11 (ltd d_X8_writeVector (by decide)) (stOk_1 _) rfl).trans ?_
    refine (congrArg (cl _ _ _ _) (b_X9_right_0 w3)).trans ?_
    refine (cl_v _ _ _ _ _ _).trans ?_
    refine (tq_isub i_X8_writeVector_14 rfl).trans ?_
    refine (tq_istore (L' := [.ref a0, .int (mI x1), .int (mI x2), .int (mI x3), .int (mI (((Int.tdiv x2' 100) - 8) - ((Int.tdiv x3' 100) - 8))), am_J]) i_X8_writeVector_15 rfl rfl).trans ?_
    refine (tq_aload_n i_X8_writeVector_17 rfl (isA_ref _) rfl).trans ?_
    refine (tq_getfield i_X8_writeVector_18 (K7_s k1) (gR (g_7_2 (K7_s k1)) e2) (isV_ref _) rfl).trans ?_
    refine (tq_bipush i_X8_writeVector_21 rfl).trans ?_
    refine (tq_iload i_X8_writeVector_23 rfl rfl).trans ?_
    refine (tq_abs i_X8_writeVector_25 rfl (Nat.le_of_ble_eq_true rfl) rfl).trans ?_
    exact c_X10_number i_X8_writeVector_28 (K8_s k3) (ltd d_X8_writeVector (by decide)) stOk_0 rfl
  · refine (tq_iload_n i_X8_writeVector_4 rfl rfl).trans ?_
    exact tq_ireturn i_X8_writeVector_5 r_X8_writeVector rfl
theorem i_X8_writeVector_31 : am_i m_X8_writeVector 31 = some (31, .iload 4, 2, [], 0) := rfl
theorem i_X8_writeVector_33 : am_i m_X8_writeVector 33 = some (33, .ifCond .eq 20, 3, [], 0) := rfl
theorem i_X8_writeVector_36 : am_i m_X8_writeVector 36 = some (36, .aload_n 0, 1, [], 0) := rfl
theorem i_X8_writeVector_37 : am_i m_X8_writeVector 37 = some (37, .getfield 21, 3, [7, 2, 0], 0) := rfl
theorem i_X8_writeVector_40 : am_i m_X8_writeVector 40 = some (40, .iload 4, 2, [], 0) := rfl
theorem i_X8_writeVector_42 : am_i m_X8_writeVector 42 = some (42, .ifCond .ge 7, 3, [], 0) := rfl
theorem i_X8_writeVector_45 : am_i m_X8_writeVector 45 = some (45, .iconst 1, 1, [], 1) := rfl
theorem i_X8_writeVector_46 : am_i m_X8_writeVector 46 = some (46, .goto 4, 3, [], 0) := rfl
theorem i_X8_writeVector_49 : am_i m_X8_writeVector 49 = some (49, .iconst 0, 1, [], 0) := rfl
theorem i_X8_writeVector_50 : am_i m_X8_writeVector 50 = some (50, .invokevirtual 143, 3, [73, 8], 0) := rfl
theorem b_X8_writeVector_31 {a0 a0_writer : Nat} {v1 v5 : Value} {x2 x3 x4 x4' : Int} {h : am_H} (w4 : wr x4 = x4') (k1 : K7 h a0) (e2 : fA h a0 2 = some a0_writer) (k3 : K8 h a0_writer) : rn m_X8_writeVector 31 [.ref a0, v1, .int (mI x2), .int (mI x3), .int (mI x4), v5] [] h = if x4' = 0 then rn m_X8_writeVector 53 [.ref a0, v1, .int (mI x2), .int (mI x3), .int (mI x4), v5] [] h else cl m_X8_writeVector 53 [.ref a0, v1, .int (mI x2), .int (mI x3), .int (mI x4), v5] [] (rn m_X10_plain 0 [.ref a0_writer, .int (mI (bZ (¬ (0 ≤ x4')))), am_J, am_J] [] h) := by
  refine (tq_iload i_X8_writeVector_31 rfl rfl).trans ?_
  refine (tq_if_eq (pt := 53) i_X8_writeVector_33 w4 (by decide) rfl).trans ?_
  refine ite_congr rfl (fun c1 => ?_) (fun c1 => ?_)
  · rfl
  · refine (tq_aload_n i_X8_writeVector_36 rfl (isA_ref _) rfl).trans ?_
    refine (tq_getfield i_X8_writeVector_37 (K7_s k1) (gR (g_7_2 (K7_s k1)) e2) (isV_ref _) rfl).trans ?_
    refine (tq_iload i_X8_writeVector_40 rfl rfl).trans ?_
    refine (tq_if_ge (pt := 49) i_X8_writeVector_42 w4 (by decide) rfl).trans ?_
    refine Eq.trans (b := if 0 ≤ x4' then rn m_X8_writeVector 50 [.ref a0, v1, .int (mI x2), .int (mI x3), .int (mI x4), v5] [.int (mI 0), .ref a0_writer] h else rn m_X8_writeVector 50 [.ref a0, v1, .int (mI x2), .int (mI x3), .int (mI x4), v5] [.int (mI 1), .ref a0_writer] h) (ite_congr rfl (fun c2 => ?_) (fun c2 => ?_)) ?_
    · refine (tq_iconst i_X8_writeVector_49 rfl).trans ?_
      rfl
    · refine (tq_iconst i_X8_writeVector_45 rfl).trans ?_
      refine (tq_goto (pc' := 50) i_X8_writeVector_46 (by decide)).trans ?_
      rfl
    refine Eq.trans ite_b01 ?_
    exact c_X10_plain i_X8_writeVector_50 (K8_s k3) (ltd d_X8_writeVector (by decide)) stOk_0 rfl
theorem i_X8_writeVector_53 : am_i m_X8_writeVector 53 = some (53, .iload_n 2, 1, [], 0) := rfl
theorem i_X8_writeVector_54 : am_i m_X8_writeVector 54 = some (54, .invokestatic 147, 3, [37], 0) := rfl
theorem i_X8_writeVector_57 : am_i m_X8_writeVector 57 = some (57, .iload_n 3, 1, [], 0) := rfl
theorem i_X8_writeVector_58 : am_i m_X8_writeVector 58 = some (58, .invokestatic 147, 3, [37], 0) := rfl
theorem i_X8_writeVector_61 : am_i m_X8_writeVector 61 = some (61, .isub, 1, [], 0) := rfl
theorem i_X8_writeVector_62 : am_i m_X8_writeVector 62 = some (62, .istore 5, 2, [], 0) := rfl
theorem i_X8_writeVector_64 : am_i m_X8_writeVector 64 = some (64, .aload_n 0, 1, [], 0) := rfl
theorem i_X8_writeVector_65 : am_i m_X8_writeVector 65 = some (65, .getfield 21, 3, [7, 2, 0], 0) := rfl
theorem i_X8_writeVector_68 : am_i m_X8_writeVector 68 = some (68, .bipush 8, 2, [], 8) := rfl
theorem i_X8_writeVector_70 : am_i m_X8_writeVector 70 = some (70, .iload 5, 2, [], 0) := rfl
theorem i_X8_writeVector_72 : am_i m_X8_writeVector 72 = some (72, .invokestatic 134, 3, [0, 0], 0) := rfl
theorem i_X8_writeVector_75 : am_i m_X8_writeVector 75 = some (75, .invokevirtual 139, 3, [87, 8], 0) := rfl
theorem b_X8_writeVector_53 {a0 a0_writer : Nat} {v1 v4 v5 : Value} {x2 x3 x2' x3' : Int} {h : am_H} (w2 : wr x2 = x2') (w3 : wr x3 = x3') (k1 : K7 h a0) (e2 : fA h a0 2 = some a0_writer) (k3 : K8 h a0_writer) : rn m_X8_writeVector 53 [.ref a0, v1, .int (mI x2), .int (mI x3), v4, v5] [] h = cl m_X8_writeVector 78 [.ref a0, v1, .int (mI x2), .int (mI x3), (am_k1 v4), .int (mI (((Int.tmod x2' 100) - 8) - ((Int.tmod x3' 100) - 8)))] [] (rn m_X10_number 0 [.ref a0_writer, .int (mI 8), .int (mI (max (wr (((Int.tmod x2' 100) - 8) - ((Int.tmod x3' 100) - 8))) (-(wr (((Int.tmod x2' 100) - 8) - ((Int.tmod x3' 100) - 8)))))), am_J, am_J, am_J, am_J] [] h) := by
  refine (tq_iload_n i_X8_writeVector_53 rfl rfl).trans ?_
  refine (c_X9_down i_X8_writeVector_54 (ltd d_X8_writeVector (by decide)) stOk_0 rfl).trans ?_
  refine (congrArg (cl _ _ _ _) (b_X9_down_0 w2)).trans ?_
  refine (cl_v _ _ _ _ _ _).trans ?_
  refine (tq_iload_n i_X8_writeVector_57 rfl rfl).trans ?_
  refine (c_X9_down i_X8_writeVector_58 (ltd d_X8_writeVector (by decide)) (stOk_1 _) rfl).trans ?_
  refine (congrArg (cl _ _ _ _) (b_X9_down_0 w3)).trans ?_
  refine (cl_v _ _ _ _ _ _).trans ?_
  refine (tq_isub i_X8_writeVector_61 rfl).trans ?_
  refine (tq_istore (L' := [.ref a0, v1, .int (mI x2), .int (mI x3), (am_k1 v4), .int (mI (((Int.tmod x2' 100) - 8) - ((Int.tmod x3' 100) - 8)))]) i_X8_writeVector_62 rfl rfl).trans ?_
  refine (tq_aload_n i_X8_writeVector_64 rfl (isA_ref _) rfl).trans ?_
  refine (tq_getfield i_X8_writeVector_65 (K7_s k1) (gR (g_7_2 (K7_s k1)) e2) (isV_ref _) rfl).trans ?_
  refine (tq_bipush i_X8_writeVector_68 rfl).trans ?_
  refine (tq_iload i_X8_writeVector_70 rfl rfl).trans ?_
  refine (tq_abs i_X8_writeVector_72 rfl (Nat.le_of_ble_eq_true rfl) rfl).trans ?_
  exact c_X10_number i_X8_writeVector_75 (K8_s k3) (ltd d_X8_writeVector (by decide)) stOk_0 rfl
theorem i_X8_writeVector_78 : am_i m_X8_writeVector 78 = some (78, .iload 5, 2, [], 0) := rfl
theorem i_X8_writeVector_80 : am_i m_X8_writeVector 80 = some (80, .ifCond .eq 20, 3, [], 0) := rfl
theorem i_X8_writeVector_83 : am_i m_X8_writeVector 83 = some (83, .aload_n 0, 1, [], 0) := rfl
theorem i_X8_writeVector_84 : am_i m_X8_writeVector 84 = some (84, .getfield 21, 3, [7, 2, 0], 0) := rfl
theorem i_X8_writeVector_87 : am_i m_X8_writeVector 87 = some (87, .iload 5, 2, [], 0) := rfl
theorem i_X8_writeVector_89 : am_i m_X8_writeVector 89 = some (89, .ifCond .ge 7, 3, [], 0) := rfl
theorem i_X8_writeVector_92 : am_i m_X8_writeVector 92 = some (92, .iconst 1, 1, [], 1) := rfl
theorem i_X8_writeVector_93 : am_i m_X8_writeVector 93 = some (93, .goto 4, 3, [], 0) := rfl
theorem i_X8_writeVector_96 : am_i m_X8_writeVector 96 = some (96, .iconst 0, 1, [], 0) := rfl
theorem i_X8_writeVector_97 : am_i m_X8_writeVector 97 = some (97, .invokevirtual 143, 3, [73, 8], 0) := rfl
theorem b_X8_writeVector_78 {a0 a0_writer : Nat} {v1 v3 v4 : Value} {x2 x5 x5' : Int} {h : am_H} (w5 : wr x5 = x5') (k1 : K7 h a0) (e2 : fA h a0 2 = some a0_writer) (k3 : K8 h a0_writer) : rn m_X8_writeVector 78 [.ref a0, v1, .int (mI x2), v3, v4, .int (mI x5)] [] h = if x5' = 0 then rn m_X8_writeVector 100 [.ref a0, v1, .int (mI x2), v3, v4, .int (mI x5)] [] h else cl m_X8_writeVector 100 [.ref a0, v1, .int (mI x2), v3, v4, .int (mI x5)] [] (rn m_X10_plain 0 [.ref a0_writer, .int (mI (bZ (¬ (0 ≤ x5')))), am_J, am_J] [] h) := by
  refine (tq_iload i_X8_writeVector_78 rfl rfl).trans ?_
  refine (tq_if_eq (pt := 100) i_X8_writeVector_80 w5 (by decide) rfl).trans ?_
  refine ite_congr rfl (fun c1 => ?_) (fun c1 => ?_)
  · rfl
  · refine (tq_aload_n i_X8_writeVector_83 rfl (isA_ref _) rfl).trans ?_
    refine (tq_getfield i_X8_writeVector_84 (K7_s k1) (gR (g_7_2 (K7_s k1)) e2) (isV_ref _) rfl).trans ?_
    refine (tq_iload i_X8_writeVector_87 rfl rfl).trans ?_
    refine (tq_if_ge (pt := 96) i_X8_writeVector_89 w5 (by decide) rfl).trans ?_
    refine Eq.trans (b := if 0 ≤ x5' then rn m_X8_writeVector 97 [.ref a0, v1, .int (mI x2), v3, v4, .int (mI x5)] [.int (mI 0), .ref a0_writer] h else rn m_X8_writeVector 97 [.ref a0, v1, .int (mI x2), v3, v4, .int (mI x5)] [.int (mI 1), .ref a0_writer] h) (ite_congr rfl (fun c2 => ?_) (fun c2 => ?_)) ?_
    · refine (tq_iconst i_X8_writeVector_96 rfl).trans ?_
      rfl
    · refine (tq_iconst i_X8_writeVector_92 rfl).trans ?_
      refine (tq_goto (pc' := 97) i_X8_writeVector_93 (by decide)).trans ?_
      rfl
    refine Eq.trans ite_b01 ?_
    exact c_X10_plain i_X8_writeVector_97 (K8_s k3) (ltd d_X8_writeVector (by decide)) stOk_0 rfl
theorem i_X8_writeVector_100 : am_i m_X8_writeVector 100 = some (100, .iload_n 2, 1, [], 0) := rfl
theorem i_X8_writeVector_101 : am_i m_X8_writeVector 101 = some (101, .ireturn, 1, [], 0) := rfl
theorem b_X8_writeVector_100 {v0 v1 v3 v4 v5 : Value} {x2 : Int} {h : am_H} : rn m_X8_writeVector 100 [v0, v1, .int (mI x2), v3, v4, v5] [] h = some (.inl (some (.int (mI x2))), h) := by
  refine (tq_iload_n i_X8_writeVector_100 rfl rfl).trans ?_
  exact tq_ireturn i_X8_writeVector_101 r_X8_writeVector rfl
theorem n_evN8 {r : Int} (h : -16 ≤ r ∧ r ≤ 16) : nC (evN 8 (iabs r)) ≤ 12 ∧ nP (evN 8 (iabs r)) ≤ 5 := by
  have a := nC_evN (c := 8) (n := iabs r) (by decide)
  have p3 : (2 : Int) ^ (2 + 1) = 8 := by decide
  by_cases g : 11 < iabs r
  · rw [if_pos g] at a
    have := hl_b (m := iabs r - 11) (t := 2) (by omega) (by unfold iabs; omega)
    omega
  · rw [if_neg g] at a
    omega
theorem wV_ok {h : am_H} {S w e : Nat} {A : cA} {v l : Int} {p : Prop} [Decidable p] (s : WSt h S w) (q : WR h w A e) (hv : p → okv v) (hr : wr v = v) (hl : okv l) (f : Ft A e 24 12) : ∃ h', rn m_X8_writeVector 0 [.ref S, .int (mI (bZ p)), .int (mI v), .int (mI l), am_J, am_J] [] h = some (.inl (some (.int (mI (if p then v else l)))), h') ∧ Wr h h' w A e (if p then evV v l else []) := by
  have hlr : 0 ≤ l ∧ l ≤ 100000 := by unfold okv at hl; omega
  have st := b_X8_writeVector_0 (a0 := S) (x1 := bZ p) (x2 := v) (x3 := l) (h := h) (wr_bZ _) hr (wr_id (by omega) (by omega)) s.2.1 s.2.2.1 q.1
  by_cases g : p
  · rw [bZ_t g, if_pos (by decide)] at st
    rw [bZ_t g, if_pos g, if_pos g]
    have hv := hv g
    have hvr : 0 ≤ v := hv.1
    have rr := okv_r hv hl
    have eX : Int.tdiv v 100 - 8 - (Int.tdiv l 100 - 8) = vX v - vX l := by rw [tdv hvr, tdv hlr.1]; rfl
    have eY : Int.tmod v 100 - 8 - (Int.tmod l 100 - 8) = vY v - vY l := by rw [tmd hvr, tmd hlr.1]; rfl
    have nx := n_evN8 rr.1
    have ny := n_evN8 rr.2
    rw [eX, wr_id (z := vX v - vX l) (by omega) (by omega)] at st
    have iX : max (vX v - vX l) (-(vX v - vX l)) = iabs (vX v - vX l) := rfl
    have iY : max (vY v - vY l) (-(vY v - vY l)) = iabs (vY v - vY l) := rfl
    have bX : 0 ≤ iabs (vX v - vX l) ∧ iabs (vX v - vX l) ≤ 16 := by unfold iabs; omega
    have bY : 0 ≤ iabs (vY v - vY l) ∧ iabs (vY v - vY l) ≤ 16 := by unfold iabs; omega
    rw [iX] at st
    obtain ⟨h1, e1, r1⟩ := number_ok (c := 8) (n := iabs (vX v - vX l)) q (Ft_mono f (by omega) (by omega)) (by decide) (by omega)
    have f1 : Ft (runA A (evN 8 (iabs (vX v - vX l)))) (e + (evN 8 (iabs (vX v - vX l))).length) 12 7 := Ft_run _ (Ft_mono f (by omega) (by omega))
    have s1 := WSt_md r1.1 s
    -- the sign
    have sgn : ∀ (h1 : am_H) (A1 : cA) (e1 : Nat) (r : Int), WR h1 w A1 e1 → Ft A1 e1 0 1 → ∃ h2, (if r = 0 then some ((Sum.inl none, h1) : am_Rs) else rn m_X10_plain 0 [.ref w, .int (mI (bZ (¬ (0 ≤ r)))), am_J, am_J] [] h1) = some (.inl none, h2) ∧ Wr h1 h2 w A1 e1 (if r = 0 then [] else [((-1 : Int), decide (r < 0))]) := by
      intro h1 A1 e1 r q1 f1
      by_cases z : r = 0
      · rw [if_pos z, if_pos z]
        exact ⟨h1, rfl, Wr_nil q1⟩
      · rw [if_neg z, if_neg z, bZ_congr (q := r < 0) (by omega)]
        exact plainP q1 f1
    have hx : ∃ h2, rn m_X8_writeVector 31 [.ref S, .int (mI 1), .int (mI v), .int (mI l), .int (mI (vX v - vX l)), am_J] [] h1 = rn m_X8_writeVector 53 [.ref S, .int (mI 1), .int (mI v), .int (mI l), .int (mI (vX v - vX l)), am_J] [] h2 ∧ Wr h h2 w A e (evS (vX v - vX l)) := by
      have st1 := b_X8_writeVector_31 (a0 := S) (v1 := .int (mI 1)) (v5 := am_J) (x2 := v) (x3 := l) (x4 := vX v - vX l) (h := h1) (wr_id (by omega) (by omega)) s1.2.1 s1.2.2.1 r1.2.1
      obtain ⟨h2, e2, r2⟩ := sgn h1 _ _ (vX v - vX l) r1.2 (Ft_mono f1 (by omega) (by omega))
      refine ⟨h2, ?_, Wr_tr r1 r2⟩
      by_cases z : vX v - vX l = 0
      · rw [if_pos z] at st1 e2
        cases e2
        exact st1
      · rw [if_neg z] at st1 e2
        rw [e2, cl_n] at st1
        exact st1
    obtain ⟨h2, e2, r2⟩ := hx
    have s2 := WSt_md r2.1 s
    have st2 := b_X8_writeVector_53 (a0 := S) (v1 := .int (mI 1)) (v4 := .int (mI (vX v - vX l))) (v5 := am_J) (x2 := v) (x3 := l) (h := h2) hr (wr_id (by omega) (by omega)) s2.2.1 s2.2.2.1 r2.2.1
    rw [eY, wr_id (z := vY v - vY l) (by omega) (by omega), iY] at st2
    have nS := n_evS rr.1
    have f2 : Ft (runA A (evS (vX v - vX l))) (e + (evS (vX v - vX l)).length) 12 6 := Ft_run _ (Ft_mono f (by omega) (by omega))
    obtain ⟨h3, e3, r3⟩ := number_ok (c := 8) (n := iabs (vY v - vY l)) r2.2 (Ft_mono f2 (by omega) (by omega)) (by decide) (by omega)
    have f3 : Ft (runA (runA A (evS (vX v - vX l))) (evN 8 (iabs (vY v - vY l)))) (e + (evS (vX v - vX l)).length + (evN 8 (iabs (vY v - vY l))).length) 0 1 := Ft_run _ (Ft_mono f2 (by omega) (by omega))
    have s3 := WSt_md r3.1 s2
    have st3 := b_X8_writeVector_78 (a0 := S) (v1 := .int (mI 1)) (v3 := .int (mI l)) (v4 := am_k1 (.int (mI (vX v - vX l)))) (x2 := v) (x5 := vY v - vY l) (h := h3) (wr_id (by omega) (by omega)) s3.2.1 s3.2.2.1 r3.2.1
    obtain ⟨h4, e4, r4⟩ := sgn h3 _ _ (vY v - vY l) r3.2 f3
    have r5 : Wr h h4 w A e (evV v l) := Wr_tr r2 (Wr_tr r3 r4)
    have st5 : rn m_X8_writeVector 78 [.ref S, .int (mI 1), .int (mI v), .int (mI l), am_k1 (.int (mI (vX v - vX l))), .int (mI (vY v - vY l))] [] h3 = some (.inl (some (.int (mI v))), h4) := by
      by_cases z : vY v - vY l = 0
      · rw [if_pos z] at st3 e4
        cases e4
        rw [b_X8_writeVector_100] at st3
        exact st3
      · rw [if_neg z] at st3 e4
        rw [e4, cl_n, b_X8_writeVector_100] at st3
        exact st3
    rw [e1, cl_n, e2, st2, e3, cl_n, st5] at st
    exact ⟨h4, st, r5⟩
  · rw [bZ_f g, if_neg (fun q => q rfl)] at st
    rw [bZ_f g, if_neg g, if_neg g]
    exact ⟨h, st, Wr_nil q⟩
theorem i_X8_writeLastPlace_0 : am_i m_X8_writeLastPlace 0 = some (0, .iconst 1, 1, [], 1) := rfl
theorem i_X8_writeLastPlace_1 : am_i m_X8_writeLastPlace 1 = some (1, .istore_n 2, 1, [], 0) := rfl
theorem i_X8_writeLastPlace_2 : am_i m_X8_writeLastPlace 2 = some (2, .iconst 3, 1, [], 3) := rfl
theorem i_X8_writeLastPlace_3 : am_i m_X8_writeLastPlace 3 = some (3, .istore_n 3, 1, [], 0) := rfl
theorem b_X8_writeLastPlace_0 {a0 : Nat} {x1 : Int} {h : am_H} : rn m_X8_writeLastPlace 0 [.ref a0, .int (mI x1), am_J, am_J, am_J] [] h = rn m_X8_writeLastPlace 4 [.ref a0, .int (mI x1), .int (mI 1), .int (mI 3), am_J] [] h := by
  refine (tq_iconst i_X8_writeLastPlace_0 rfl).trans ?_
  refine (tq_istore_n (L' := [.ref a0, .int (mI x1), .int (mI 1), am_J, am_J]) i_X8_writeLastPlace_1 rfl rfl).trans ?_
  refine (tq_iconst i_X8_writeLastPlace_2 rfl).trans ?_
  refine (tq_istore_n (L' := [.ref a0, .int (mI x1), .int (mI 1), .int (mI 3), am_J]) i_X8_writeLastPlace_3 rfl rfl).trans ?_
  rfl
theorem i_X8_writeLastPlace_4 : am_i m_X8_writeLastPlace 4 = some (4, .iload_n 3, 1, [], 0) := rfl
theorem i_X8_writeLastPlace_5 : am_i m_X8_writeLastPlace 5 = some (5, .ifCond .lt 44, 3, [], 0) := rfl
theorem i_X8_writeLastPlace_8 : am_i m_X8_writeLastPlace 8 = some (8, .iload_n 1, 1, [], 0) := rfl
theorem i_X8_writeLastPlace_9 : am_i m_X8_writeLastPlace 9 = some (9, .iload_n 3, 1, [], 0) := rfl
theorem i_X8_writeLastPlace_10 : am_i m_X8_writeLastPlace 10 = some (10, .ishr, 1, [], 0) := rfl
theorem i_X8_writeLastPlace_11 : am_i m_X8_writeLastPlace 11 = some (11, .iconst 1, 1, [], 1) := rfl
theorem i_X8_writeLastPlace_12 : am_i m_X8_writeLastPlace 12 = some (12, .iand, 1, [], 0) := rfl
theorem i_X8_writeLastPlace_13 : am_i m_X8_writeLastPlace 13 = some (13, .istore 4, 2, [], 0) := rfl
theorem i_X8_writeLastPlace_15 : am_i m_X8_writeLastPlace 15 = some (15, .aload_n 0, 1, [], 0) := rfl
theorem i_X8_writeLastPlace_16 : am_i m_X8_writeLastPlace 16 = some (16, .getfield 21, 3, [7, 2, 0], 0) := rfl
theorem i_X8_writeLastPlace_19 : am_i m_X8_writeLastPlace 19 = some (19, .bipush 32, 2, [], 32) := rfl
theorem i_X8_writeLastPlace_21 : am_i m_X8_writeLastPlace 21 = some (21, .iload_n 2, 1, [], 0) := rfl
theorem i_X8_writeLastPlace_22 : am_i m_X8_writeLastPlace 22 = some (22, .iadd, 1, [], 0) := rfl
theorem i_X8_writeLastPlace_23 : am_i m_X8_writeLastPlace 23 = some (23, .iload 4, 2, [], 0) := rfl
theorem i_X8_writeLastPlace_25 : am_i m_X8_writeLastPlace 25 = some (25, .ifCond .eq 7, 3, [], 0) := rfl
theorem i_X8_writeLastPlace_28 : am_i m_X8_writeLastPlace 28 = some (28, .iconst 1, 1, [], 1) := rfl
theorem i_X8_writeLastPlace_29 : am_i m_X8_writeLastPlace 29 = some (29, .goto 4, 3, [], 0) := rfl
theorem i_X8_writeLastPlace_32 : am_i m_X8_writeLastPlace 32 = some (32, .iconst 0, 1, [], 0) := rfl
theorem i_X8_writeLastPlace_33 : am_i m_X8_writeLastPlace 33 = some (33, .invokevirtual 59, 3, [72, 8], 0) := rfl
theorem i_X8_writeLastPlace_49 : am_i m_X8_writeLastPlace 49 = some (49, .return_, 1, [], 0) := rfl
theorem b_X8_writeLastPlace_4 {a0 k_10 a0_writer : Nat} {x1 x2 x3 x1' x3' : Int} {v4 : Value} {h : am_H} (w1 : wr x1 = x1') (w3 : wr x3 = x3') (g1 : (¬ (x3' < 0)) → (x3' = (k_10 : Int))) (g2 : (¬ (x3' < 0)) → (k_10 < 32)) (k3 : K7 h a0) (e4 : fA h a0 2 = some a0_writer) (k5 : K8 h a0_writer) : rn m_X8_writeLastPlace 4 [.ref a0, .int (mI x1), .int (mI x2), .int (mI x3), v4] [] h = if x3' < 0 then some (.inl none, h) else cl m_X8_writeLastPlace 36 [.ref a0, .int (mI x1), .int (mI x2), .int (mI x3), .int (mI ((wr (x1' / 2 ^ k_10)) % 2 ^ 1))] [] (rn m_X10_bit 0 [.ref a0_writer, .int (mI (32 + x2)), .int (mI (bZ (¬ (((wr (x1' / 2 ^ k_10)) % 2 ^ 1) = 0)))), am_J, am_J, am_J] [] h) := by
  refine (tq_iload_n i_X8_writeLastPlace_4 rfl rfl).trans ?_
  refine (tq_if_lt (pt := 49) i_X8_writeLastPlace_5 w3 (by decide) rfl).trans ?_
  refine ite_congr rfl (fun c1 => ?_) (fun c1 => ?_)
  · exact tq_return i_X8_writeLastPlace_49 r_X8_writeLastPlace
  · refine (tq_iload_n i_X8_writeLastPlace_8 rfl rfl).trans ?_
    refine (tq_iload_n i_X8_writeLastPlace_9 rfl rfl).trans ?_
    refine (tq_ishr i_X8_writeLastPlace_10 w1 (w3.trans (g1 c1)) (g2 c1) rfl).trans ?_
    refine (tq_iconst i_X8_writeLastPlace_11 rfl).trans ?_
    refine (tq_imask 1 i_X8_writeLastPlace_12 rfl (by decide) (by decide) rfl).trans ?_
    refine (tq_istore (L' := [.ref a0, .int (mI x1), .int (mI x2), .int (mI x3), .int (mI ((wr (x1' / 2 ^ k_10)) % 2 ^ 1))]) i_X8_writeLastPlace_13 rfl rfl).trans ?_
    refine (tq_aload_n i_X8_writeLastPlace_15 rfl (isA_ref _) rfl).trans ?_
    refine (tq_getfield i_X8_writeLastPlace_16 (K7_s k3) (gR (g_7_2 (K7_s k3)) e4) (isV_ref _) rfl).trans ?_
    refine (tq_bipush i_X8_writeLastPlace_19 rfl).trans ?_
    refine (tq_iload_n i_X8_writeLastPlace_21 rfl rfl).trans ?_
    refine (tq_iadd i_X8_writeLastPlace_22 rfl).trans ?_
    refine (tq_iload i_X8_writeLastPlace_23 rfl rfl).trans ?_
    refine (tq_if_eq (pt := 32) i_X8_writeLastPlace_25 (wr_mask (by decide)) (by decide) rfl).trans ?_
    refine Eq.trans (b := if ((wr (x1' / 2 ^ k_10)) % 2 ^ 1) = 0 then rn m_X8_writeLastPlace 33 [.ref a0, .int (mI x1), .int (mI x2), .int (mI x3), .int (mI ((wr (x1' / 2 ^ k_10)) % 2 ^ 1))] [.int (mI 0), .int (mI (32 + x2)), .ref a0_writer] h else rn m_X8_writeLastPlace 33 [.ref a0, .int (mI x1), .int (mI x2), .int (mI x3), .int (mI ((wr (x1' / 2 ^ k_10)) % 2 ^ 1))] [.int (mI 1), .int (mI (32 + x2)), .ref a0_writer] h) (ite_congr rfl (fun c2 => ?_) (fun c2 => ?_)) ?_
    · refine (tq_iconst i_X8_writeLastPlace_32 rfl).trans ?_
      rfl
    · refine (tq_iconst i_X8_writeLastPlace_28 rfl).trans ?_
      refine (tq_goto (pc' := 33) i_X8_writeLastPlace_29 (by decide)).trans ?_
      rfl
    refine Eq.trans ite_b01 ?_
    exact c_X10_bit i_X8_writeLastPlace_33 (K8_s k5) (ltd d_X8_writeLastPlace (by decide)) stOk_0 rfl
theorem i_X8_writeLastPlace_36 : am_i m_X8_writeLastPlace 36 = some (36, .iconst 2, 1, [], 2) := rfl
theorem i_X8_writeLastPlace_37 : am_i m_X8_writeLastPlace 37 = some (37, .iload_n 2, 1, [], 0) := rfl
theorem i_X8_writeLastPlace_38 : am_i m_X8_writeLastPlace 38 = some (38, .imul, 1, [], 0) := rfl
theorem i_X8_writeLastPlace_39 : am_i m_X8_writeLastPlace 39 = some (39, .iload 4, 2, [], 0) := rfl
theorem i_X8_writeLastPlace_41 : am_i m_X8_writeLastPlace 41 = some (41, .iadd, 1, [], 0) := rfl
theorem i_X8_writeLastPlace_42 : am_i m_X8_writeLastPlace 42 = some (42, .istore_n 2, 1, [], 0) := rfl
theorem i_X8_writeLastPlace_43 : am_i m_X8_writeLastPlace 43 = some (43, .iinc 3 (-1), 3, [], 0) := rfl
theorem i_X8_writeLastPlace_46 : am_i m_X8_writeLastPlace 46 = some (46, .goto (-42), 3, [], 0) := rfl
theorem b_X8_writeLastPlace_36 {a0 : Nat} {x1 x2 x3 x4 : Int} {h : am_H} : rn m_X8_writeLastPlace 36 [.ref a0, .int (mI x1), .int (mI x2), .int (mI x3), .int (mI x4)] [] h = rn m_X8_writeLastPlace 4 [.ref a0, .int (mI x1), .int (mI ((2 * x2) + x4)), .int (mI (x3 + (-1))), .int (mI x4)] [] h := by
  refine (tq_iconst i_X8_writeLastPlace_36 rfl).trans ?_
  refine (tq_iload_n i_X8_writeLastPlace_37 rfl rfl).trans ?_
  refine (tq_imul i_X8_writeLastPlace_38 rfl).trans ?_
  refine (tq_iload i_X8_writeLastPlace_39 rfl rfl).trans ?_
  refine (tq_iadd i_X8_writeLastPlace_41 rfl).trans ?_
  refine (tq_istore_n (L' := [.ref a0, .int (mI x1), .int (mI ((2 * x2) + x4)), .int (mI x3), .int (mI x4)]) i_X8_writeLastPlace_42 rfl rfl).trans ?_
  refine (tq_iinc (L' := [.ref a0, .int (mI x1), .int (mI ((2 * x2) + x4)), .int (mI (x3 + (-1))), .int (mI x4)]) i_X8_writeLastPlace_43 rfl rfl rfl).trans ?_
  refine (tq_goto (pc' := 4) i_X8_writeLastPlace_46 (by decide)).trans ?_
  rfl
theorem wLP_ok {h : am_H} {S w e : Nat} {A : cA} {l : Int} (s : WSt h S w) (q : WR h w A e) (hl : 0 ≤ l ∧ l < 16) (f : Ft A e 4 0) : ∃ h', rn m_X8_writeLastPlace 0 [.ref S, .int (mI l), am_J, am_J, am_J] [] h = some (.inl none, h') ∧ Wr h h' w A e (evLP l) := by
  have step : ∀ (i : Nat) (h : am_H) (A : cA) (e n : Nat) (d c : Int) (v4 : Value), i < 4 → WSt h S w → WR h w A e → Ft A e (n + 1) 0 → c = 32 + d → (0 ≤ c ∧ c < 70) → ∃ h', rn m_X8_writeLastPlace 4 [.ref S, .int (mI l), .int (mI d), .int (mI (i : Int)), v4] [] h = rn m_X8_writeLastPlace 4 [.ref S, .int (mI l), .int (mI (2 * d + l / 2 ^ i % 2)), .int (mI ((i : Int) + -1)), .int (mI (l / 2 ^ i % 2))] [] h' ∧ WSt h' S w ∧ Wr h h' w A e [(c, decide (l / 2 ^ i % 2 = 1))] ∧ Ft (runA A [(c, decide (l / 2 ^ i % 2 = 1))]) (e + 1) n 0 := by
    intro i h A e n d c v4 hi s q f hc hc2
    have st := b_X8_writeLastPlace_4 (a0 := S) (k_10 := i) (x1 := l) (x2 := d) (x3 := (i : Int)) (v4 := v4) (h := h) (wr_id (by omega) (by omega)) (wr_id (by omega) (by omega)) (fun _ => rfl) (fun _ => by omega) s.2.1 s.2.2.1 q.1
    have pb := pw_b (m := l) hl.1 i
    rw [if_neg (by omega), wr_id (z := l / 2 ^ i) (by omega) (by omega), pw1, bZ_congr (q := l / 2 ^ i % 2 = 1) (by omega)] at st
    obtain ⟨h1, e1, r1⟩ := bitP (x1 := 32 + d) (c := c) (p := l / 2 ^ i % 2 = 1) (by rw [← hc]; exact wr_id (by omega) (by omega)) q (Ft_mono f (by omega) (by omega)) hc2
    rw [e1, cl_n, b_X8_writeLastPlace_36] at st
    exact ⟨h1, st, WSt_md r1.1 s, r1, Ft_b hc2.1 f⟩
  have p3 : l / 2 ^ 3 = l / 8 := rfl
  have p2 : l / 2 ^ 2 = l / 4 := rfl
  have p1 : l / 2 ^ 1 = l / 2 := rfl
  have p0 : l / 2 ^ 0 = l := by rw [Int.pow_zero, Int.ediv_one]
  obtain ⟨h1, e1, s1, r1, f1⟩ := step 3 h A e 3 1 33 am_J (by decide) s q f (by omega) (by omega)
  rw [p3] at e1 r1 f1
  obtain ⟨h2, e2, s2, r2, f2⟩ := step 2 h1 _ _ 2 (2 * 1 + l / 8 % 2) (34 + l / 8) (.int (mI (l / 8 % 2))) (by decide) s1 r1.2 f1 (by omega) (by omega)
  rw [p2] at e2 r2 f2
  obtain ⟨h3, e3, s3, r3, f3⟩ := step 1 h2 _ _ 1 (2 * (2 * 1 + l / 8 % 2) + l / 4 % 2) (36 + l / 4) (.int (mI (l / 4 % 2))) (by decide) s2 r2.2 f2 (by omega) (by omega)
  rw [p1] at e3 r3 f3
  obtain ⟨h4, e4, s4, r4, f4⟩ := step 0 h3 _ _ 0 (2 * (2 * (2 * 1 + l / 8 % 2) + l / 4 % 2) + l / 2 % 2) (40 + l / 2) (.int (mI (l / 2 % 2))) (by decide) s3 r3.2 f3 (by omega) (by omega)
  rw [p0] at e4 r4 f4
  have st5 := b_X8_writeLastPlace_4 (a0 := S) (k_10 := 0) (x1 := l) (x2 := 2 * (2 * (2 * (2 * 1 + l / 8 % 2) + l / 4 % 2) + l / 2 % 2) + l % 2) (x3 := ((0 : Nat) : Int) + -1) (v4 := .int (mI (l % 2))) (h := h4) (wr_id (by omega) (by omega)) (wr_id (by omega) (by omega)) (fun g => absurd (by omega) g) (fun _ => by omega) s4.2.1 s4.2.2.1 r4.2.1
  rw [if_pos (by omega)] at st5
  refine ⟨h4, ?_, Wr_tr r1 (Wr_tr r2 (Wr_tr r3 r4))⟩
  rw [b_X8_writeLastPlace_0]
  exact e1.trans (e2.trans (e3.trans (e4.trans st5)))
