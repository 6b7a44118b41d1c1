/-! ===== guesses ===== -/
theorem i_X1_bordering_0 : am_i m_X1_bordering 0 = some (0, .iload_n 1, 1, [], 0) := rfl
theorem i_X1_bordering_1 : am_i m_X1_bordering 1 = some (1, .ifCond .lt 8, 3, [], 0) := rfl
theorem i_X1_bordering_4 : am_i m_X1_bordering 4 = some (4, .iload_n 2, 1, [], 0) := rfl
theorem i_X1_bordering_5 : am_i m_X1_bordering 5 = some (5, .iload_n 3, 1, [], 0) := rfl
theorem i_X1_bordering_6 : am_i m_X1_bordering 6 = some (6, .if_icmp .ge 9, 3, [], 0) := rfl
theorem i_X1_bordering_9 : am_i m_X1_bordering 9 = some (9, .sipush 128, 3, [], 128) := rfl
theorem i_X1_bordering_12 : am_i m_X1_bordering 12 = some (12, .goto 12, 3, [], 0) := rfl
theorem i_X1_bordering_15 : am_i m_X1_bordering 15 = some (15, .aload_n 0, 1, [], 0) := rfl
theorem i_X1_bordering_16 : am_i m_X1_bordering 16 = some (16, .iload_n 1, 1, [], 0) := rfl
theorem i_X1_bordering_17 : am_i m_X1_bordering 17 = some (17, .iload_n 2, 1, [], 0) := rfl
theorem i_X1_bordering_18 : am_i m_X1_bordering 18 = some (18, .invokestatic 65, 3, [13], 0) := rfl
theorem i_X1_bordering_21 : am_i m_X1_bordering 21 = some (21, .invokestatic 69, 3, [32], 0) := rfl
theorem i_X1_bordering_24 : am_i m_X1_bordering 24 = some (24, .ireturn, 1, [], 0) := rfl
theorem b_X1_bordering_0 {a0 n_a0 : Nat} {x1 x2 x3 x1' x2' x3' : Int} {h : am_H} (w1 : wr x1 = x1') (w2 : wr x2 = x2') (w3 : wr x3 = x3') (n1 : gn h a0 = n_a0) (s2 : sh h a0 = (1, 0)) (g3 : (¬ (x1' < 0)) → (x3' ≤ x2') → (0 ≤ (wr ((16 * x2) + x1)) ∧ (wr ((16 * x2) + x1)) < (n_a0 : Int))) : rn m_X1_bordering 0 [.ref a0, .int (mI x1), .int (mI x2), .int (mI x3)] [] h = some (.inl (some (.int (mI (if x1' < 0 then 128 else (if x3' ≤ x2' then gZ h a0 (wr ((16 * x2) + x1)) else 128))))), h) := by
  refine (tq_iload_n i_X1_bordering_0 rfl rfl).trans ?_
  refine (tq_if_lt (pt := 9) i_X1_bordering_1 w1 (by decide) rfl).trans ?_
  refine Eq.trans (b := if x1' < 0 then rn m_X1_bordering 24 [.ref a0, .int (mI x1), .int (mI x2), .int (mI x3)] [.int (mI 128)] h else rn m_X1_bordering 24 [.ref a0, .int (mI x1), .int (mI x2), .int (mI x3)] [.int (mI (if x3' ≤ x2' then gZ h a0 (wr ((16 * x2) + x1)) else 128))] h) (ite_congr rfl (fun c1 => ?_) (fun c1 => ?_)) ?_
  · refine (tq_sipush i_X1_bordering_9 rfl).trans ?_
    refine (tq_goto (pc' := 24) i_X1_bordering_12 (by decide)).trans ?_
    rfl
  · refine (tq_iload_n i_X1_bordering_4 rfl rfl).trans ?_
    refine (tq_iload_n i_X1_bordering_5 rfl rfl).trans ?_
    refine (tq_icmp_ge (pt := 15) i_X1_bordering_6 w2 w3 (by decide) rfl).trans ?_
    refine Eq.trans (b := if x3' ≤ x2' then rn m_X1_bordering 24 [.ref a0, .int (mI x1), .int (mI x2), .int (mI x3)] [.int (mI (gZ h a0 (wr ((16 * x2) + x1))))] h else rn m_X1_bordering 24 [.ref a0, .int (mI x1), .int (mI x2), .int (mI x3)] [.int (mI 128)] h) (ite_congr rfl (fun c2 => ?_) (fun c2 => ?_)) ?_
    · refine (tq_aload_n i_X1_bordering_15 rfl (isA_ref _) rfl).trans ?_
      refine (tq_iload_n i_X1_bordering_16 rfl rfl).trans ?_
      refine (tq_iload_n i_X1_bordering_17 rfl rfl).trans ?_
      refine (c_X11_placeOf i_X1_bordering_18 (ltd d_X1_bordering (by decide)) (stOk_1 _) rfl).trans ?_
      refine (congrArg (cl _ _ _ _) (b_X11_placeOf_0)).trans ?_
      refine (cl_v _ _ _ _ _ _).trans ?_
      refine (c_X7_get i_X1_bordering_21 (ltd d_X1_bordering (by decide)) (isA_ref _) stOk_0 rfl).trans ?_
      refine (congrArg (cl _ _ _ _) (get_ok rfl n1 s2 (by decide) (g3 c1 c2))).trans ?_
      refine (cl_v _ _ _ _ _ _).trans ?_
      rfl
    · refine (tq_sipush i_X1_bordering_9 rfl).trans ?_
      refine (tq_goto (pc' := 24) i_X1_bordering_12 (by decide)).trans ?_
      rfl
    exact ite_I
  refine Eq.trans ite_I ?_
  exact tq_ireturn i_X1_bordering_24 r_X1_bordering rfl
theorem ne_sh {h : am_H} {a b : Nat} {x y : Nat × Nat} (sa : sh h a = x) (sb : sh h b = y) (n : x ≠ y) : a ≠ b := fun e => n (by rw [← sa, ← sb, e])
theorem wr_bordg (h : am_H) (a : Nat) (t x y : Int) : wr (bord (gZ h a) t x y) = bord (gZ h a) t x y := by
  unfold bord
  split
  · exact wr_id (by omega) (by omega)
  · exact wr_gZ _ _ _
theorem wr_add (x y : Int) : wr (x + y) = wr (wr x + wr y) := by unfold wr; rw [← mI_add, ← mI_add, mI_toInt, mI_toInt]
theorem wr_sub (x y : Int) : wr (x - y) = wr (wr x - wr y) := by unfold wr; rw [← mI_sub, ← mI_sub, mI_toInt, mI_toInt]
theorem wr_mul (x y : Int) : wr (x * y) = wr (wr x * wr y) := by unfold wr; rw [← mI_mul, ← mI_mul, mI_toInt, mI_toInt]
theorem wr_lin (c x y : Int) : wr (c * x + y) = wr (c * wr x + wr y) := by rw [wr_add, wr_mul, wr_add (c * wr x), wr_mul c (wr x), wr_wr, wr_wr]
theorem bordering_ok {h : am_H} {a n : Nat} {x y t x' y' t' : Int} (w1 : wr x = x') (w2 : wr y = y') (w3 : wr t = t') (n1 : gn h a = n) (s : sh h a = (1, 0)) (hn : 256 ≤ (n : Int)) (g : (-1 ≤ x' ∧ x' < 16) ∧ (-1 ≤ y' ∧ y' < 16) ∧ 0 ≤ t') : rn m_X1_bordering 0 [.ref a, .int (mI x), .int (mI y), .int (mI t)] [] h = some (.inl (some (.int (mI (bord (gZ h a) t' x' y')))), h) := by
  have e : wr (16 * y + x) = 16 * y' + x' := by
    rw [wr_lin, w1, w2]
    exact wr_id (by omega) (by omega)
  rw [b_X1_bordering_0 w1 w2 w3 n1 s (fun _ _ => by rw [e]; omega), e]
  unfold bord
  by_cases c1 : x' < 0
  · rw [if_pos c1, if_pos (Or.inl c1)]
  · rw [if_neg c1]
    by_cases c2 : t' ≤ y'
    · rw [if_pos c2, if_neg (by omega)]
    · rw [if_neg c2, if_pos (by omega)]
theorem bord_b {p : Int → Int} {t x y : Int} (hp : pixels p) (hx : -1 ≤ x ∧ x < 16) (hy : -1 ≤ y ∧ y < 16) (ht : 0 ≤ t) : 0 ≤ bord p t x y ∧ bord p t x y ≤ 255 := by
  unfold bord
  split
  · omega
  · exact hp _ (by omega) (by omega)
/-- the border of a part, taken -/
def isBo (h : am_H) (B : Nat) (p : Int → Int) (X Y Z T : Int) : Prop := (∀ i, 0 ≤ i → i < Z → gZ h (B + 5) i = bord p T (X + i) (Y - 1)) ∧ (∀ i, 0 ≤ i → i < Z → gZ h (B + 6) i = bord p T (X - 1) (Y + i)) ∧ fZ h B 4 = bord p T (X - 1) (Y - 1) ∧ fZ h B 5 = meanv p X Y Z T
theorem partAt_md {S : Nat → Nat → Prop} {h h' : am_H} {p : Nat} {X Y Z T : Int} (m : Md S h h') (n : ∀ k, k < 4 → ¬ S p k) (q : partAt h p X Y Z T) : partAt h' p X Y Z T := ⟨(md_fZ m (n 0 (by decide))).trans q.1, (md_fZ m (n 1 (by decide))).trans q.2.1, (md_fZ m (n 2 (by decide))).trans q.2.2.1, (md_fZ m (n 3 (by decide))).trans q.2.2.2⟩
theorem meanv_b {p : Int → Int} {X Y Z T : Int} (hp : pixels p) (ip : isPart X Y Z T) : 0 ≤ meanv p X Y Z T ∧ meanv p X Y Z T ≤ 255 := by
  obtain ⟨hz, hX, hY, hT⟩ := ip
  have h1 := sm_le (n := Z.toNat) (f := fun i => bord p T (X + i) (Y - 1) + bord p T (X - 1) (Y + i)) (b := 510) fun i i0 i1 => by
    have q1 := bord_b (t := T) (x := X + i) (y := Y - 1) hp (by omega) (by omega) (by omega)
    have q2 := bord_b (t := T) (x := X - 1) (y := Y + i) hp (by omega) (by omega) (by omega)
    omega
  unfold meanv
  generalize sm Z.toNat (fun i => bord p T (X + i) (Y - 1) + bord p T (X - 1) (Y + i)) = u at *
  rcases hz with rfl | rfl
  · rw [show ((4 : Int).toNat : Int) = 4 by decide] at h1
    omega
  · rw [show ((8 : Int).toNat : Int) = 8 by decide] at h1
    omega
theorem i_X1_takeBorder_0 : am_i m_X1_takeBorder 0 = some (0, .iconst 0, 1, [], 0) := rfl
theorem i_X1_takeBorder_1 : am_i m_X1_takeBorder 1 = some (1, .istore_n 3, 1, [], 0) := rfl
theorem i_X1_takeBorder_2 : am_i m_X1_takeBorder 2 = some (2, .iconst 0, 1, [], 0) := rfl
theorem i_X1_takeBorder_3 : am_i m_X1_takeBorder 3 = some (3, .istore 4, 2, [], 0) := rfl
theorem b_X1_takeBorder_0 {a0 a1 a2 : Nat} {h : am_H} : rn m_X1_takeBorder 0 [.ref a0, .ref a1, .ref a2, am_J, am_J, am_J, am_J] [] h = rn m_X1_takeBorder 5 [.ref a0, .ref a1, .ref a2, .int (mI 0), .int (mI 0), am_J, am_J] [] h := by
  refine (tq_iconst i_X1_takeBorder_0 rfl).trans ?_
  refine (tq_istore_n (L' := [.ref a0, .ref a1, .ref a2, .int (mI 0), am_J, am_J, am_J]) i_X1_takeBorder_1 rfl rfl).trans ?_
  refine (tq_iconst i_X1_takeBorder_2 rfl).trans ?_
  refine (tq_istore (L' := [.ref a0, .ref a1, .ref a2, .int (mI 0), .int (mI 0), am_J, am_J]) i_X1_takeBorder_3 rfl rfl).trans ?_
  rfl
theorem i_X1_takeBorder_5 : am_i m_X1_takeBorder 5 = some (5, .iload 4, 2, [], 0) := rfl
theorem i_X1_takeBorder_7 : am_i m_X1_takeBorder 7 = some (7, .aload_n 2, 1, [], 0) := rfl
theorem i_X1_takeBorder_8 : am_i m_X1_takeBorder 8 = some (8, .getfield 41, 3, [5, 2, 1], 0) := rfl
theorem i_X1_takeBorder_11 : am_i m_X1_takeBorder 11 = some (11, .if_icmp .ge 85, 3, [], 0) := rfl
theorem i_X1_takeBorder_14 : am_i m_X1_takeBorder 14 = some (14, .aload_n 1, 1, [], 0) := rfl
theorem i_X1_takeBorder_15 : am_i m_X1_takeBorder 15 = some (15, .aload_n 2, 1, [], 0) := rfl
theorem i_X1_takeBorder_16 : am_i m_X1_takeBorder 16 = some (16, .getfield 46, 3, [5, 0, 1], 0) := rfl
theorem i_X1_takeBorder_19 : am_i m_X1_takeBorder 19 = some (19, .iload 4, 2, [], 0) := rfl
theorem i_X1_takeBorder_21 : am_i m_X1_takeBorder 21 = some (21, .iadd, 1, [], 0) := rfl
theorem i_X1_takeBorder_22 : am_i m_X1_takeBorder 22 = some (22, .aload_n 2, 1, [], 0) := rfl
theorem i_X1_takeBorder_23 : am_i m_X1_takeBorder 23 = some (23, .getfield 49, 3, [5, 1, 1], 0) := rfl
theorem i_X1_takeBorder_26 : am_i m_X1_takeBorder 26 = some (26, .iconst 1, 1, [], 1) := rfl
theorem i_X1_takeBorder_27 : am_i m_X1_takeBorder 27 = some (27, .isub, 1, [], 0) := rfl
theorem i_X1_takeBorder_28 : am_i m_X1_takeBorder 28 = some (28, .aload_n 2, 1, [], 0) := rfl
theorem i_X1_takeBorder_29 : am_i m_X1_takeBorder 29 = some (29, .getfield 52, 3, [5, 3, 1], 0) := rfl
theorem i_X1_takeBorder_32 : am_i m_X1_takeBorder 32 = some (32, .invokestatic 55, 3, [49], 0) := rfl
theorem i_X1_takeBorder_35 : am_i m_X1_takeBorder 35 = some (35, .istore 5, 2, [], 0) := rfl
theorem i_X1_takeBorder_37 : am_i m_X1_takeBorder 37 = some (37, .aload_n 1, 1, [], 0) := rfl
theorem i_X1_takeBorder_38 : am_i m_X1_takeBorder 38 = some (38, .aload_n 2, 1, [], 0) := rfl
theorem i_X1_takeBorder_39 : am_i m_X1_takeBorder 39 = some (39, .getfield 46, 3, [5, 0, 1], 0) := rfl
theorem i_X1_takeBorder_42 : am_i m_X1_takeBorder 42 = some (42, .iconst 1, 1, [], 1) := rfl
theorem i_X1_takeBorder_43 : am_i m_X1_takeBorder 43 = some (43, .isub, 1, [], 0) := rfl
theorem i_X1_takeBorder_44 : am_i m_X1_takeBorder 44 = some (44, .aload_n 2, 1, [], 0) := rfl
theorem i_X1_takeBorder_45 : am_i m_X1_takeBorder 45 = some (45, .getfield 49, 3, [5, 1, 1], 0) := rfl
theorem i_X1_takeBorder_48 : am_i m_X1_takeBorder 48 = some (48, .iload 4, 2, [], 0) := rfl
theorem i_X1_takeBorder_50 : am_i m_X1_takeBorder 50 = some (50, .iadd, 1, [], 0) := rfl
theorem i_X1_takeBorder_51 : am_i m_X1_takeBorder 51 = some (51, .aload_n 2, 1, [], 0) := rfl
theorem i_X1_takeBorder_52 : am_i m_X1_takeBorder 52 = some (52, .getfield 52, 3, [5, 3, 1], 0) := rfl
theorem i_X1_takeBorder_55 : am_i m_X1_takeBorder 55 = some (55, .invokestatic 55, 3, [49], 0) := rfl
theorem i_X1_takeBorder_58 : am_i m_X1_takeBorder 58 = some (58, .istore 6, 2, [], 0) := rfl
theorem i_X1_takeBorder_60 : am_i m_X1_takeBorder 60 = some (60, .aload_n 0, 1, [], 0) := rfl
theorem i_X1_takeBorder_61 : am_i m_X1_takeBorder 61 = some (61, .getfield 21, 3, [1, 2, 0], 0) := rfl
theorem i_X1_takeBorder_64 : am_i m_X1_takeBorder 64 = some (64, .iload 4, 2, [], 0) := rfl
theorem i_X1_takeBorder_66 : am_i m_X1_takeBorder 66 = some (66, .iload 5, 2, [], 0) := rfl
theorem i_X1_takeBorder_68 : am_i m_X1_takeBorder 68 = some (68, .invokestatic 59, 3, [33], 0) := rfl
theorem i_X1_takeBorder_71 : am_i m_X1_takeBorder 71 = some (71, .aload_n 0, 1, [], 0) := rfl
theorem i_X1_takeBorder_72 : am_i m_X1_takeBorder 72 = some (72, .getfield 25, 3, [1, 3, 0], 0) := rfl
theorem i_X1_takeBorder_75 : am_i m_X1_takeBorder 75 = some (75, .iload 4, 2, [], 0) := rfl
theorem i_X1_takeBorder_77 : am_i m_X1_takeBorder 77 = some (77, .iload 6, 2, [], 0) := rfl
theorem i_X1_takeBorder_79 : am_i m_X1_takeBorder 79 = some (79, .invokestatic 59, 3, [33], 0) := rfl
theorem i_X1_takeBorder_82 : am_i m_X1_takeBorder 82 = some (82, .iload_n 3, 1, [], 0) := rfl
theorem i_X1_takeBorder_83 : am_i m_X1_takeBorder 83 = some (83, .iload 5, 2, [], 0) := rfl
theorem i_X1_takeBorder_85 : am_i m_X1_takeBorder 85 = some (85, .iload 6, 2, [], 0) := rfl
theorem i_X1_takeBorder_87 : am_i m_X1_takeBorder 87 = some (87, .iadd, 1, [], 0) := rfl
theorem i_X1_takeBorder_88 : am_i m_X1_takeBorder 88 = some (88, .iadd, 1, [], 0) := rfl
theorem i_X1_takeBorder_89 : am_i m_X1_takeBorder 89 = some (89, .istore_n 3, 1, [], 0) := rfl
theorem i_X1_takeBorder_90 : am_i m_X1_takeBorder 90 = some (90, .iinc 4 1, 3, [], 0) := rfl
theorem i_X1_takeBorder_93 : am_i m_X1_takeBorder 93 = some (93, .goto (-88), 3, [], 0) := rfl
theorem i_X1_takeBorder_96 : am_i m_X1_takeBorder 96 = some (96, .aload_n 0, 1, [], 0) := rfl
theorem i_X1_takeBorder_97 : am_i m_X1_takeBorder 97 = some (97, .aload_n 1, 1, [], 0) := rfl
theorem i_X1_takeBorder_98 : am_i m_X1_takeBorder 98 = some (98, .aload_n 2, 1, [], 0) := rfl
theorem i_X1_takeBorder_99 : am_i m_X1_takeBorder 99 = some (99, .getfield 46, 3, [5, 0, 1], 0) := rfl
theorem i_X1_takeBorder_102 : am_i m_X1_takeBorder 102 = some (102, .iconst 1, 1, [], 1) := rfl
theorem i_X1_takeBorder_103 : am_i m_X1_takeBorder 103 = some (103, .isub, 1, [], 0) := rfl
theorem i_X1_takeBorder_104 : am_i m_X1_takeBorder 104 = some (104, .aload_n 2, 1, [], 0) := rfl
theorem i_X1_takeBorder_105 : am_i m_X1_takeBorder 105 = some (105, .getfield 49, 3, [5, 1, 1], 0) := rfl
theorem i_X1_takeBorder_108 : am_i m_X1_takeBorder 108 = some (108, .iconst 1, 1, [], 1) := rfl
theorem i_X1_takeBorder_109 : am_i m_X1_takeBorder 109 = some (109, .isub, 1, [], 0) := rfl
theorem i_X1_takeBorder_110 : am_i m_X1_takeBorder 110 = some (110, .aload_n 2, 1, [], 0) := rfl
theorem i_X1_takeBorder_111 : am_i m_X1_takeBorder 111 = some (111, .getfield 52, 3, [5, 3, 1], 0) := rfl
theorem i_X1_takeBorder_114 : am_i m_X1_takeBorder 114 = some (114, .invokestatic 55, 3, [49], 0) := rfl
theorem i_X1_takeBorder_117 : am_i m_X1_takeBorder 117 = some (117, .putfield 28, 3, [1, 4, 0], 0) := rfl
theorem i_X1_takeBorder_120 : am_i m_X1_takeBorder 120 = some (120, .aload_n 0, 1, [], 0) := rfl
theorem i_X1_takeBorder_121 : am_i m_X1_takeBorder 121 = some (121, .aload_n 2, 1, [], 0) := rfl
theorem i_X1_takeBorder_122 : am_i m_X1_takeBorder 122 = some (122, .getfield 41, 3, [5, 2, 1], 0) := rfl
theorem i_X1_takeBorder_125 : am_i m_X1_takeBorder 125 = some (125, .ifCond .le 19, 3, [], 0) := rfl
theorem i_X1_takeBorder_128 : am_i m_X1_takeBorder 128 = some (128, .iload_n 3, 1, [], 0) := rfl
theorem i_X1_takeBorder_129 : am_i m_X1_takeBorder 129 = some (129, .aload_n 2, 1, [], 0) := rfl
theorem i_X1_takeBorder_130 : am_i m_X1_takeBorder 130 = some (130, .getfield 41, 3, [5, 2, 1], 0) := rfl
theorem i_X1_takeBorder_133 : am_i m_X1_takeBorder 133 = some (133, .iadd, 1, [], 0) := rfl
theorem i_X1_takeBorder_134 : am_i m_X1_takeBorder 134 = some (134, .iconst 2, 1, [], 2) := rfl
theorem i_X1_takeBorder_135 : am_i m_X1_takeBorder 135 = some (135, .aload_n 2, 1, [], 0) := rfl
theorem i_X1_takeBorder_136 : am_i m_X1_takeBorder 136 = some (136, .getfield 41, 3, [5, 2, 1], 0) := rfl
theorem i_X1_takeBorder_139 : am_i m_X1_takeBorder 139 = some (139, .imul, 1, [], 0) := rfl
theorem i_X1_takeBorder_140 : am_i m_X1_takeBorder 140 = some (140, .idiv, 1, [], 0) := rfl
theorem i_X1_takeBorder_141 : am_i m_X1_takeBorder 141 = some (141, .goto 6, 3, [], 0) := rfl
theorem i_X1_takeBorder_144 : am_i m_X1_takeBorder 144 = some (144, .sipush 128, 3, [], 128) := rfl
theorem i_X1_takeBorder_147 : am_i m_X1_takeBorder 147 = some (147, .putfield 32, 3, [1, 5, 0], 0) := rfl
theorem i_X1_takeBorder_150 : am_i m_X1_takeBorder 150 = some (150, .return_, 1, [], 0) := rfl
theorem b_X1_takeBorder_5 {a0 a1 a2 n_a1 : Nat} {x3 x4 x4' : Int} {v5 v6 : Value} {h : am_H} (w4 : wr x4 = x4') (k1 : K5 h a2) (n2 : gn h a1 = n_a1) (s3 : sh h a1 = (1, 0)) (g4 : ((fZ h a2 2) ≤ x4') → (256 ≤ (n_a1 : Int))) (g5 : ((fZ h a2 2) ≤ x4') → ((-1 ≤ (wr ((fZ h a2 0) - 1)) ∧ (wr ((fZ h a2 0) - 1)) < 16) ∧ (-1 ≤ (wr ((fZ h a2 1) - 1)) ∧ (wr ((fZ h a2 1) - 1)) < 16) ∧ 0 ≤ (fZ h a2 3))) (k6 : K1 h a0) (g7 : ((fZ h a2 2) ≤ x4') → (¬ ((fZ h a2 2) ≤ 0)) → (wr (2 * (fZ h a2 2)) ≠ 0)) (g8 : (¬ ((fZ h a2 2) ≤ x4')) → (256 ≤ (n_a1 : Int))) (g9 : (¬ ((fZ h a2 2) ≤ x4')) → ((-1 ≤ (wr ((fZ h a2 0) + x4)) ∧ (wr ((fZ h a2 0) + x4)) < 16) ∧ (-1 ≤ (wr ((fZ h a2 1) - 1)) ∧ (wr ((fZ h a2 1) - 1)) < 16) ∧ 0 ≤ (fZ h a2 3))) (g10 : (¬ ((fZ h a2 2) ≤ x4')) → ((-1 ≤ (wr ((fZ h a2 0) - 1)) ∧ (wr ((fZ h a2 0) - 1)) < 16) ∧ (-1 ≤ (wr ((fZ h a2 1) + x4)) ∧ (wr ((fZ h a2 1) + x4)) < 16) ∧ 0 ≤ (fZ h a2 3))) (g11 : (¬ ((fZ h a2 2) ≤ x4')) → (0 ≤ x4' ∧ x4' < (8 : Int))) : rn m_X1_takeBorder 5 [.ref a0, .ref a1, .ref a2, .int (mI x3), .int (mI x4), v5, v6] [] h = if (fZ h a2 2) ≤ x4' then some (.inl none, uF 1 (uF 1 h a0 4 (.int (mI (bord (gZ h a1) (fZ h a2 3) (wr ((fZ h a2 0) - 1)) (wr ((fZ h a2 1) - 1)))))) a0 5 (.int (mI (if (fZ h a2 2) ≤ 0 then 128 else Int.tdiv (wr (x3 + (fZ h a2 2))) (wr (2 * (fZ h a2 2))))))) else rn m_X1_takeBorder 5 [.ref a0, .ref a1, .ref a2, .int (mI (x3 + ((bord (gZ h a1) (fZ h a2 3) (wr ((fZ h a2 0) + x4)) (wr ((fZ h a2 1) - 1))) + (bord (gZ h a1) (fZ h a2 3) (wr ((fZ h a2 0) - 1)) (wr ((fZ h a2 1) + x4)))))), .int (mI (x4 + 1)), .int (mI (bord (gZ h a1) (fZ h a2 3) (wr ((fZ h a2 0) + x4)) (wr ((fZ h a2 1) - 1)))), .int (mI (bord (gZ h a1) (fZ h a2 3) (wr ((fZ h a2 0) - 1)) (wr ((fZ h a2 1) + x4))))] [] (uZ (uZ h (a0 + 5) x4' (bord (gZ h a1) (fZ h a2 3) (wr ((fZ h a2 0) + x4)) (wr ((fZ h a2 1) - 1)))) (a0 + 6) x4' (bord (gZ h a1) (fZ h a2 3) (wr ((fZ h a2 0) - 1)) (wr ((fZ h a2 1) + x4)))) := by
  refine (tq_iload i_X1_takeBorder_5 rfl rfl).trans ?_
  refine (tq_aload_n i_X1_takeBorder_7 rfl (isA_ref _) rfl).trans ?_
  refine (tq_getfield i_X1_takeBorder_8 (K5_s k1) (g_5_2 (K5_s k1)) (isV_I _) rfl).trans ?_
  refine (tq_icmp_ge (pt := 96) i_X1_takeBorder_11 w4 (wr_fZ _ _ _) (by decide) rfl).trans ?_
  refine ite_congr rfl (fun c1 => ?_) (fun c1 => ?_)
  · refine (tq_aload_n i_X1_takeBorder_96 rfl (isA_ref _) rfl).trans ?_
    refine (tq_aload_n i_X1_takeBorder_97 rfl (isA_ref _) rfl).trans ?_
    refine (tq_aload_n i_X1_takeBorder_98 rfl (isA_ref _) rfl).trans ?_
    refine (tq_getfield i_X1_takeBorder_99 (K5_s k1) (g_5_0 (K5_s k1)) (isV_I _) rfl).trans ?_
    refine (tq_iconst i_X1_takeBorder_102 rfl).trans ?_
    refine (tq_isub i_X1_takeBorder_103 rfl).trans ?_
    refine (tq_aload_n i_X1_takeBorder_104 rfl (isA_ref _) rfl).trans ?_
    refine (tq_getfield i_X1_takeBorder_105 (K5_s k1) (g_5_1 (K5_s k1)) (isV_I _) rfl).trans ?_
    refine (tq_iconst i_X1_takeBorder_108 rfl).trans ?_
    refine (tq_isub i_X1_takeBorder_109 rfl).trans ?_
    refine (tq_aload_n i_X1_takeBorder_110 rfl (isA_ref _) rfl).trans ?_
    refine (tq_getfield i_X1_takeBorder_111 (K5_s k1) (g_5_3 (K5_s k1)) (isV_I _) rfl).trans ?_
    refine (c_X1_bordering i_X1_takeBorder_114 (ltd d_X1_takeBorder (by decide)) (isA_ref _) (stOk_1 _) rfl).trans ?_
    refine (congrArg (cl _ _ _ _) (bordering_ok rfl rfl (wr_fZ _ _ _) n2 s3 (g4 c1) (g5 c1))).trans ?_
    refine (cl_v _ _ _ _ _ _).trans ?_
    refine (tq_putfield i_X1_takeBorder_117 (K1_s k6) (okf_1_4 _) rfl).trans ?_
    refine (tq_aload_n i_X1_takeBorder_120 rfl (isA_ref _) rfl).trans ?_
    refine (tq_aload_n i_X1_takeBorder_121 rfl (isA_ref _) rfl).trans ?_
    refine (tq_getfield i_X1_takeBorder_122 ((sh_uF _ _ _ _ _ _).trans (K5_s k1)) ((g_5_2 ((sh_uF _ _ _ _ _ _).trans (K5_s k1))).trans (congrArg (fun z => Value.int (mI z)) (fZ_uF_nk (K1_s k6) (okf_1_4 _) (by decide)))) (isV_I _) rfl).trans ?_
    refine (tq_if_le (pt := 144) i_X1_takeBorder_125 (wr_fZ _ _ _) (by decide) rfl).trans ?_
    refine Eq.trans (b := if (fZ h a2 2) ≤ 0 then rn m_X1_takeBorder 147 [.ref a0, .ref a1, .ref a2, .int (mI x3), .int (mI x4), v5, v6] [.int (mI 128), .ref a0] (uF 1 h a0 4 (.int (mI (bord (gZ h a1) (fZ h a2 3) (wr ((fZ h a2 0) - 1)) (wr ((fZ h a2 1) - 1)))))) else rn m_X1_takeBorder 147 [.ref a0, .ref a1, .ref a2, .int (mI x3), .int (mI x4), v5, v6] [.int (mI (Int.tdiv (wr (x3 + (fZ h a2 2))) (wr (2 * (fZ h a2 2))))), .ref a0] (uF 1 h a0 4 (.int (mI (bord (gZ h a1) (fZ h a2 3) (wr ((fZ h a2 0) - 1)) (wr ((fZ h a2 1) - 1))))))) (ite_congr rfl (fun c2 => ?_) (fun c2 => ?_)) ?_
    · refine (tq_sipush i_X1_takeBorder_144 rfl).trans ?_
      rfl
    · refine (tq_iload_n i_X1_takeBorder_128 rfl rfl).trans ?_
      refine (tq_aload_n i_X1_takeBorder_129 rfl (isA_ref _) rfl).trans ?_
      refine (tq_getfield i_X1_takeBorder_130 ((sh_uF _ _ _ _ _ _).trans (K5_s k1)) ((g_5_2 ((sh_uF _ _ _ _ _ _).trans (K5_s k1))).trans (congrArg (fun z => Value.int (mI z)) (fZ_uF_nk (K1_s k6) (okf_1_4 _) (by decide)))) (isV_I _) rfl).trans ?_
      refine (tq_iadd i_X1_takeBorder_133 rfl).trans ?_
      refine (tq_iconst i_X1_takeBorder_134 rfl).trans ?_
      refine (tq_aload_n i_X1_takeBorder_135 rfl (isA_ref _) rfl).trans ?_
      refine (tq_getfield i_X1_takeBorder_136 ((sh_uF _ _ _ _ _ _).trans (K5_s k1)) ((g_5_2 ((sh_uF _ _ _ _ _ _).trans (K5_s k1))).trans (congrArg (fun z => Value.int (mI z)) (fZ_uF_nk (K1_s k6) (okf_1_4 _) (by decide)))) (isV_I _) rfl).trans ?_
      refine (tq_imul i_X1_takeBorder_139 rfl).trans ?_
      refine (tq_idiv i_X1_takeBorder_140 rfl rfl (g7 c1 c2) rfl).trans ?_
      refine (tq_goto (pc' := 147) i_X1_takeBorder_141 (by decide)).trans ?_
      rfl
    refine Eq.trans ite_I ?_
    refine (tq_putfield i_X1_takeBorder_147 ((sh_uF _ _ _ _ _ _).trans (K1_s k6)) (okf_1_5 _) rfl).trans ?_
    exact tq_return i_X1_takeBorder_150 r_X1_takeBorder
  · refine (tq_aload_n i_X1_takeBorder_14 rfl (isA_ref _) rfl).trans ?_
    refine (tq_aload_n i_X1_takeBorder_15 rfl (isA_ref _) rfl).trans ?_
    refine (tq_getfield i_X1_takeBorder_16 (K5_s k1) (g_5_0 (K5_s k1)) (isV_I _) rfl).trans ?_
    refine (tq_iload i_X1_takeBorder_19 rfl rfl).trans ?_
    refine (tq_iadd i_X1_takeBorder_21 rfl).trans ?_
    refine (tq_aload_n i_X1_takeBorder_22 rfl (isA_ref _) rfl).trans ?_
    refine (tq_getfield i_X1_takeBorder_23 (K5_s k1) (g_5_1 (K5_s k1)) (isV_I _) rfl).trans ?_
    refine (tq_iconst i_X1_takeBorder_26 rfl).trans ?_
    refine (tq_isub i_X1_takeBorder_27 rfl).trans ?_
    refine (tq_aload_n i_X1_takeBorder_28 rfl (isA_ref _) rfl).trans ?_
    refine (tq_getfield i_X1_takeBorder_29 (K5_s k1) (g_5_3 (K5_s k1)) (isV_I _) rfl).trans ?_
    refine (c_X1_bordering i_X1_takeBorder_32 (ltd d_X1_takeBorder (by decide)) (isA_ref _) stOk_0 rfl).trans ?_
    refine (congrArg (cl _ _ _ _) (bordering_ok rfl rfl (wr_fZ _ _ _) n2 s3 (g8 c1) (g9 c1))).trans ?_
    refine (cl_v _ _ _ _ _ _).trans ?_
    refine (tq_istore (L' := [.ref a0, .ref a1, .ref a2, .int (mI x3), .int (mI x4), .int (mI (bord (gZ h a1) (fZ h a2 3) (wr ((fZ h a2 0) + x4)) (wr ((fZ h a2 1) - 1)))), v6]) i_X1_takeBorder_35 rfl rfl).trans ?_
    refine (tq_aload_n i_X1_takeBorder_37 rfl (isA_ref _) rfl).trans ?_
    refine (tq_aload_n i_X1_takeBorder_38 rfl (isA_ref _) rfl).trans ?_
    refine (tq_getfield i_X1_takeBorder_39 (K5_s k1) (g_5_0 (K5_s k1)) (isV_I _) rfl).trans ?_
    refine (tq_iconst i_X1_takeBorder_42 rfl).trans ?_
    refine (tq_isub i_X1_takeBorder_43 rfl).trans ?_
    refine (tq_aload_n i_X1_takeBorder_44 rfl (isA_ref _) rfl).trans ?_
    refine (tq_getfield i_X1_takeBorder_45 (K5_s k1) (g_5_1 (K5_s k1)) (isV_I _) rfl).trans ?_
    refine (tq_iload i_X1_takeBorder_48 rfl rfl).trans ?_
    refine (tq_iadd i_X1_takeBorder_50 rfl).trans ?_
    refine (tq_aload_n i_X1_takeBorder_51 rfl (isA_ref _) rfl).trans ?_
    refine (tq_getfield i_X1_takeBorder_52 (K5_s k1) (g_5_3 (K5_s k1)) (isV_I _) rfl).trans ?_
    refine (c_X1_bordering i_X1_takeBorder_55 (ltd d_X1_takeBorder (by decide)) (isA_ref _) stOk_0 rfl).trans ?_
    refine (congrArg (cl _ _ _ _) (bordering_ok rfl rfl (wr_fZ _ _ _) n2 s3 (g8 c1) (g10 c1))).trans ?_
    refine (cl_v _ _ _ _ _ _).trans ?_
    refine (tq_istore (L' := [.ref a0, .ref a1, .ref a2, .int (mI x3), .int (mI x4), .int (mI (bord (gZ h a1) (fZ h a2 3) (wr ((fZ h a2 0) + x4)) (wr ((fZ h a2 1) - 1)))), .int (mI (bord (gZ h a1) (fZ h a2 3) (wr ((fZ h a2 0) - 1)) (wr ((fZ h a2 1) + x4))))]) i_X1_takeBorder_58 rfl rfl).trans ?_
    refine (tq_aload_n i_X1_takeBorder_60 rfl (isA_ref _) rfl).trans ?_
    refine (tq_getfield i_X1_takeBorder_61 (K1_s k6) (gR (g_1_2 (K1_s k6)) (K1_e2 k6)) (isV_ref _) rfl).trans ?_
    refine (tq_iload i_X1_takeBorder_64 rfl rfl).trans ?_
    refine (tq_iload i_X1_takeBorder_66 rfl rfl).trans ?_
    refine (c_X7_put i_X1_takeBorder_68 (ltd d_X1_takeBorder (by decide)) (isA_ref _) stOk_0 rfl).trans ?_
    refine (congrArg (cl _ _ _ _) (put_ok w4 (K1_n2 k6) (K1_s2 k6) (g11 c1))).trans ?_
    refine (cl_n _ _ _ _ _).trans ?_
    refine (tq_aload_n i_X1_takeBorder_71 rfl (isA_ref _) rfl).trans ?_
    refine (tq_getfield i_X1_takeBorder_72 ((sh_uZ _ _ _ _ _).trans (K1_s k6)) (gR ((g_1_3 ((sh_uZ _ _ _ _ _).trans (K1_s k6))).trans (congrArg am_rv (fA_uZ _ _ _ _ _ _))) (K1_e3 k6)) (isV_ref _) rfl).trans ?_
    refine (tq_iload i_X1_takeBorder_75 rfl rfl).trans ?_
    refine (tq_iload i_X1_takeBorder_77 rfl rfl).trans ?_
    refine (c_X7_put i_X1_takeBorder_79 (ltd d_X1_takeBorder (by decide)) (isA_ref _) stOk_0 rfl).trans ?_
    refine (congrArg (cl _ _ _ _) (put_ok w4 ((gn_uZ _ _ _ _ _).trans (K1_n3 k6)) ((sh_uZ _ _ _ _ _).trans (K1_s3 k6)) (g11 c1))).trans ?_
    refine (cl_n _ _ _ _ _).trans ?_
    refine (tq_iload_n i_X1_takeBorder_82 rfl rfl).trans ?_
    refine (tq_iload i_X1_takeBorder_83 rfl rfl).trans ?_
    refine (tq_iload i_X1_takeBorder_85 rfl rfl).trans ?_
    refine (tq_iadd i_X1_takeBorder_87 rfl).trans ?_
    refine (tq_iadd i_X1_takeBorder_88 rfl).trans ?_
    refine (tq_istore_n (L' := [.ref a0, .ref a1, .ref a2, .int (mI (x3 + ((bord (gZ h a1) (fZ h a2 3) (wr ((fZ h a2 0) + x4)) (wr ((fZ h a2 1) - 1))) + (bord (gZ h a1) (fZ h a2 3) (wr ((fZ h a2 0) - 1)) (wr ((fZ h a2 1) + x4)))))), .int (mI x4), .int (mI (bord (gZ h a1) (fZ h a2 3) (wr ((fZ h a2 0) + x4)) (wr ((fZ h a2 1) - 1)))), .int (mI (bord (gZ h a1) (fZ h a2 3) (wr ((fZ h a2 0) - 1)) (wr ((fZ h a2 1) + x4))))]) i_X1_takeBorder_89 rfl rfl).trans ?_
    refine (tq_iinc (L' := [.ref a0, .ref a1, .ref a2, .int (mI (x3 + ((bord (gZ h a1) (fZ h a2 3) (wr ((fZ h a2 0) + x4)) (wr ((fZ h a2 1) - 1))) + (bord (gZ h a1) (fZ h a2 3) (wr ((fZ h a2 0) - 1)) (wr ((fZ h a2 1) + x4)))))), .int (mI (x4 + 1)), .int (mI (bord (gZ h a1) (fZ h a2 3) (wr ((fZ h a2 0) + x4)) (wr ((fZ h a2 1) - 1)))), .int (mI (bord (gZ h a1) (fZ h a2 3) (wr ((fZ h a2 0) - 1)) (wr ((fZ h a2 1) + x4))))]) i_X1_takeBorder_90 rfl rfl rfl).trans ?_
    refine (tq_goto (pc' := 5) i_X1_takeBorder_93 (by decide)).trans ?_
    rfl
def SBo (B : Nat) : Nat → Nat → Prop := fun c k => c = B + 5 ∨ c = B + 6 ∨ c = B ∧ (k = 4 ∨ k = 5)
theorem takeBorder_ok {h : am_H} {B P a n : Nat} {X Y Z T : Int} (kB : K1 h B) (kP : K5 h P) (s : sh h a = (1, 0)) (n1 : gn h a = n) (hn : 256 ≤ (n : Int)) (a5 : a ≠ B + 5) (a6 : a ≠ B + 6) (hp : pixels (gZ h a)) (pa : partAt h P X Y Z T) (ip : isPart X Y Z T) : ∃ h', rn m_X1_takeBorder 0 [.ref B, .ref a, .ref P, am_J, am_J, am_J, am_J] [] h = some (.inl none, h') ∧ Md (SBo B) h h' ∧ isBo h' B (gZ h a) X Y Z T := by
  have pP : P ≠ B + 5 ∧ P ≠ B + 6 ∧ P ≠ B := ⟨ne_sh kP (K1_s2 kB) (by decide), ne_sh kP (K1_s3 kB) (by decide), ne_sh kP (K1_s kB) (by decide)⟩
  obtain ⟨hz, hX, hY, hT⟩ := ip
  rw [b_X1_takeBorder_0]
  refine lp (m := m_X1_takeBorder) (pc := 5) (L := fun i (x : Int × (Value × Value)) => [.ref B, .ref a, .ref P, .int (mI x.1), .int (mI i), x.2.1, x.2.2]) (N := Z) (P := fun r => ∃ h', r = some (.inl none, h') ∧ Md (SBo B) h h' ∧ isBo h' B (gZ h a) X Y Z T) (fun i x h' => 0 ≤ i ∧ Md (fun c _ => c = B + 5 ∨ c = B + 6) h h' ∧ x.1 = sm i.toNat (fun i => bord (gZ h a) T (X + i) (Y - 1) + bord (gZ h a) T (X - 1) (Y + i)) ∧ (∀ j, 0 ≤ j → j < i → gZ h' (B + 5) j = bord (gZ h a) T (X + j) (Y - 1) ∧ gZ h' (B + 6) j = bord (gZ h a) T (X - 1) (Y + j))) ?_ ?_ 0 (0, am_J, am_J) h (by omega) ⟨by omega, Md_rf _ _, rfl, fun j j0 j1 => by omega⟩
  · intro i x h' hi ⟨i0, md, ex, hh⟩
    obtain ⟨x, v1, v2⟩ := x
    obtain ⟨p0, p1, p2, p3⟩ := partAt_md md (by intro k _; omega) pa
    have kB' := K1_sm md.1 kB
    have ea : gZ h' a = gZ h a := md_Z md (by omega)
    have st := b_X1_takeBorder_5 (a0 := B) (a1 := a) (a2 := P) (x3 := x) (v5 := v1) (v6 := v2) (h := h') (wr_id (z := i) (by omega) (by omega)) (K5_sm md.1 kP) ((md_gn md _).trans n1) ((md_sh md _).trans s)
    simp (disch := omega) only [p0, p1, p2, p3, wr_id, ea] at st
    have st := st (fun _ => hn) (fun _ => by omega) kB' (fun _ _ => by omega) (fun _ => hn) (fun _ => by omega) (fun _ => by omega) (fun _ => by omega)
    rw [if_neg (by omega)] at st
    have q1 := bord_b (t := T) (x := X + i) (y := Y - 1) hp (by omega) (by omega) (by omega)
    have q2 := bord_b (t := T) (x := X - 1) (y := Y + i) hp (by omega) (by omega) (by omega)
    have m1 : Md (fun c _ => c = B + 5 ∨ c = B + 6) h' (uZ h' (B + 5) i (bord (gZ h a) T (X + i) (Y - 1))) := Md_mono (Md_uZ _ _ _ _) fun c k q => Or.inl q
    have m2 : Md (fun c _ => c = B + 5 ∨ c = B + 6) (uZ h' (B + 5) i (bord (gZ h a) T (X + i) (Y - 1))) (uZ (uZ h' (B + 5) i (bord (gZ h a) T (X + i) (Y - 1))) (B + 6) i (bord (gZ h a) T (X - 1) (Y + i))) := Md_mono (Md_uZ _ _ _ _) fun c k q => Or.inr q
    refine ⟨(_, _, _), _, st, by omega, Md_tr md (Md_tr m1 m2), ?_, ?_⟩
    · simp only at ex ⊢
      rw [sm_succ i0, ex]
    · intro j j0 j1
      have s5 := sh1 (K1_s2 kB')
      have s6 := sh1 (K1_s3 (K1_sm m1.1 kB'))
      rw [gZ_uZ_ne _ _ (by omega), gZ_uZ' s5, gZ_uZ' s6, gZ_uZ_ne _ _ (by omega)]
      by_cases e : j = i
      · rw [if_pos e, if_pos e, wr_255 q1, wr_255 q2, e]
        exact ⟨rfl, rfl⟩
      · rw [if_neg e, if_neg e]
        exact hh j j0 (by omega)
  · intro x h' ⟨i0, md, ex, hh⟩
    obtain ⟨x, v1, v2⟩ := x
    obtain ⟨p0, p1, p2, p3⟩ := partAt_md md (by intro k _; omega) pa
    have kB' := K1_sm md.1 kB
    have ea : gZ h' a = gZ h a := md_Z md (by omega)
    have hb := meanv_b hp ⟨hz, hX, hY, hT⟩
    have h1 := sm_le (n := Z.toNat) (f := fun i => bord (gZ h a) T (X + i) (Y - 1) + bord (gZ h a) T (X - 1) (Y + i)) (b := 510) fun i i0 i1 => by
      have q1 := bord_b (t := T) (x := X + i) (y := Y - 1) hp (by omega) (by omega) (by omega)
      have q2 := bord_b (t := T) (x := X - 1) (y := Y + i) hp (by omega) (by omega) (by omega)
      omega
    simp only at ex
    have st := b_X1_takeBorder_5 (a0 := B) (a1 := a) (a2 := P) (x3 := x) (v5 := v1) (v6 := v2) (h := h') (wr_id (z := Z) (by omega) (by omega)) (K5_sm md.1 kP) ((md_gn md _).trans n1) ((md_sh md _).trans s)
    rw [← ex] at h1
    have e1 : wr (x + Z) = x + Z := wr_id (by omega) (by omega)
    simp (disch := omega) only [p0, p1, p2, p3, wr_id, ea, e1] at st
    have st := st (fun _ => hn) (fun _ => by omega) kB' (fun _ _ => by omega) (fun _ => hn) (fun _ => by omega) (fun _ => by omega) (fun _ => by omega)
    rw [if_pos (by omega), if_neg (by omega), tdv (by omega)] at st
    have e2 : (x + Z) / (2 * Z) = meanv (gZ h a) X Y Z T := by rw [ex]; rfl
    rw [e2] at st
    refine ⟨_, st, ?_, ?_⟩
    · refine Md_tr (Md_mono md fun c k q => ?_) (Md_tr (Md_mono (Md_uF (Sm_uF_1_4 _ _ _)) fun c k q => ?_) (Md_mono (Md_uF (Sm_uF_1_5 _ _ _)) fun c k q => ?_))
      · exact q.elim Or.inl fun q => Or.inr (Or.inl q)
      · exact Or.inr (Or.inr ⟨q.1, Or.inl q.2⟩)
      · exact Or.inr (Or.inr ⟨q.1, Or.inr q.2⟩)
    · have sB := K1_s kB'
      have sB2 : ∀ v, sh (uF 1 h' B 4 v) B = (5, 1) := fun v => (sh_uF _ _ _ _ _ _).trans sB
      refine ⟨fun j j0 j1 => ?_, fun j j0 j1 => ?_, ?_, ?_⟩
      · rw [gZ_uF, gZ_uF]; exact (hh j j0 j1).1
      · rw [gZ_uF, gZ_uF]; exact (hh j j0 j1).2
      · rw [fZ_uF_nk (sB2 _) (okf_1_5 _) (by decide), fZ_uF_eq sB (okf_1_4 _), ← ea, wr_bordg]
      · rw [fZ_uF_eq (sB2 _) (okf_1_5 _)]
        exact wr_255 hb
theorem i_X1_fromBorder_0 : am_i m_X1_fromBorder 0 = some (0, .iload_n 1, 1, [], 0) := rfl
theorem i_X1_fromBorder_1 : am_i m_X1_fromBorder 1 = some (1, .tableswitch 50 0 2 #[27, 32, 41], 27, [], 0) := rfl
theorem b_X1_fromBorder_0 {a0 : Nat} {x1 x2 x3 x1' : Int} {h : am_H} (w1 : wr x1 = x1') : rn m_X1_fromBorder 0 [.ref a0, .int (mI x1), .int (mI x2), .int (mI x3)] [] h = sw x1' (fun p => rn m_X1_fromBorder p [.ref a0, .int (mI x1), .int (mI x2), .int (mI x3)] [] h) 51 0 [28, 33, 42] := by
  refine (tq_iload_n i_X1_fromBorder_0 rfl rfl).trans ?_
  exact tq_switch (dt := 51) (ts := [28, 33, 42]) i_X1_fromBorder_1 w1 (by decide) (by decide) (by decide)
theorem i_X1_fromBorder_28 : am_i m_X1_fromBorder 28 = some (28, .aload_n 0, 1, [], 0) := rfl
theorem i_X1_fromBorder_29 : am_i m_X1_fromBorder 29 = some (29, .getfield 32, 3, [1, 5, 0], 0) := rfl
theorem i_X1_fromBorder_32 : am_i m_X1_fromBorder 32 = some (32, .ireturn, 1, [], 0) := rfl
theorem b_X1_fromBorder_28 {a0 : Nat} {v1 v2 v3 : Value} {h : am_H} (k1 : K1 h a0) : rn m_X1_fromBorder 28 [.ref a0, v1, v2, v3] [] h = some (.inl (some (.int (mI (fZ h a0 5)))), h) := by
  refine (tq_aload_n i_X1_fromBorder_28 rfl (isA_ref _) rfl).trans ?_
  refine (tq_getfield i_X1_fromBorder_29 (K1_s k1) (g_1_5 (K1_s k1)) (isV_I _) rfl).trans ?_
  exact tq_ireturn i_X1_fromBorder_32 r_X1_fromBorder rfl
theorem i_X1_fromBorder_33 : am_i m_X1_fromBorder 33 = some (33, .aload_n 0, 1, [], 0) := rfl
theorem i_X1_fromBorder_34 : am_i m_X1_fromBorder 34 = some (34, .getfield 21, 3, [1, 2, 0], 0) := rfl
theorem i_X1_fromBorder_37 : am_i m_X1_fromBorder 37 = some (37, .iload_n 2, 1, [], 0) := rfl
theorem i_X1_fromBorder_38 : am_i m_X1_fromBorder 38 = some (38, .invokestatic 69, 3, [32], 0) := rfl
theorem i_X1_fromBorder_41 : am_i m_X1_fromBorder 41 = some (41, .ireturn, 1, [], 0) := rfl
theorem b_X1_fromBorder_33 {a0 : Nat} {v1 v3 : Value} {x2 x2' : Int} {h : am_H} (w2 : wr x2 = x2') (k1 : K1 h a0) (g2 : 0 ≤ x2' ∧ x2' < (8 : Int)) : rn m_X1_fromBorder 33 [.ref a0, v1, .int (mI x2), v3] [] h = some (.inl (some (.int (mI (gZ h (a0 + 5) x2')))), h) := by
  refine (tq_aload_n i_X1_fromBorder_33 rfl (isA_ref _) rfl).trans ?_
  refine (tq_getfield i_X1_fromBorder_34 (K1_s k1) (gR (g_1_2 (K1_s k1)) (K1_e2 k1)) (isV_ref _) rfl).trans ?_
  refine (tq_iload_n i_X1_fromBorder_37 rfl rfl).trans ?_
  refine (c_X7_get i_X1_fromBorder_38 (ltd d_X1_fromBorder (by decide)) (isA_ref _) stOk_0 rfl).trans ?_
  refine (congrArg (cl _ _ _ _) (get_ok w2 (K1_n2 k1) (K1_s2 k1) (by decide) g2)).trans ?_
  refine (cl_v _ _ _ _ _ _).trans ?_
  exact tq_ireturn i_X1_fromBorder_41 r_X1_fromBorder rfl
theorem i_X1_fromBorder_42 : am_i m_X1_fromBorder 42 = some (42, .aload_n 0, 1, [], 0) := rfl
theorem i_X1_fromBorder_43 : am_i m_X1_fromBorder 43 = some (43, .getfield 25, 3, [1, 3, 0], 0) := rfl
theorem i_X1_fromBorder_46 : am_i m_X1_fromBorder 46 = some (46, .iload_n 3, 1, [], 0) := rfl
theorem i_X1_fromBorder_47 : am_i m_X1_fromBorder 47 = some (47, .invokestatic 69, 3, [32], 0) := rfl
theorem i_X1_fromBorder_50 : am_i m_X1_fromBorder 50 = some (50, .ireturn, 1, [], 0) := rfl
theorem b_X1_fromBorder_42 {a0 : Nat} {v1 v2 : Value} {x3 x3' : Int} {h : am_H} (w3 : wr x3 = x3') (k1 : K1 h a0) (g2 : 0 ≤ x3' ∧ x3' < (8 : Int)) : rn m_X1_fromBorder 42 [.ref a0, v1, v2, .int (mI x3)] [] h = some (.inl (some (.int (mI (gZ h (a0 + 6) x3')))), h) := by
  refine (tq_aload_n i_X1_fromBorder_42 rfl (isA_ref _) rfl).trans ?_
  refine (tq_getfield i_X1_fromBorder_43 (K1_s k1) (gR (g_1_3 (K1_s k1)) (K1_e3 k1)) (isV_ref _) rfl).trans ?_
  refine (tq_iload_n i_X1_fromBorder_46 rfl rfl).trans ?_
  refine (c_X7_get i_X1_fromBorder_47 (ltd d_X1_fromBorder (by decide)) (isA_ref _) stOk_0 rfl).trans ?_
  refine (congrArg (cl _ _ _ _) (get_ok w3 (K1_n3 k1) (K1_s3 k1) (by decide) g2)).trans ?_
  refine (cl_v _ _ _ _ _ _).trans ?_
  exact tq_ireturn i_X1_fromBorder_50 r_X1_fromBorder rfl
theorem i_X1_fromBorder_51 : am_i m_X1_fromBorder 51 = some (51, .aload_n 0, 1, [], 0) := rfl
theorem i_X1_fromBorder_52 : am_i m_X1_fromBorder 52 = some (52, .getfield 21, 3, [1, 2, 0], 0) := rfl
theorem i_X1_fromBorder_55 : am_i m_X1_fromBorder 55 = some (55, .iload_n 2, 1, [], 0) := rfl
theorem i_X1_fromBorder_56 : am_i m_X1_fromBorder 56 = some (56, .invokestatic 69, 3, [32], 0) := rfl
theorem i_X1_fromBorder_59 : am_i m_X1_fromBorder 59 = some (59, .aload_n 0, 1, [], 0) := rfl
theorem i_X1_fromBorder_60 : am_i m_X1_fromBorder 60 = some (60, .getfield 25, 3, [1, 3, 0], 0) := rfl
theorem i_X1_fromBorder_63 : am_i m_X1_fromBorder 63 = some (63, .iload_n 3, 1, [], 0) := rfl
theorem i_X1_fromBorder_64 : am_i m_X1_fromBorder 64 = some (64, .invokestatic 69, 3, [32], 0) := rfl
theorem i_X1_fromBorder_67 : am_i m_X1_fromBorder 67 = some (67, .iadd, 1, [], 0) := rfl
theorem i_X1_fromBorder_68 : am_i m_X1_fromBorder 68 = some (68, .aload_n 0, 1, [], 0) := rfl
theorem i_X1_fromBorder_69 : am_i m_X1_fromBorder 69 = some (69, .getfield 28, 3, [1, 4, 0], 0) := rfl
theorem i_X1_fromBorder_72 : am_i m_X1_fromBorder 72 = some (72, .isub, 1, [], 0) := rfl
theorem i_X1_fromBorder_73 : am_i m_X1_fromBorder 73 = some (73, .invokestatic 88, 3, [17], 0) := rfl
theorem i_X1_fromBorder_76 : am_i m_X1_fromBorder 76 = some (76, .ireturn, 1, [], 0) := rfl
theorem b_X1_fromBorder_51 {a0 : Nat} {v1 : Value} {x2 x3 x2' x3' : Int} {h : am_H} (w2 : wr x2 = x2') (w3 : wr x3 = x3') (k1 : K1 h a0) (g2 : 0 ≤ x2' ∧ x2' < (8 : Int)) (g3 : 0 ≤ x3' ∧ x3' < (8 : Int)) : rn m_X1_fromBorder 51 [.ref a0, v1, .int (mI x2), .int (mI x3)] [] h = some (.inl (some (.int (mI (clampv (wr (((gZ h (a0 + 5) x2') + (gZ h (a0 + 6) x3')) - (fZ h a0 4))))))), h) := by
  refine (tq_aload_n i_X1_fromBorder_51 rfl (isA_ref _) rfl).trans ?_
  refine (tq_getfield i_X1_fromBorder_52 (K1_s k1) (gR (g_1_2 (K1_s k1)) (K1_e2 k1)) (isV_ref _) rfl).trans ?_
  refine (tq_iload_n i_X1_fromBorder_55 rfl rfl).trans ?_
  refine (c_X7_get i_X1_fromBorder_56 (ltd d_X1_fromBorder (by decide)) (isA_ref _) stOk_0 rfl).trans ?_
  refine (congrArg (cl _ _ _ _) (get_ok w2 (K1_n2 k1) (K1_s2 k1) (by decide) g2)).trans ?_
  refine (cl_v _ _ _ _ _ _).trans ?_
  refine (tq_aload_n i_X1_fromBorder_59 rfl (isA_ref _) rfl).trans ?_
  refine (tq_getfield i_X1_fromBorder_60 (K1_s k1) (gR (g_1_3 (K1_s k1)) (K1_e3 k1)) (isV_ref _) rfl).trans ?_
  refine (tq_iload_n i_X1_fromBorder_63 rfl rfl).trans ?_
  refine (c_X7_get i_X1_fromBorder_64 (ltd d_X1_fromBorder (by decide)) (isA_ref _) (stOk_1 _) rfl).trans ?_
  refine (congrArg (cl _ _ _ _) (get_ok w3 (K1_n3 k1) (K1_s3 k1) (by decide) g3)).trans ?_
  refine (cl_v _ _ _ _ _ _).trans ?_
  refine (tq_iadd i_X1_fromBorder_67 rfl).trans ?_
  refine (tq_aload_n i_X1_fromBorder_68 rfl (isA_ref _) rfl).trans ?_
  refine (tq_getfield i_X1_fromBorder_69 (K1_s k1) (g_1_4 (K1_s k1)) (isV_I _) rfl).trans ?_
  refine (tq_isub i_X1_fromBorder_72 rfl).trans ?_
  refine (c_X11_withinValues i_X1_fromBorder_73 (ltd d_X1_fromBorder (by decide)) stOk_0 rfl).trans ?_
  refine (congrArg (cl _ _ _ _) (withinValues_ok rfl)).trans ?_
  refine (cl_v _ _ _ _ _ _).trans ?_
  exact tq_ireturn i_X1_fromBorder_76 r_X1_fromBorder rfl
theorem gsB_b {p : Int → Int} {X Y Z T m x y : Int} (hp : pixels p) (ip : isPart X Y Z T) (hx : X ≤ x ∧ x < X + Z) (hy : Y ≤ y ∧ y < Y + Z) : 0 ≤ gsB p X Y Z T m x y ∧ gsB p X Y Z T m x y ≤ 255 := by
  have hb := meanv_b hp ip
  obtain ⟨hz, hX, hY, hT⟩ := ip
  unfold gsB
  repeat' split
  · exact hb
  · exact bord_b hp (by omega) (by omega) (by omega)
  · exact bord_b hp (by omega) (by omega) (by omega)
  · exact ⟨clampv_0 _, clampv_255 _⟩
theorem fromBorder_ok {h : am_H} {B : Nat} {p : Int → Int} {X Y Z T m c r : Int} (kB : K1 h B) (hp : pixels p) (ip : isPart X Y Z T) (bo : isBo h B p X Y Z T) (hm : 0 ≤ m ∧ m < 4) (hc : 0 ≤ c ∧ c < Z) (hr : 0 ≤ r ∧ r < Z) : rn m_X1_fromBorder 0 [.ref B, .int (mI m), .int (mI c), .int (mI r)] [] h = some (.inl (some (.int (mI (gsB p X Y Z T m (X + c) (Y + r))))), h) := by
  obtain ⟨hz, hX, hY, hT⟩ := ip
  obtain ⟨b1, b2, b3, b4⟩ := bo
  rw [b_X1_fromBorder_0 (wr_id (by omega) (by omega))]
  have : m = 0 ∨ m = 1 ∨ m = 2 ∨ m = 3 := by omega
  unfold gsB
  rcases this with rfl | rfl | rfl | rfl
  · show rn m_X1_fromBorder 28 _ _ _ = _
    rw [b_X1_fromBorder_28 kB, b4]
    rfl
  · show rn m_X1_fromBorder 33 _ _ _ = _
    rw [b_X1_fromBorder_33 (wr_id (by omega) (by omega)) kB ⟨hc.1, by omega⟩, b1 c hc.1 hc.2]
    rfl
  · show rn m_X1_fromBorder 42 _ _ _ = _
    rw [b_X1_fromBorder_42 (wr_id (by omega) (by omega)) kB ⟨hr.1, by omega⟩, b2 r hr.1 hr.2]
    rfl
  · show rn m_X1_fromBorder 51 _ _ _ = _
    have q1 := bord_b (t := T) (x := X + c) (y := Y - 1) hp (by omega) (by omega) (by omega)
    have q2 := bord_b (t := T) (x := X - 1) (y := Y + r) hp (by omega) (by omega) (by omega)
    have q3 := bord_b (t := T) (x := X - 1) (y := Y - 1) hp (by omega) (by omega) (by omega)
    rw [b_X1_fromBorder_51 (wr_id (by omega) (by omega)) (wr_id (by omega) (by omega)) kB ⟨hc.1, by omega⟩ ⟨hr.1, by omega⟩, b1 c hc.1 hc.2, b2 r hr.1 hr.2, b3, wr_id (by omega) (by omega)]
    rfl
