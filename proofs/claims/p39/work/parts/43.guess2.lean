/-! ===== guesses of whole parts ===== -/
def okv (v : Int) : Prop := 0 ≤ v ∧ v / 100 ≤ 16 ∧ v % 100 ≤ 16
theorem okv_b {v : Int} (h : okv v) : 0 ≤ v ∧ v ≤ 1616 := by unfold okv at h; omega
/-- what a mode wants of the heap -/
def modeOk (h : am_H) (B : Nat) (p f1 f2 : Int → Int) (X Y Z T m v1 v2 : Int) : Prop :=
  (0 ≤ m ∧ m < 4 ∧ pixels p ∧ isBo h B p X Y Z T) ∨ (4 ≤ m ∧ m ≤ 6 ∧ (m ≠ 5 → isH h (B + 1) f1 ∧ pixels f1 ∧ okv v1) ∧ (m ≠ 4 → isH h (B + 3) f2 ∧ pixels f2 ∧ okv v2))
theorem gss_b {h : am_H} {B : Nat} {p f1 f2 : Int → Int} {X Y Z T m v1 v2 x y : Int} (ip : isPart X Y Z T) (mo : modeOk h B p f1 f2 X Y Z T m v1 v2) (hx : X ≤ x ∧ x < X + Z) (hy : Y ≤ y ∧ y < Y + Z) : 0 ≤ gss p f1 f2 X Y Z T m v1 v2 x y ∧ gss p f1 f2 X Y Z T m v1 v2 x y ≤ 255 := by
  unfold gss
  rcases mo with ⟨m0, m4, hp, bo⟩ | ⟨m4, m6, q1, q2⟩
  · rw [if_pos m4]
    exact gsB_b hp ip hx hy
  · rw [if_neg (by omega)]
    unfold gsK
    by_cases e4 : m = 4
    · rw [if_pos e4]
      exact hv_b (q1 (by omega)).2.1 _ _
    · rw [if_neg e4]
      by_cases e5 : m = 5
      · rw [if_pos e5]
        exact hv_b (q2 e4).2.1 _ _
      · rw [if_neg e5]
        have h1 := hv_b (q1 e5).2.1 (2 * x + vX v1) (2 * y + vY v1)
        have h2 := hv_b (q2 e4).2.1 (2 * x + vX v2) (2 * y + vY v2)
        omega
theorem i_X1_fromKept_0 : am_i m_X1_fromKept 0 = some (0, .aload_n 1, 1, [], 0) := rfl
theorem i_X1_fromKept_1 : am_i m_X1_fromKept 1 = some (1, .invokevirtual 92, 3, [23, 5], 0) := rfl
theorem i_X1_fromKept_4 : am_i m_X1_fromKept 4 = some (4, .ifCond .ne 17, 3, [], 0) := rfl
theorem i_X1_fromKept_7 : am_i m_X1_fromKept 7 = some (7, .aload_n 0, 1, [], 0) := rfl
theorem i_X1_fromKept_8 : am_i m_X1_fromKept 8 = some (8, .getfield 12, 3, [1, 0, 0], 0) := rfl
theorem i_X1_fromKept_11 : am_i m_X1_fromKept 11 = some (11, .aload_n 1, 1, [], 0) := rfl
theorem i_X1_fromKept_12 : am_i m_X1_fromKept 12 = some (12, .getfield 95, 3, [5, 5, 1], 0) := rfl
theorem i_X1_fromKept_15 : am_i m_X1_fromKept 15 = some (15, .iload_n 2, 1, [], 0) := rfl
theorem i_X1_fromKept_16 : am_i m_X1_fromKept 16 = some (16, .iload_n 3, 1, [], 0) := rfl
theorem i_X1_fromKept_17 : am_i m_X1_fromKept 17 = some (17, .invokevirtual 98, 3, [61, 4], 0) := rfl
theorem i_X1_fromKept_21 : am_i m_X1_fromKept 21 = some (21, .aload_n 1, 1, [], 0) := rfl
theorem i_X1_fromKept_22 : am_i m_X1_fromKept 22 = some (22, .invokevirtual 101, 3, [22, 5], 0) := rfl
theorem i_X1_fromKept_25 : am_i m_X1_fromKept 25 = some (25, .ifCond .ne 17, 3, [], 0) := rfl
theorem i_X1_fromKept_28 : am_i m_X1_fromKept 28 = some (28, .aload_n 0, 1, [], 0) := rfl
theorem i_X1_fromKept_29 : am_i m_X1_fromKept 29 = some (29, .getfield 18, 3, [1, 1, 0], 0) := rfl
theorem i_X1_fromKept_32 : am_i m_X1_fromKept 32 = some (32, .aload_n 1, 1, [], 0) := rfl
theorem i_X1_fromKept_33 : am_i m_X1_fromKept 33 = some (33, .getfield 104, 3, [5, 6, 1], 0) := rfl
theorem i_X1_fromKept_36 : am_i m_X1_fromKept 36 = some (36, .iload_n 2, 1, [], 0) := rfl
theorem i_X1_fromKept_37 : am_i m_X1_fromKept 37 = some (37, .iload_n 3, 1, [], 0) := rfl
theorem i_X1_fromKept_38 : am_i m_X1_fromKept 38 = some (38, .invokevirtual 98, 3, [61, 4], 0) := rfl
theorem i_X1_fromKept_42 : am_i m_X1_fromKept 42 = some (42, .aload_n 0, 1, [], 0) := rfl
theorem i_X1_fromKept_43 : am_i m_X1_fromKept 43 = some (43, .getfield 12, 3, [1, 0, 0], 0) := rfl
theorem i_X1_fromKept_46 : am_i m_X1_fromKept 46 = some (46, .aload_n 1, 1, [], 0) := rfl
theorem i_X1_fromKept_47 : am_i m_X1_fromKept 47 = some (47, .getfield 95, 3, [5, 5, 1], 0) := rfl
theorem i_X1_fromKept_50 : am_i m_X1_fromKept 50 = some (50, .iload_n 2, 1, [], 0) := rfl
theorem i_X1_fromKept_51 : am_i m_X1_fromKept 51 = some (51, .iload_n 3, 1, [], 0) := rfl
theorem i_X1_fromKept_52 : am_i m_X1_fromKept 52 = some (52, .invokevirtual 98, 3, [61, 4], 0) := rfl
theorem b_X1_fromKept_0 {a0 a1 : Nat} {x2 x3 : Int} {h : am_H} (k1 : K5 h a1) (k2 : K1 h a0) : rn m_X1_fromKept 0 [.ref a0, .ref a1, .int (mI x2), .int (mI x3), am_J] [] h = if (((fZ h a1 4) = 5) ∨ (¬ (¬ (fZ h a1 4) = 6))) then if (((fZ h a1 4) = 4) ∨ (¬ (¬ (fZ h a1 4) = 6))) then cl m_X1_fromKept 55 [.ref a0, .ref a1, .int (mI x2), .int (mI x3), am_J] [] (rn m_X4_guessed 0 [.ref (a0 + 1), .int (mI (fZ h a1 5)), .int (mI x2), .int (mI x3)] [] h) else cl m_X1_fromKept 41 [.ref a0, .ref a1, .int (mI x2), .int (mI x3), am_J] [] (rn m_X4_guessed 0 [.ref (a0 + 3), .int (mI (fZ h a1 6)), .int (mI x2), .int (mI x3)] [] h) else cl m_X1_fromKept 20 [.ref a0, .ref a1, .int (mI x2), .int (mI x3), am_J] [] (rn m_X4_guessed 0 [.ref (a0 + 1), .int (mI (fZ h a1 5)), .int (mI x2), .int (mI x3)] [] h) := by
  refine (tq_aload_n i_X1_fromKept_0 rfl (isA_ref _) rfl).trans ?_
  refine (c_X5_usesSecond i_X1_fromKept_1 (K5_s k1) (ltd d_X1_fromKept (by decide)) stOk_0 rfl).trans ?_
  refine (congrArg (cl _ _ _ _) (b_X5_usesSecond_0 k1)).trans ?_
  refine (cl_v _ _ _ _ _ _).trans ?_
  refine (tq_ifb_ne (pt := 21) i_X1_fromKept_4 (by decide) rfl).trans ?_
  refine ite_congr rfl (fun c1 => ?_) (fun c1 => ?_)
  · refine (tq_aload_n i_X1_fromKept_21 rfl (isA_ref _) rfl).trans ?_
    refine (c_X5_usesFirst i_X1_fromKept_22 (K5_s k1) (ltd d_X1_fromKept (by decide)) stOk_0 rfl).trans ?_
    refine (congrArg (cl _ _ _ _) (b_X5_usesFirst_0 k1)).trans ?_
    refine (cl_v _ _ _ _ _ _).trans ?_
    refine (tq_ifb_ne (pt := 42) i_X1_fromKept_25 (by decide) rfl).trans ?_
    refine ite_congr rfl (fun c2 => ?_) (fun c2 => ?_)
    · refine (tq_aload_n i_X1_fromKept_42 rfl (isA_ref _) rfl).trans ?_
      refine (tq_getfield i_X1_fromKept_43 (K1_s k2) (gR (g_1_0 (K1_s k2)) (K1_e0 k2)) (isV_ref _) rfl).trans ?_
      refine (tq_aload_n i_X1_fromKept_46 rfl (isA_ref _) rfl).trans ?_
      refine (tq_getfield i_X1_fromKept_47 (K5_s k1) (g_5_5 (K5_s k1)) (isV_I _) rfl).trans ?_
      refine (tq_iload_n i_X1_fromKept_50 rfl rfl).trans ?_
      refine (tq_iload_n i_X1_fromKept_51 rfl rfl).trans ?_
      exact c_X4_guessed i_X1_fromKept_52 (K4_s (K1_k0 k2)) (ltd d_X1_fromKept (by decide)) stOk_0 rfl
    · refine (tq_aload_n i_X1_fromKept_28 rfl (isA_ref _) rfl).trans ?_
      refine (tq_getfield i_X1_fromKept_29 (K1_s k2) (gR (g_1_1 (K1_s k2)) (K1_e1 k2)) (isV_ref _) rfl).trans ?_
      refine (tq_aload_n i_X1_fromKept_32 rfl (isA_ref _) rfl).trans ?_
      refine (tq_getfield i_X1_fromKept_33 (K5_s k1) (g_5_6 (K5_s k1)) (isV_I _) rfl).trans ?_
      refine (tq_iload_n i_X1_fromKept_36 rfl rfl).trans ?_
      refine (tq_iload_n i_X1_fromKept_37 rfl rfl).trans ?_
      exact c_X4_guessed i_X1_fromKept_38 (K4_s (K1_k1 k2)) (ltd d_X1_fromKept (by decide)) stOk_0 rfl
  · refine (tq_aload_n i_X1_fromKept_7 rfl (isA_ref _) rfl).trans ?_
    refine (tq_getfield i_X1_fromKept_8 (K1_s k2) (gR (g_1_0 (K1_s k2)) (K1_e0 k2)) (isV_ref _) rfl).trans ?_
    refine (tq_aload_n i_X1_fromKept_11 rfl (isA_ref _) rfl).trans ?_
    refine (tq_getfield i_X1_fromKept_12 (K5_s k1) (g_5_5 (K5_s k1)) (isV_I _) rfl).trans ?_
    refine (tq_iload_n i_X1_fromKept_15 rfl rfl).trans ?_
    refine (tq_iload_n i_X1_fromKept_16 rfl rfl).trans ?_
    exact c_X4_guessed i_X1_fromKept_17 (K4_s (K1_k0 k2)) (ltd d_X1_fromKept (by decide)) stOk_0 rfl
theorem i_X1_fromKept_20 : am_i m_X1_fromKept 20 = some (20, .ireturn, 1, [], 0) := rfl
theorem b_X1_fromKept_20 {v0 v1 v2 v3 v4 : Value} {xs0 : Int} {h : am_H} : rn m_X1_fromKept 20 [v0, v1, v2, v3, v4] [.int (mI xs0)] h = some (.inl (some (.int (mI xs0))), h) := by
  exact tq_ireturn i_X1_fromKept_20 r_X1_fromKept rfl
theorem i_X1_fromKept_41 : am_i m_X1_fromKept 41 = some (41, .ireturn, 1, [], 0) := rfl
theorem b_X1_fromKept_41 {v0 v1 v2 v3 v4 : Value} {xs0 : Int} {h : am_H} : rn m_X1_fromKept 41 [v0, v1, v2, v3, v4] [.int (mI xs0)] h = some (.inl (some (.int (mI xs0))), h) := by
  exact tq_ireturn i_X1_fromKept_41 r_X1_fromKept rfl
theorem i_X1_fromKept_55 : am_i m_X1_fromKept 55 = some (55, .aload_n 0, 1, [], 0) := rfl
theorem i_X1_fromKept_56 : am_i m_X1_fromKept 56 = some (56, .getfield 18, 3, [1, 1, 0], 0) := rfl
theorem i_X1_fromKept_59 : am_i m_X1_fromKept 59 = some (59, .aload_n 1, 1, [], 0) := rfl
theorem i_X1_fromKept_60 : am_i m_X1_fromKept 60 = some (60, .getfield 104, 3, [5, 6, 1], 0) := rfl
theorem i_X1_fromKept_63 : am_i m_X1_fromKept 63 = some (63, .iload_n 2, 1, [], 0) := rfl
theorem i_X1_fromKept_64 : am_i m_X1_fromKept 64 = some (64, .iload_n 3, 1, [], 0) := rfl
theorem i_X1_fromKept_65 : am_i m_X1_fromKept 65 = some (65, .invokevirtual 98, 3, [61, 4], 0) := rfl
theorem b_X1_fromKept_55 {a0 a1 : Nat} {x2 x3 xs0 : Int} {v4 : Value} {h : am_H} (k1 : K1 h a0) (k2 : K5 h a1) : rn m_X1_fromKept 55 [.ref a0, .ref a1, .int (mI x2), .int (mI x3), v4] [.int (mI xs0)] h = cl m_X1_fromKept 68 [.ref a0, .ref a1, .int (mI x2), .int (mI x3), v4] [.int (mI xs0)] (rn m_X4_guessed 0 [.ref (a0 + 3), .int (mI (fZ h a1 6)), .int (mI x2), .int (mI x3)] [] h) := by
  refine (tq_aload_n i_X1_fromKept_55 rfl (isA_ref _) rfl).trans ?_
  refine (tq_getfield i_X1_fromKept_56 (K1_s k1) (gR (g_1_1 (K1_s k1)) (K1_e1 k1)) (isV_ref _) rfl).trans ?_
  refine (tq_aload_n i_X1_fromKept_59 rfl (isA_ref _) rfl).trans ?_
  refine (tq_getfield i_X1_fromKept_60 (K5_s k2) (g_5_6 (K5_s k2)) (isV_I _) rfl).trans ?_
  refine (tq_iload_n i_X1_fromKept_63 rfl rfl).trans ?_
  refine (tq_iload_n i_X1_fromKept_64 rfl rfl).trans ?_
  exact c_X4_guessed i_X1_fromKept_65 (K4_s (K1_k1 k1)) (ltd d_X1_fromKept (by decide)) (stOk_1 _) rfl
theorem i_X1_fromKept_68 : am_i m_X1_fromKept 68 = some (68, .iadd, 1, [], 0) := rfl
theorem i_X1_fromKept_69 : am_i m_X1_fromKept 69 = some (69, .istore 4, 2, [], 0) := rfl
theorem i_X1_fromKept_71 : am_i m_X1_fromKept 71 = some (71, .iload 4, 2, [], 0) := rfl
theorem i_X1_fromKept_73 : am_i m_X1_fromKept 73 = some (73, .iconst 1, 1, [], 1) := rfl
theorem i_X1_fromKept_74 : am_i m_X1_fromKept 74 = some (74, .iadd, 1, [], 0) := rfl
theorem i_X1_fromKept_75 : am_i m_X1_fromKept 75 = some (75, .iconst 1, 1, [], 1) := rfl
theorem i_X1_fromKept_76 : am_i m_X1_fromKept 76 = some (76, .ishr, 1, [], 0) := rfl
theorem i_X1_fromKept_77 : am_i m_X1_fromKept 77 = some (77, .ireturn, 1, [], 0) := rfl
theorem b_X1_fromKept_68 {v0 v1 v2 v3 v4 : Value} {xs0 xs1 : Int} {h : am_H} : rn m_X1_fromKept 68 [v0, v1, v2, v3, v4] [.int (mI xs0), .int (mI xs1)] h = some (.inl (some (.int (mI ((wr ((xs1 + xs0) + 1)) / 2 ^ 1)))), h) := by
  refine (tq_iadd i_X1_fromKept_68 rfl).trans ?_
  refine (tq_istore (L' := [v0, v1, v2, (am_k1 v3), .int (mI (xs1 + xs0))]) i_X1_fromKept_69 rfl rfl).trans ?_
  refine (tq_iload i_X1_fromKept_71 rfl rfl).trans ?_
  refine (tq_iconst i_X1_fromKept_73 rfl).trans ?_
  refine (tq_iadd i_X1_fromKept_74 rfl).trans ?_
  refine (tq_iconst i_X1_fromKept_75 rfl).trans ?_
  refine (tq_ishr (k := 1) i_X1_fromKept_76 rfl w_1 (by decide) rfl).trans ?_
  exact tq_ireturn i_X1_fromKept_77 r_X1_fromKept rfl
theorem fromKept_ok {h : am_H} {B P : Nat} {f1 f2 : Int → Int} {m v1 v2 x y : Int} (kB : K1 h B) (kP : K5 h P) (e4 : fZ h P 4 = m) (e5 : fZ h P 5 = v1) (e6 : fZ h P 6 = v2) (hm : 4 ≤ m ∧ m ≤ 6) (q1 : m ≠ 5 → isH h (B + 1) f1 ∧ pixels f1 ∧ okv v1) (q2 : m ≠ 4 → isH h (B + 3) f2 ∧ pixels f2 ∧ okv v2) (hx : 0 ≤ x ∧ x < 16) (hy : 0 ≤ y ∧ y < 16) : rn m_X1_fromKept 0 [.ref B, .ref P, .int (mI x), .int (mI y), am_J] [] h = some (.inl (some (.int (mI (gsK f1 f2 m v1 v2 x y)))), h) := by
  rw [b_X1_fromKept_0 kP kB, e4, e5, e6]
  unfold gsK
  have : m = 4 ∨ m = 5 ∨ m = 6 := by omega
  rcases this with rfl | rfl | rfl
  · obtain ⟨a1, a2, a3, a4, a5⟩ := q1 (by decide)
    rw [if_neg (by decide), guessed_ok (K1_k0 kB) a1 a3 a4 a5 hx hy, cl_v, b_X1_fromKept_20, if_pos rfl]
  · obtain ⟨a1, a2, a3, a4, a5⟩ := q2 (by decide)
    rw [if_pos (by decide), if_neg (by decide), guessed_ok (K1_k1 kB) a1 a3 a4 a5 hx hy, cl_v, b_X1_fromKept_41, if_neg (by decide), if_pos rfl]
  · obtain ⟨a1, a2, a3, a4, a5⟩ := q1 (by decide)
    obtain ⟨c1, c2, c3, c4, c5⟩ := q2 (by decide)
    have h1 := hv_b a2 (2 * x + vX v1) (2 * y + vY v1)
    have h2 := hv_b c2 (2 * x + vX v2) (2 * y + vY v2)
    rw [if_pos (by decide), if_pos (by decide), guessed_ok (K1_k0 kB) a1 a3 a4 a5 hx hy, cl_v, b_X1_fromKept_55 kB kP, e6, guessed_ok (K1_k1 kB) c1 c3 c4 c5 hx hy, cl_v, b_X1_fromKept_68, if_neg (by decide), if_neg (by decide), wr_id (by omega) (by omega)]
    rfl
theorem isH_md {S : Nat → Nat → Prop} {h h' : am_H} {a : Nat} {f : Int → Int} (md : Md S h h') (n : ¬ S (a + 1) 0) (q : isH h a f) : isH h' a f := fun X Y x0 x1 y0 y1 => by rw [md_gZ md n]; exact q X Y x0 x1 y0 y1
theorem isBo_md {S : Nat → Nat → Prop} {h h' : am_H} {B : Nat} {p : Int → Int} {X Y Z T : Int} (md : Md S h h') (n5 : ¬ S (B + 5) 0) (n6 : ¬ S (B + 6) 0) (b4 : ¬ S B 4) (b5 : ¬ S B 5) (q : isBo h B p X Y Z T) : isBo h' B p X Y Z T := ⟨fun i i0 i1 => by rw [md_gZ md n5]; exact q.1 i i0 i1, fun i i0 i1 => by rw [md_gZ md n6]; exact q.2.1 i i0 i1, (md_fZ md b4).trans q.2.2.1, (md_fZ md b5).trans q.2.2.2⟩
theorem modeOk_md {S : Nat → Nat → Prop} {h h' : am_H} {B : Nat} {p f1 f2 : Int → Int} {X Y Z T m v1 v2 : Int} (md : Md S h h') (n2 : ¬ S (B + 2) 0) (n4 : ¬ S (B + 4) 0) (n5 : ¬ S (B + 5) 0) (n6 : ¬ S (B + 6) 0) (b4 : ¬ S B 4) (b5 : ¬ S B 5) (q : modeOk h B p f1 f2 X Y Z T m v1 v2) : modeOk h' B p f1 f2 X Y Z T m v1 v2 := by
  rcases q with ⟨m0, m4, hp, bo⟩ | ⟨m4, m6, q1, q2⟩
  · exact Or.inl ⟨m0, m4, hp, isBo_md md n5 n6 b4 b5 bo⟩
  · exact Or.inr ⟨m4, m6, fun e => ⟨isH_md md n2 (q1 e).1, (q1 e).2⟩, fun e => ⟨isH_md md n4 (q2 e).1, (q2 e).2⟩⟩
theorem i_X1_guessPart_0 : am_i m_X1_guessPart 0 = some (0, .aload_n 1, 1, [], 0) := rfl
theorem i_X1_guessPart_1 : am_i m_X1_guessPart 1 = some (1, .getfield 49, 3, [5, 1, 1], 0) := rfl
theorem i_X1_guessPart_4 : am_i m_X1_guessPart 4 = some (4, .istore_n 2, 1, [], 0) := rfl
theorem b_X1_guessPart_0 {a0 a1 : Nat} {h : am_H} (k1 : K5 h a1) : rn m_X1_guessPart 0 [.ref a0, .ref a1, am_J, am_J, am_J] [] h = rn m_X1_guessPart 5 [.ref a0, .ref a1, .int (mI (fZ h a1 1)), am_J, am_J] [] h := by
  refine (tq_aload_n i_X1_guessPart_0 rfl (isA_ref _) rfl).trans ?_
  refine (tq_getfield i_X1_guessPart_1 (K5_s k1) (g_5_1 (K5_s k1)) (isV_I _) rfl).trans ?_
  refine (tq_istore_n (L' := [.ref a0, .ref a1, .int (mI (fZ h a1 1)), am_J, am_J]) i_X1_guessPart_4 rfl rfl).trans ?_
  rfl
theorem i_X1_guessPart_5 : am_i m_X1_guessPart 5 = some (5, .iload_n 2, 1, [], 0) := rfl
theorem i_X1_guessPart_6 : am_i m_X1_guessPart 6 = some (6, .aload_n 1, 1, [], 0) := rfl
theorem i_X1_guessPart_7 : am_i m_X1_guessPart 7 = some (7, .getfield 49, 3, [5, 1, 1], 0) := rfl
theorem i_X1_guessPart_10 : am_i m_X1_guessPart 10 = some (10, .aload_n 1, 1, [], 0) := rfl
theorem i_X1_guessPart_11 : am_i m_X1_guessPart 11 = some (11, .getfield 41, 3, [5, 2, 1], 0) := rfl
theorem i_X1_guessPart_14 : am_i m_X1_guessPart 14 = some (14, .iadd, 1, [], 0) := rfl
theorem i_X1_guessPart_15 : am_i m_X1_guessPart 15 = some (15, .if_icmp .ge 86, 3, [], 0) := rfl
theorem i_X1_guessPart_18 : am_i m_X1_guessPart 18 = some (18, .aload_n 1, 1, [], 0) := rfl
theorem i_X1_guessPart_19 : am_i m_X1_guessPart 19 = some (19, .getfield 46, 3, [5, 0, 1], 0) := rfl
theorem i_X1_guessPart_22 : am_i m_X1_guessPart 22 = some (22, .istore_n 3, 1, [], 0) := rfl
theorem i_X1_guessPart_101 : am_i m_X1_guessPart 101 = some (101, .return_, 1, [], 0) := rfl
theorem b_X1_guessPart_5 {a0 a1 : Nat} {x2 x2' : Int} {v3 v4 : Value} {h : am_H} (w2 : wr x2 = x2') (k1 : K5 h a1) : rn m_X1_guessPart 5 [.ref a0, .ref a1, .int (mI x2), v3, v4] [] h = if (wr ((fZ h a1 1) + (fZ h a1 2))) ≤ x2' then some (.inl none, h) else rn m_X1_guessPart 23 [.ref a0, .ref a1, .int (mI x2), .int (mI (fZ h a1 0)), v4] [] h := by
  refine (tq_iload_n i_X1_guessPart_5 rfl rfl).trans ?_
  refine (tq_aload_n i_X1_guessPart_6 rfl (isA_ref _) rfl).trans ?_
  refine (tq_getfield i_X1_guessPart_7 (K5_s k1) (g_5_1 (K5_s k1)) (isV_I _) rfl).trans ?_
  refine (tq_aload_n i_X1_guessPart_10 rfl (isA_ref _) rfl).trans ?_
  refine (tq_getfield i_X1_guessPart_11 (K5_s k1) (g_5_2 (K5_s k1)) (isV_I _) rfl).trans ?_
  refine (tq_iadd i_X1_guessPart_14 rfl).trans ?_
  refine (tq_icmp_ge (pt := 101) i_X1_guessPart_15 w2 rfl (by decide) rfl).trans ?_
  refine ite_congr rfl (fun c1 => ?_) (fun c1 => ?_)
  · exact tq_return i_X1_guessPart_101 r_X1_guessPart
  · refine (tq_aload_n i_X1_guessPart_18 rfl (isA_ref _) rfl).trans ?_
    refine (tq_getfield i_X1_guessPart_19 (K5_s k1) (g_5_0 (K5_s k1)) (isV_I _) rfl).trans ?_
    refine (tq_istore_n (L' := [.ref a0, .ref a1, .int (mI x2), .int (mI (fZ h a1 0)), v4]) i_X1_guessPart_22 rfl rfl).trans ?_
    rfl
theorem i_X1_guessPart_23 : am_i m_X1_guessPart 23 = some (23, .iload_n 3, 1, [], 0) := rfl
theorem i_X1_guessPart_24 : am_i m_X1_guessPart 24 = some (24, .aload_n 1, 1, [], 0) := rfl
theorem i_X1_guessPart_25 : am_i m_X1_guessPart 25 = some (25, .getfield 46, 3, [5, 0, 1], 0) := rfl
theorem i_X1_guessPart_28 : am_i m_X1_guessPart 28 = some (28, .aload_n 1, 1, [], 0) := rfl
theorem i_X1_guessPart_29 : am_i m_X1_guessPart 29 = some (29, .getfield 41, 3, [5, 2, 1], 0) := rfl
theorem i_X1_guessPart_32 : am_i m_X1_guessPart 32 = some (32, .iadd, 1, [], 0) := rfl
theorem i_X1_guessPart_33 : am_i m_X1_guessPart 33 = some (33, .if_icmp .ge 62, 3, [], 0) := rfl
theorem i_X1_guessPart_36 : am_i m_X1_guessPart 36 = some (36, .aload_n 1, 1, [], 0) := rfl
theorem i_X1_guessPart_37 : am_i m_X1_guessPart 37 = some (37, .invokevirtual 73, 3, [20, 5], 0) := rfl
theorem i_X1_guessPart_40 : am_i m_X1_guessPart 40 = some (40, .ifCond .eq 26, 3, [], 0) := rfl
theorem i_X1_guessPart_43 : am_i m_X1_guessPart 43 = some (43, .aload_n 0, 1, [], 0) := rfl
theorem i_X1_guessPart_44 : am_i m_X1_guessPart 44 = some (44, .aload_n 1, 1, [], 0) := rfl
theorem i_X1_guessPart_45 : am_i m_X1_guessPart 45 = some (45, .getfield 77, 3, [5, 4, 1], 0) := rfl
theorem i_X1_guessPart_48 : am_i m_X1_guessPart 48 = some (48, .iload_n 3, 1, [], 0) := rfl
theorem i_X1_guessPart_49 : am_i m_X1_guessPart 49 = some (49, .aload_n 1, 1, [], 0) := rfl
theorem i_X1_guessPart_50 : am_i m_X1_guessPart 50 = some (50, .getfield 46, 3, [5, 0, 1], 0) := rfl
theorem i_X1_guessPart_53 : am_i m_X1_guessPart 53 = some (53, .isub, 1, [], 0) := rfl
theorem i_X1_guessPart_54 : am_i m_X1_guessPart 54 = some (54, .iload_n 2, 1, [], 0) := rfl
theorem i_X1_guessPart_55 : am_i m_X1_guessPart 55 = some (55, .aload_n 1, 1, [], 0) := rfl
theorem i_X1_guessPart_56 : am_i m_X1_guessPart 56 = some (56, .getfield 49, 3, [5, 1, 1], 0) := rfl
theorem i_X1_guessPart_59 : am_i m_X1_guessPart 59 = some (59, .isub, 1, [], 0) := rfl
theorem i_X1_guessPart_60 : am_i m_X1_guessPart 60 = some (60, .invokevirtual 80, 3, [50, 1], 0) := rfl
theorem i_X1_guessPart_66 : am_i m_X1_guessPart 66 = some (66, .aload_n 0, 1, [], 0) := rfl
theorem i_X1_guessPart_67 : am_i m_X1_guessPart 67 = some (67, .aload_n 1, 1, [], 0) := rfl
theorem i_X1_guessPart_68 : am_i m_X1_guessPart 68 = some (68, .iload_n 3, 1, [], 0) := rfl
theorem i_X1_guessPart_69 : am_i m_X1_guessPart 69 = some (69, .iload_n 2, 1, [], 0) := rfl
theorem i_X1_guessPart_70 : am_i m_X1_guessPart 70 = some (70, .invokevirtual 84, 3, [75, 1], 0) := rfl
theorem i_X1_guessPart_95 : am_i m_X1_guessPart 95 = some (95, .iinc 2 1, 3, [], 0) := rfl
theorem i_X1_guessPart_98 : am_i m_X1_guessPart 98 = some (98, .goto (-93), 3, [], 0) := rfl
theorem b_X1_guessPart_23 {a0 a1 : Nat} {x2 x3 x3' : Int} {v4 : Value} {h : am_H} (w3 : wr x3 = x3') (k1 : K5 h a1) (k2 : K1 h a0) : rn m_X1_guessPart 23 [.ref a0, .ref a1, .int (mI x2), .int (mI x3), v4] [] h = if (wr ((fZ h a1 0) + (fZ h a1 2))) ≤ x3' then rn m_X1_guessPart 5 [.ref a0, .ref a1, .int (mI (x2 + 1)), .int (mI x3), v4] [] h else if (¬ (4 ≤ (fZ h a1 4))) then cl m_X1_guessPart 63 [.ref a0, .ref a1, .int (mI x2), .int (mI x3), v4] [] (rn m_X1_fromBorder 0 [.ref a0, .int (mI (fZ h a1 4)), .int (mI (x3 - (fZ h a1 0))), .int (mI (x2 - (fZ h a1 1)))] [] h) else cl m_X1_guessPart 73 [.ref a0, .ref a1, .int (mI x2), .int (mI x3), v4] [] (rn m_X1_fromKept 0 [.ref a0, .ref a1, .int (mI x3), .int (mI x2), am_J] [] h) := by
  refine (tq_iload_n i_X1_guessPart_23 rfl rfl).trans ?_
  refine (tq_aload_n i_X1_guessPart_24 rfl (isA_ref _) rfl).trans ?_
  refine (tq_getfield i_X1_guessPart_25 (K5_s k1) (g_5_0 (K5_s k1)) (isV_I _) rfl).trans ?_
  refine (tq_aload_n i_X1_guessPart_28 rfl (isA_ref _) rfl).trans ?_
  refine (tq_getfield i_X1_guessPart_29 (K5_s k1) (g_5_2 (K5_s k1)) (isV_I _) rfl).trans ?_
  refine (tq_iadd i_X1_guessPart_32 rfl).trans ?_
  refine (tq_icmp_ge (pt := 95) i_X1_guessPart_33 w3 rfl (by decide) rfl).trans ?_
  refine ite_congr rfl (fun c1 => ?_) (fun c1 => ?_)
  · refine (tq_iinc (L' := [.ref a0, .ref a1, .int (mI (x2 + 1)), .int (mI x3), v4]) i_X1_guessPart_95 rfl rfl rfl).trans ?_
    refine (tq_goto (pc' := 5) i_X1_guessPart_98 (by decide)).trans ?_
    rfl
  · refine (tq_aload_n i_X1_guessPart_36 rfl (isA_ref _) rfl).trans ?_
    refine (c_X5_isOfBorder i_X1_guessPart_37 (K5_s k1) (ltd d_X1_guessPart (by decide)) stOk_0 rfl).trans ?_
    refine (congrArg (cl _ _ _ _) (b_X5_isOfBorder_0 k1)).trans ?_
    refine (cl_v _ _ _ _ _ _).trans ?_
    refine (tq_ifb_eq (pt := 66) i_X1_guessPart_40 (by decide) rfl).trans ?_
    refine ite_congr rfl (fun c2 => ?_) (fun c2 => ?_)
    · refine (tq_aload_n i_X1_guessPart_43 rfl (isA_ref _) rfl).trans ?_
      refine (tq_aload_n i_X1_guessPart_44 rfl (isA_ref _) rfl).trans ?_
      refine (tq_getfield i_X1_guessPart_45 (K5_s k1) (g_5_4 (K5_s k1)) (isV_I _) rfl).trans ?_
      refine (tq_iload_n i_X1_guessPart_48 rfl rfl).trans ?_
      refine (tq_aload_n i_X1_guessPart_49 rfl (isA_ref _) rfl).trans ?_
      refine (tq_getfield i_X1_guessPart_50 (K5_s k1) (g_5_0 (K5_s k1)) (isV_I _) rfl).trans ?_
      refine (tq_isub i_X1_guessPart_53 rfl).trans ?_
      refine (tq_iload_n i_X1_guessPart_54 rfl rfl).trans ?_
      refine (tq_aload_n i_X1_guessPart_55 rfl (isA_ref _) rfl).trans ?_
      refine (tq_getfield i_X1_guessPart_56 (K5_s k1) (g_5_1 (K5_s k1)) (isV_I _) rfl).trans ?_
      refine (tq_isub i_X1_guessPart_59 rfl).trans ?_
      exact c_X1_fromBorder i_X1_guessPart_60 (K1_s k2) (ltd d_X1_guessPart (by decide)) stOk_0 rfl
    · refine (tq_aload_n i_X1_guessPart_66 rfl (isA_ref _) rfl).trans ?_
      refine (tq_aload_n i_X1_guessPart_67 rfl (isA_ref _) rfl).trans ?_
      refine (tq_iload_n i_X1_guessPart_68 rfl rfl).trans ?_
      refine (tq_iload_n i_X1_guessPart_69 rfl rfl).trans ?_
      exact c_X1_fromKept i_X1_guessPart_70 (K1_s k2) (ltd d_X1_guessPart (by decide)) (isA_ref _) stOk_0 rfl
theorem i_X1_guessPart_63 : am_i m_X1_guessPart 63 = some (63, .goto 10, 3, [], 0) := rfl
theorem b_X1_guessPart_63 {a0 a1 : Nat} {x2 x3 xs0 : Int} {v4 : Value} {h : am_H} : rn m_X1_guessPart 63 [.ref a0, .ref a1, .int (mI x2), .int (mI x3), v4] [.int (mI xs0)] h = rn m_X1_guessPart 73 [.ref a0, .ref a1, .int (mI x2), .int (mI x3), v4] [.int (mI xs0)] h := by
  refine (tq_goto (pc' := 73) i_X1_guessPart_63 (by decide)).trans ?_
  rfl
theorem i_X1_guessPart_73 : am_i m_X1_guessPart 73 = some (73, .istore 4, 2, [], 0) := rfl
theorem i_X1_guessPart_75 : am_i m_X1_guessPart 75 = some (75, .aload_n 0, 1, [], 0) := rfl
theorem i_X1_guessPart_76 : am_i m_X1_guessPart 76 = some (76, .getfield 35, 3, [1, 6, 0], 0) := rfl
theorem i_X1_guessPart_79 : am_i m_X1_guessPart 79 = some (79, .iload_n 3, 1, [], 0) := rfl
theorem i_X1_guessPart_80 : am_i m_X1_guessPart 80 = some (80, .iload_n 2, 1, [], 0) := rfl
theorem i_X1_guessPart_81 : am_i m_X1_guessPart 81 = some (81, .invokestatic 65, 3, [13], 0) := rfl
theorem i_X1_guessPart_84 : am_i m_X1_guessPart 84 = some (84, .iload 4, 2, [], 0) := rfl
theorem i_X1_guessPart_86 : am_i m_X1_guessPart 86 = some (86, .invokestatic 59, 3, [33], 0) := rfl
theorem i_X1_guessPart_89 : am_i m_X1_guessPart 89 = some (89, .iinc 3 1, 3, [], 0) := rfl
theorem i_X1_guessPart_92 : am_i m_X1_guessPart 92 = some (92, .goto (-69), 3, [], 0) := rfl
theorem b_X1_guessPart_73 {a0 a1 : Nat} {x2 x3 xs0 : Int} {v4 : Value} {h : am_H} (k1 : K1 h a0) (g2 : 0 ≤ (wr ((16 * x2) + x3)) ∧ (wr ((16 * x2) + x3)) < (256 : Int)) : rn m_X1_guessPart 73 [.ref a0, .ref a1, .int (mI x2), .int (mI x3), v4] [.int (mI xs0)] h = rn m_X1_guessPart 23 [.ref a0, .ref a1, .int (mI x2), .int (mI (x3 + 1)), .int (mI xs0)] [] (uZ h (a0 + 7) (wr ((16 * x2) + x3)) xs0) := by
  refine (tq_istore (L' := [.ref a0, .ref a1, .int (mI x2), .int (mI x3), .int (mI xs0)]) i_X1_guessPart_73 rfl rfl).trans ?_
  refine (tq_aload_n i_X1_guessPart_75 rfl (isA_ref _) rfl).trans ?_
  refine (tq_getfield i_X1_guessPart_76 (K1_s k1) (gR (g_1_6 (K1_s k1)) (K1_e6 k1)) (isV_ref _) rfl).trans ?_
  refine (tq_iload_n i_X1_guessPart_79 rfl rfl).trans ?_
  refine (tq_iload_n i_X1_guessPart_80 rfl rfl).trans ?_
  refine (c_X11_placeOf i_X1_guessPart_81 (ltd d_X1_guessPart (by decide)) (stOk_1 _) rfl).trans ?_
  refine (congrArg (cl _ _ _ _) (b_X11_placeOf_0)).trans ?_
  refine (cl_v _ _ _ _ _ _).trans ?_
  refine (tq_iload i_X1_guessPart_84 rfl rfl).trans ?_
  refine (c_X7_put i_X1_guessPart_86 (ltd d_X1_guessPart (by decide)) (isA_ref _) stOk_0 rfl).trans ?_
  refine (congrArg (cl _ _ _ _) (put_ok rfl (K1_n6 k1) (K1_s6 k1) g2)).trans ?_
  refine (cl_n _ _ _ _ _).trans ?_
  refine (tq_iinc (L' := [.ref a0, .ref a1, .int (mI x2), .int (mI (x3 + 1)), .int (mI xs0)]) i_X1_guessPart_89 rfl rfl rfl).trans ?_
  refine (tq_goto (pc' := 23) i_X1_guessPart_92 (by decide)).trans ?_
  rfl
theorem guessPart_ok {h : am_H} {B P : Nat} {p f1 f2 : Int → Int} {X Y Z T m v1 v2 : Int} (kB : K1 h B) (kP : K5 h P) (pa : partAt h P X Y Z T) (ip : isPart X Y Z T) (e4 : fZ h P 4 = m) (e5 : fZ h P 5 = v1) (e6 : fZ h P 6 = v2) (mo : modeOk h B p f1 f2 X Y Z T m v1 v2) : ∃ h', rn m_X1_guessPart 0 [.ref B, .ref P, am_J, am_J, am_J] [] h = some (.inl none, h') ∧ Md (fun c _ => c = B + 7) h h' ∧ ∀ x y, X ≤ x → x < X + Z → Y ≤ y → y < Y + Z → gZ h' (B + 7) (16 * y + x) = gss p f1 f2 X Y Z T m v1 v2 x y := by
  have pP : P ≠ B + 7 := ne_sh kP (K1_s6 kB) (by decide)
  have hg := fun x y => gss_b (x := x) (y := y) ip mo
  obtain ⟨hz, hX, hY, hT⟩ := ip
  have pm : ∀ {h' : am_H}, Md (fun c _ => c = B + 7) h h' → partAt h' P X Y Z T ∧ fZ h' P 4 = m ∧ fZ h' P 5 = v1 ∧ fZ h' P 6 = v2 ∧ K1 h' B ∧ K5 h' P := fun md => ⟨partAt_md md (by intro k _; exact pP) pa, (md_fZ md pP).trans e4, (md_fZ md pP).trans e5, (md_fZ md pP).trans e6, K1_sm md.1 kB, K5_sm md.1 kP⟩
  rw [b_X1_guessPart_0 kP, pa.2.1]
  have := lp (m := m_X1_guessPart) (pc := 5) (L := fun i (x : Value × Value) => [.ref B, .ref P, .int (mI (Y + i)), x.1, x.2]) (N := Z) (P := fun r => ∃ h', r = some (.inl none, h') ∧ Md (fun c _ => c = B + 7) h h' ∧ ∀ x y, X ≤ x → x < X + Z → Y ≤ y → y < Y + Z → gZ h' (B + 7) (16 * y + x) = gss p f1 f2 X Y Z T m v1 v2 x y) (fun i _ h' => 0 ≤ i ∧ Md (fun c _ => c = B + 7) h h' ∧ ∀ x y, X ≤ x → x < X + Z → Y ≤ y → y < Y + i → gZ h' (B + 7) (16 * y + x) = gss p f1 f2 X Y Z T m v1 v2 x y) ?_ ?_ 0 (am_J, am_J) h (by omega) ⟨by omega, Md_rf _ _, fun x y _ _ _ _ => by omega⟩
  · rw [Int.add_zero] at this
    exact this
  · intro i v h' hi ⟨i0, md, hh⟩
    obtain ⟨w1, w2⟩ := v
    obtain ⟨⟨p0, p1, p2, p3⟩, q4, q5, q6, kB', kP'⟩ := pm md
    have st := b_X1_guessPart_5 (a0 := B) (a1 := P) (v3 := w1) (v4 := w2) (h := h') (wr_id (z := Y + i) (by omega) (by omega)) kP'
    rw [p0, p1, p2, wr_id (by omega) (by omega), if_neg (by omega)] at st
    have in1 := lp (m := m_X1_guessPart) (pc := 23) (L := fun j (x : Value) => [.ref B, .ref P, .int (mI (Y + i)), .int (mI (X + j)), x]) (N := Z) (P := fun r => ∃ (s' : Value × Value) (h'' : am_H), r = rn m_X1_guessPart 5 [.ref B, .ref P, .int (mI (Y + (i + 1))), s'.1, s'.2] [] h'' ∧ (0 ≤ i + 1 ∧ Md (fun c _ => c = B + 7) h h'' ∧ ∀ x y, X ≤ x → x < X + Z → Y ≤ y → y < Y + (i + 1) → gZ h'' (B + 7) (16 * y + x) = gss p f1 f2 X Y Z T m v1 v2 x y)) (fun j _ h2 => 0 ≤ j ∧ Md (fun c _ => c = B + 7) h h2 ∧ ∀ x y, X ≤ x → x < X + Z → Y ≤ y → (y < Y + i ∨ y = Y + i ∧ x < X + j) → gZ h2 (B + 7) (16 * y + x) = gss p f1 f2 X Y Z T m v1 v2 x y) ?_ ?_ 0 w2 h' (by omega) ⟨by omega, md, fun x y x0 x1 y0 y1 => hh x y x0 x1 y0 (by omega)⟩
    · obtain ⟨s', h'', e2, e3⟩ := in1
      rw [Int.add_zero] at e2
      exact ⟨s', h'', st.trans e2, e3⟩
    · intro j u h2 hj ⟨j0, md2, hh2⟩
      obtain ⟨⟨p0, p1, p2, p3⟩, q4, q5, q6, kB2, kP2⟩ := pm md2
      have hgg := hg (X + j) (Y + i) ⟨by omega, by omega⟩ ⟨by omega, by omega⟩
      have wi : wr (16 * (Y + i) + (X + j)) = 16 * (Y + i) + (X + j) := wr_id (by omega) (by omega)
      have fin := b_X1_guessPart_73 (a0 := B) (a1 := P) (x2 := Y + i) (x3 := X + j) (xs0 := gss p f1 f2 X Y Z T m v1 v2 (X + j) (Y + i)) (v4 := u) (h := h2) kB2 (by rw [wi]; omega)
      rw [wi, show X + j + 1 = X + (j + 1) by omega] at fin
      have st2 := b_X1_guessPart_23 (a0 := B) (a1 := P) (x2 := Y + i) (v4 := u) (h := h2) (wr_id (z := X + j) (by omega) (by omega)) kP2 kB2
      rw [p0, p1, p2, q4, wr_id (by omega) (by omega), if_neg (by omega)] at st2
      have mo2 := modeOk_md md2 (by omega) (by omega) (by omega) (by omega) (by omega) (by omega) mo
      have st3 : rn m_X1_guessPart 23 [.ref B, .ref P, .int (mI (Y + i)), .int (mI (X + j)), u] [] h2 = rn m_X1_guessPart 73 [.ref B, .ref P, .int (mI (Y + i)), .int (mI (X + j)), u] [.int (mI (gss p f1 f2 X Y Z T m v1 v2 (X + j) (Y + i)))] h2 := by
        rw [st2]
        unfold gss
        rcases mo2 with ⟨m0, m4, hp, bo⟩ | ⟨m4, m6, q1, q2⟩
        · rw [if_pos (by omega), if_pos m4, show X + j - X = j by omega, show Y + i - Y = i by omega, fromBorder_ok kB2 hp ⟨hz, hX, hY, hT⟩ bo ⟨m0, m4⟩ ⟨j0, hj⟩ ⟨i0, hi⟩, cl_v, b_X1_guessPart_63]
        · rw [if_neg (by omega), if_neg (by omega), fromKept_ok kB2 kP2 q4 q5 q6 ⟨m4, m6⟩ q1 q2 ⟨by omega, by omega⟩ ⟨by omega, by omega⟩, cl_v]
      refine ⟨_, _, st3.trans fin, by omega, Md_tr md2 (Md_uZ _ _ _ _), fun x y x0 x1 y0 y1 => ?_⟩
      have s7 := sh1 (K1_s6 kB2)
      by_cases q : 16 * y + x = 16 * (Y + i) + (X + j)
      · rw [gZ_uZ_eq _ s7 q, wr_255 hgg]
        have e1 : x = X + j := by omega
        have e2 : y = Y + i := by omega
        rw [e1, e2]
      · rw [gZ_uZ_nj _ s7 q]
        exact hh2 x y x0 x1 y0 (by omega)
    · intro u h2 ⟨j0, md2, hh2⟩
      obtain ⟨⟨p0, p1, p2, p3⟩, q4, q5, q6, kB2, kP2⟩ := pm md2
      have st2 := b_X1_guessPart_23 (a0 := B) (a1 := P) (x2 := Y + i) (v4 := u) (h := h2) (wr_id (z := X + Z) (by omega) (by omega)) kP2 kB2
      rw [p0, p1, p2, wr_id (by omega) (by omega), if_pos (by omega), show Y + i + 1 = Y + (i + 1) by omega] at st2
      exact ⟨(_, _), h2, st2, by omega, md2, fun x y x0 x1 y0 y1 => hh2 x y x0 x1 y0 (by omega)⟩
  · intro v h' ⟨i0, md, hh⟩
    obtain ⟨w1, w2⟩ := v
    obtain ⟨⟨p0, p1, p2, p3⟩, q4, q5, q6, kB', kP'⟩ := pm md
    have st := b_X1_guessPart_5 (a0 := B) (a1 := P) (v3 := w1) (v4 := w2) (h := h') (wr_id (z := Y + Z) (by omega) (by omega)) kP'
    rw [p0, p1, p2, wr_id (by omega) (by omega), if_pos (by omega)] at st
    exact ⟨h', st, md, hh⟩
theorem i_X1_guessError_0 : am_i m_X1_guessError 0 = some (0, .iconst 0, 1, [], 0) := rfl
theorem i_X1_guessError_1 : am_i m_X1_guessError 1 = some (1, .istore_n 3, 1, [], 0) := rfl
theorem i_X1_guessError_2 : am_i m_X1_guessError 2 = some (2, .aload_n 2, 1, [], 0) := rfl
theorem i_X1_guessError_3 : am_i m_X1_guessError 3 = some (3, .getfield 49, 3, [5, 1, 1], 0) := rfl
theorem i_X1_guessError_6 : am_i m_X1_guessError 6 = some (6, .istore 4, 2, [], 0) := rfl
theorem b_X1_guessError_0 {a0 a1 a2 : Nat} {h : am_H} (k1 : K5 h a2) : rn m_X1_guessError 0 [.ref a0, .ref a1, .ref a2, am_J, am_J, am_J, am_J] [] h = rn m_X1_guessError 8 [.ref a0, .ref a1, .ref a2, .int (mI 0), .int (mI (fZ h a2 1)), am_J, am_J] [] h := by
  refine (tq_iconst i_X1_guessError_0 rfl).trans ?_
  refine (tq_istore_n (L' := [.ref a0, .ref a1, .ref a2, .int (mI 0), am_J, am_J, am_J]) i_X1_guessError_1 rfl rfl).trans ?_
  refine (tq_aload_n i_X1_guessError_2 rfl (isA_ref _) rfl).trans ?_
  refine (tq_getfield i_X1_guessError_3 (K5_s k1) (g_5_1 (K5_s k1)) (isV_I _) rfl).trans ?_
  refine (tq_istore (L' := [.ref a0, .ref a1, .ref a2, .int (mI 0), .int (mI (fZ h a2 1)), am_J, am_J]) i_X1_guessError_6 rfl rfl).trans ?_
  rfl
theorem i_X1_guessError_8 : am_i m_X1_guessError 8 = some (8, .iload 4, 2, [], 0) := rfl
theorem i_X1_guessError_10 : am_i m_X1_guessError 10 = some (10, .aload_n 2, 1, [], 0) := rfl
theorem i_X1_guessError_11 : am_i m_X1_guessError 11 = some (11, .getfield 49, 3, [5, 1, 1], 0) := rfl
theorem i_X1_guessError_14 : am_i m_X1_guessError 14 = some (14, .aload_n 2, 1, [], 0) := rfl
theorem i_X1_guessError_15 : am_i m_X1_guessError 15 = some (15, .getfield 41, 3, [5, 2, 1], 0) := rfl
theorem i_X1_guessError_18 : am_i m_X1_guessError 18 = some (18, .iadd, 1, [], 0) := rfl
theorem i_X1_guessError_19 : am_i m_X1_guessError 19 = some (19, .if_icmp .ge 66, 3, [], 0) := rfl
theorem i_X1_guessError_22 : am_i m_X1_guessError 22 = some (22, .aload_n 2, 1, [], 0) := rfl
theorem i_X1_guessError_23 : am_i m_X1_guessError 23 = some (23, .getfield 46, 3, [5, 0, 1], 0) := rfl
theorem i_X1_guessError_26 : am_i m_X1_guessError 26 = some (26, .istore 5, 2, [], 0) := rfl
theorem i_X1_guessError_85 : am_i m_X1_guessError 85 = some (85, .iload_n 3, 1, [], 0) := rfl
theorem i_X1_guessError_86 : am_i m_X1_guessError 86 = some (86, .ireturn, 1, [], 0) := rfl
theorem b_X1_guessError_8 {a0 a1 a2 : Nat} {x3 x4 x4' : Int} {v5 v6 : Value} {h : am_H} (w4 : wr x4 = x4') (k1 : K5 h a2) : rn m_X1_guessError 8 [.ref a0, .ref a1, .ref a2, .int (mI x3), .int (mI x4), v5, v6] [] h = if (wr ((fZ h a2 1) + (fZ h a2 2))) ≤ x4' then some (.inl (some (.int (mI x3))), h) else rn m_X1_guessError 28 [.ref a0, .ref a1, .ref a2, .int (mI x3), .int (mI x4), .int (mI (fZ h a2 0)), v6] [] h := by
  refine (tq_iload i_X1_guessError_8 rfl rfl).trans ?_
  refine (tq_aload_n i_X1_guessError_10 rfl (isA_ref _) rfl).trans ?_
  refine (tq_getfield i_X1_guessError_11 (K5_s k1) (g_5_1 (K5_s k1)) (isV_I _) rfl).trans ?_
  refine (tq_aload_n i_X1_guessError_14 rfl (isA_ref _) rfl).trans ?_
  refine (tq_getfield i_X1_guessError_15 (K5_s k1) (g_5_2 (K5_s k1)) (isV_I _) rfl).trans ?_
  refine (tq_iadd i_X1_guessError_18 rfl).trans ?_
  refine (tq_icmp_ge (pt := 85) i_X1_guessError_19 w4 rfl (by decide) rfl).trans ?_
  refine ite_congr rfl (fun c1 => ?_) (fun c1 => ?_)
  · refine (tq_iload_n i_X1_guessError_85 rfl rfl).trans ?_
    exact tq_ireturn i_X1_guessError_86 r_X1_guessError rfl
  · refine (tq_aload_n i_X1_guessError_22 rfl (isA_ref _) rfl).trans ?_
    refine (tq_getfield i_X1_guessError_23 (K5_s k1) (g_5_0 (K5_s k1)) (isV_I _) rfl).trans ?_
    refine (tq_istore (L' := [.ref a0, .ref a1, .ref a2, .int (mI x3), .int (mI x4), .int (mI (fZ h a2 0)), v6]) i_X1_guessError_26 rfl rfl).trans ?_
    rfl
theorem i_X1_guessError_28 : am_i m_X1_guessError 28 = some (28, .iload 5, 2, [], 0) := rfl
theorem i_X1_guessError_30 : am_i m_X1_guessError 30 = some (30, .aload_n 2, 1, [], 0) := rfl
theorem i_X1_guessError_31 : am_i m_X1_guessError 31 = some (31, .getfield 46, 3, [5, 0, 1], 0) := rfl
theorem i_X1_guessError_34 : am_i m_X1_guessError 34 = some (34, .aload_n 2, 1, [], 0) := rfl
theorem i_X1_guessError_35 : am_i m_X1_guessError 35 = some (35, .getfield 41, 3, [5, 2, 1], 0) := rfl
theorem i_X1_guessError_38 : am_i m_X1_guessError 38 = some (38, .iadd, 1, [], 0) := rfl
theorem i_X1_guessError_39 : am_i m_X1_guessError 39 = some (39, .if_icmp .ge 40, 3, [], 0) := rfl
theorem i_X1_guessError_42 : am_i m_X1_guessError 42 = some (42, .iload 5, 2, [], 0) := rfl
theorem i_X1_guessError_44 : am_i m_X1_guessError 44 = some (44, .iload 4, 2, [], 0) := rfl
theorem i_X1_guessError_46 : am_i m_X1_guessError 46 = some (46, .invokestatic 65, 3, [13], 0) := rfl
theorem i_X1_guessError_49 : am_i m_X1_guessError 49 = some (49, .istore 6, 2, [], 0) := rfl
theorem i_X1_guessError_51 : am_i m_X1_guessError 51 = some (51, .iload_n 3, 1, [], 0) := rfl
theorem i_X1_guessError_52 : am_i m_X1_guessError 52 = some (52, .aload_n 1, 1, [], 0) := rfl
theorem i_X1_guessError_53 : am_i m_X1_guessError 53 = some (53, .iload 6, 2, [], 0) := rfl
theorem i_X1_guessError_55 : am_i m_X1_guessError 55 = some (55, .invokestatic 69, 3, [32], 0) := rfl
theorem i_X1_guessError_58 : am_i m_X1_guessError 58 = some (58, .aload_n 0, 1, [], 0) := rfl
theorem i_X1_guessError_59 : am_i m_X1_guessError 59 = some (59, .getfield 35, 3, [1, 6, 0], 0) := rfl
theorem i_X1_guessError_62 : am_i m_X1_guessError 62 = some (62, .iload 6, 2, [], 0) := rfl
theorem i_X1_guessError_64 : am_i m_X1_guessError 64 = some (64, .invokestatic 69, 3, [32], 0) := rfl
theorem i_X1_guessError_67 : am_i m_X1_guessError 67 = some (67, .isub, 1, [], 0) := rfl
theorem i_X1_guessError_68 : am_i m_X1_guessError 68 = some (68, .invokestatic 107, 3, [0, 0], 0) := rfl
theorem i_X1_guessError_71 : am_i m_X1_guessError 71 = some (71, .iadd, 1, [], 0) := rfl
theorem i_X1_guessError_72 : am_i m_X1_guessError 72 = some (72, .istore_n 3, 1, [], 0) := rfl
theorem i_X1_guessError_73 : am_i m_X1_guessError 73 = some (73, .iinc 5 1, 3, [], 0) := rfl
theorem i_X1_guessError_76 : am_i m_X1_guessError 76 = some (76, .goto (-48), 3, [], 0) := rfl
theorem i_X1_guessError_79 : am_i m_X1_guessError 79 = some (79, .iinc 4 1, 3, [], 0) := rfl
theorem i_X1_guessError_82 : am_i m_X1_guessError 82 = some (82, .goto (-74), 3, [], 0) := rfl
theorem b_X1_guessError_28 {a0 a1 a2 n_a1 : Nat} {x3 x4 x5 x5' : Int} {v6 : Value} {h : am_H} (w5 : wr x5 = x5') (k1 : K5 h a2) (n2 : gn h a1 = n_a1) (s3 : sh h a1 = (1, 0)) (g4 : (¬ ((wr ((fZ h a2 0) + (fZ h a2 2))) ≤ x5')) → (0 ≤ (wr ((16 * x4) + x5)) ∧ (wr ((16 * x4) + x5)) < (n_a1 : Int))) (k5 : K1 h a0) (g6 : (¬ ((wr ((fZ h a2 0) + (fZ h a2 2))) ≤ x5')) → (0 ≤ (wr ((16 * x4) + x5)) ∧ (wr ((16 * x4) + x5)) < (256 : Int))) : rn m_X1_guessError 28 [.ref a0, .ref a1, .ref a2, .int (mI x3), .int (mI x4), .int (mI x5), v6] [] h = if (wr ((fZ h a2 0) + (fZ h a2 2))) ≤ x5' then rn m_X1_guessError 8 [.ref a0, .ref a1, .ref a2, .int (mI x3), .int (mI (x4 + 1)), .int (mI x5), v6] [] h else rn m_X1_guessError 28 [.ref a0, .ref a1, .ref a2, .int (mI (x3 + (max (wr ((gZ h a1 (wr ((16 * x4) + x5))) - (gZ h (a0 + 7) (wr ((16 * x4) + x5))))) (-(wr ((gZ h a1 (wr ((16 * x4) + x5))) - (gZ h (a0 + 7) (wr ((16 * x4) + x5))))))))), .int (mI x4), .int (mI (x5 + 1)), .int (mI ((16 * x4) + x5))] [] h := by
  refine (tq_iload i_X1_guessError_28 rfl rfl).trans ?_
  refine (tq_aload_n i_X1_guessError_30 rfl (isA_ref _) rfl).trans ?_
  refine (tq_getfield i_X1_guessError_31 (K5_s k1) (g_5_0 (K5_s k1)) (isV_I _) rfl).trans ?_
  refine (tq_aload_n i_X1_guessError_34 rfl (isA_ref _) rfl).trans ?_
  refine (tq_getfield i_X1_guessError_35 (K5_s k1) (g_5_2 (K5_s k1)) (isV_I _) rfl).trans ?_
  refine (tq_iadd i_X1_guessError_38 rfl).trans ?_
  refine (tq_icmp_ge (pt := 79) i_X1_guessError_39 w5 rfl (by decide) rfl).trans ?_
  refine ite_congr rfl (fun c1 => ?_) (fun c1 => ?_)
  · refine (tq_iinc (L' := [.ref a0, .ref a1, .ref a2, .int (mI x3), .int (mI (x4 + 1)), .int (mI x5), v6]) i_X1_guessError_79 rfl rfl rfl).trans ?_
    refine (tq_goto (pc' := 8) i_X1_guessError_82 (by decide)).trans ?_
    rfl
  · refine (tq_iload i_X1_guessError_42 rfl rfl).trans ?_
    refine (tq_iload i_X1_guessError_44 rfl rfl).trans ?_
    refine (c_X11_placeOf i_X1_guessError_46 (ltd d_X1_guessError (by decide)) stOk_0 rfl).trans ?_
    refine (congrArg (cl _ _ _ _) (b_X11_placeOf_0)).trans ?_
    refine (cl_v _ _ _ _ _ _).trans ?_
    refine (tq_istore (L' := [.ref a0, .ref a1, .ref a2, .int (mI x3), .int (mI x4), .int (mI x5), .int (mI ((16 * x4) + x5))]) i_X1_guessError_49 rfl rfl).trans ?_
    refine (tq_iload_n i_X1_guessError_51 rfl rfl).trans ?_
    refine (tq_aload_n i_X1_guessError_52 rfl (isA_ref _) rfl).trans ?_
    refine (tq_iload i_X1_guessError_53 rfl rfl).trans ?_
    refine (c_X7_get i_X1_guessError_55 (ltd d_X1_guessError (by decide)) (isA_ref _) (stOk_1 _) rfl).trans ?_
    refine (congrArg (cl _ _ _ _) (get_ok rfl n2 s3 (by decide) (g4 c1))).trans ?_
    refine (cl_v _ _ _ _ _ _).trans ?_
    refine (tq_aload_n i_X1_guessError_58 rfl (isA_ref _) rfl).trans ?_
    refine (tq_getfield i_X1_guessError_59 (K1_s k5) (gR (g_1_6 (K1_s k5)) (K1_e6 k5)) (isV_ref _) rfl).trans ?_
    refine (tq_iload i_X1_guessError_62 rfl rfl).trans ?_
    refine (c_X7_get i_X1_guessError_64 (ltd d_X1_guessError (by decide)) (isA_ref _) (stOk_2 _ _) rfl).trans ?_
    refine (congrArg (cl _ _ _ _) (get_ok rfl (K1_n6 k5) (K1_s6 k5) (by decide) (g6 c1))).trans ?_
    refine (cl_v _ _ _ _ _ _).trans ?_
    refine (tq_isub i_X1_guessError_67 rfl).trans ?_
    refine (tq_abs i_X1_guessError_68 rfl (Nat.le_of_ble_eq_true rfl) rfl).trans ?_
    refine (tq_iadd i_X1_guessError_71 rfl).trans ?_
    refine (tq_istore_n (L' := [.ref a0, .ref a1, .ref a2, .int (mI (x3 + (max (wr ((gZ h a1 (wr ((16 * x4) + x5))) - (gZ h (a0 + 7) (wr ((16 * x4) + x5))))) (-(wr ((gZ h a1 (wr ((16 * x4) + x5))) - (gZ h (a0 + 7) (wr ((16 * x4) + x5))))))))), .int (mI x4), .int (mI x5), .int (mI ((16 * x4) + x5))]) i_X1_guessError_72 rfl rfl).trans ?_
    refine (tq_iinc (L' := [.ref a0, .ref a1, .ref a2, .int (mI (x3 + (max (wr ((gZ h a1 (wr ((16 * x4) + x5))) - (gZ h (a0 + 7) (wr ((16 * x4) + x5))))) (-(wr ((gZ h a1 (wr ((16 * x4) + x5))) - (gZ h (a0 + 7) (wr ((16 * x4) + x5))))))))), .int (mI x4), .int (mI (x5 + 1)), .int (mI ((16 * x4) + x5))]) i_X1_guessError_73 rfl rfl rfl).trans ?_
    refine (tq_goto (pc' := 28) i_X1_guessError_76 (by decide)).trans ?_
    rfl
theorem guessError_ok {h : am_H} {B P a n : Nat} {g : Int → Int → Int} {X Y Z T : Int} (kB : K1 h B) (kP : K5 h P) (s : sh h a = (1, 0)) (n1 : gn h a = n) (hn : 256 ≤ (n : Int)) (hc : pixels (gZ h a)) (pa : partAt h P X Y Z T) (ip : isPart X Y Z T) (hg : ∀ x y, X ≤ x → x < X + Z → Y ≤ y → y < Y + Z → gZ h (B + 7) (16 * y + x) = g x y) (hb : ∀ x y, X ≤ x → x < X + Z → Y ≤ y → y < Y + Z → 0 ≤ g x y ∧ g x y ≤ 255) : rn m_X1_guessError 0 [.ref B, .ref a, .ref P, am_J, am_J, am_J, am_J] [] h = some (.inl (some (.int (mI (dsum (gZ h a) g X Y Z (Z * Z).toNat)))), h) := by
  obtain ⟨p0, p1, p2, p3⟩ := pa
  obtain ⟨hz, hX, hY, hT⟩ := ip
  have zz : Z * Z = 16 ∨ Z * Z = 64 := by rcases hz with e | e <;> rw [e] <;> omega
  rw [b_X1_guessError_0 kP, p1]
  have := lp (m := m_X1_guessError) (pc := 8) (L := fun i (x : Int × (Value × Value)) => [.ref B, .ref a, .ref P, .int (mI x.1), .int (mI (Y + i)), x.2.1, x.2.2]) (N := Z) (P := fun r => r = some (.inl (some (.int (mI (dsum (gZ h a) g X Y Z (Z * Z).toNat)))), h)) (fun i x h' => 0 ≤ i ∧ h' = h ∧ x.1 = dsum (gZ h a) g X Y Z (Z * i).toNat) ?_ ?_ 0 (0, am_J, am_J) h (by omega) ⟨by omega, rfl, by rw [Int.mul_zero]; rfl⟩
  · rw [Int.add_zero] at this
    exact this
  · intro i v h' hi ⟨i0, e, ex⟩
    obtain ⟨x, w1, w2⟩ := v
    subst e
    have st := b_X1_guessError_8 (a0 := B) (a1 := a) (a2 := P) (x3 := x) (v5 := w1) (v6 := w2) (h := h') (wr_id (z := Y + i) (by omega) (by omega)) kP
    rw [p0, p1, p2, wr_id (by omega) (by omega), if_neg (by omega)] at st
    have in1 := lp (m := m_X1_guessError) (pc := 28) (L := fun j (x : Int × Value) => [.ref B, .ref a, .ref P, .int (mI x.1), .int (mI (Y + i)), .int (mI (X + j)), x.2]) (N := Z) (P := fun r => ∃ (s' : Int × (Value × Value)) (h'' : am_H), r = rn m_X1_guessError 8 [.ref B, .ref a, .ref P, .int (mI s'.1), .int (mI (Y + (i + 1))), s'.2.1, s'.2.2] [] h'' ∧ (0 ≤ i + 1 ∧ h'' = h' ∧ s'.1 = dsum (gZ h' a) g X Y Z (Z * (i + 1)).toNat)) (fun j x h2 => 0 ≤ j ∧ h2 = h' ∧ x.1 = dsum (gZ h' a) g X Y Z (Z * i).toNat + sm j.toNat (fun j => iabs (gZ h' a (16 * (Y + i) + (X + j)) - g (X + j) (Y + i)))) ?_ ?_ 0 (x, w2) h' (by omega) ⟨by omega, rfl, by simp only at ex ⊢; rw [ex]; exact (Int.add_zero _).symm⟩
    · obtain ⟨s', h'', e2, e3⟩ := in1
      rw [Int.add_zero] at e2
      exact ⟨s', h'', st.trans e2, e3⟩
    · intro j u h2 hj ⟨j0, e, ey⟩
      obtain ⟨y, u⟩ := u
      subst e
      have wi : wr (16 * (Y + i) + (X + j)) = 16 * (Y + i) + (X + j) := wr_id (by omega) (by omega)
      have st2 := b_X1_guessError_28 (a0 := B) (a1 := a) (a2 := P) (x3 := y) (x4 := Y + i) (v6 := u) (h := h2) (wr_id (z := X + j) (by omega) (by omega)) kP n1 s
      rw [p0, p2, wi, wr_id (z := X + Z) (by omega) (by omega)] at st2
      have st2 := st2 (fun _ => by omega) kB (fun _ => by omega)
      have c1 := hc (16 * (Y + i) + (X + j)) (by omega) (by omega)
      have c2 := hb (X + j) (Y + i) (by omega) (by omega) (by omega) (by omega)
      rw [if_neg (by omega), hg (X + j) (Y + i) (by omega) (by omega) (by omega) (by omega), wr_id (z := gZ h2 a (16 * (Y + i) + (X + j)) - g (X + j) (Y + i)) (by omega) (by omega), show X + j + 1 = X + (j + 1) by omega] at st2
      refine ⟨(_, _), h2, st2, by omega, rfl, ?_⟩
      simp only at ey ⊢
      rw [sm_succ j0, ey, Int.add_assoc]
      rfl
    · intro u h2 ⟨j0, e, ey⟩
      obtain ⟨y, u⟩ := u
      subst e
      have st2 := b_X1_guessError_28 (a0 := B) (a1 := a) (a2 := P) (x3 := y) (x4 := Y + i) (v6 := u) (h := h2) (wr_id (z := X + Z) (by omega) (by omega)) kP n1 s
      rw [p0, p2, wr_id (z := X + Z) (by omega) (by omega)] at st2
      have st2 := st2 (fun _ => by omega) kB (fun _ => by omega)
      rw [if_pos (by omega), show Y + i + 1 = Y + (i + 1) by omega] at st2
      refine ⟨(_, _, _), h2, st2, by omega, rfl, ?_⟩
      simp only at ey ⊢
      rw [ey, dsum_row hz i0]
  · intro v h' ⟨i0, e, ex⟩
    obtain ⟨x, w1, w2⟩ := v
    subst e
    have st := b_X1_guessError_8 (a0 := B) (a1 := a) (a2 := P) (x3 := x) (v5 := w1) (v6 := w2) (h := h') (wr_id (z := Y + Z) (by omega) (by omega)) kP
    rw [p1, p2, wr_id (by omega) (by omega), if_pos (by omega)] at st
    simp only at ex
    rw [st, ex]
