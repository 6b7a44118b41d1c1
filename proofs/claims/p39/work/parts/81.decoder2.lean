/-! ===== the class's decoder builds a picture ===== -/
/-- what decoding wants of a square -/
def pdW (pd : Nat → Int → Int) (kd q s : Int) : Prop := (pd 0 s = 4 ∨ pd 0 s = 8) ∧ pd 0 s = pd 0 (4 * (s / 4)) ∧ (¬ pd 0 s = 4 → pd 1 s = pd 1 (4 * (s / 4)) ∧ pd 2 s = pd 2 (4 * (s / 4)) ∧ pd 3 s = pd 3 (4 * (s / 4))) ∧ (0 ≤ pd 1 s ∧ pd 1 s < nmo kd) ∧ ((pd 1 s = 4 ∨ pd 1 s = 6) → okv (pd 2 s)) ∧ ((pd 1 s = 5 ∨ pd 1 s = 6) → okv (pd 3 s)) ∧ ∀ k, 0 ≤ k → k < 16 → -5000 ≤ 4 * q * pd 4 (pl s k) ∧ 4 * q * pd 4 (pl s k) ≤ 5000
def SDB (A : Nat) : Nat → Nat → Prop := fun c _ => A + 1 ≤ c ∧ c ≤ A + 11
/-- the places of a part that starts with a square -/
theorem st_xy {z : Int → Int} {i : Int} (hs : i % 4 = 0 ∨ z i = 4) : X0 z i = cx i ∧ Y0 z i = cy i := by
  unfold X0 Y0
  by_cases c : z i = 4
  · rw [if_pos c, if_pos c]
    exact ⟨rfl, rfl⟩
  · rw [if_neg c, if_neg c]
    unfold cx cy
    omega
/-- the squares of a part are guessed as it is -/
theorem Gq_part {pd : Nat → Int → Int} {f1 f2 p : Int → Int} {kd q sl i s x y : Int} (w : ∀ s, 0 ≤ s → s < 16 → pdW pd kd q s) (hi : 0 ≤ i ∧ i < 16) (st : i % 4 = 0 ∨ pd 0 i = 4) (hs : i ≤ s) (h1 : s < if pd 0 i = 4 then i + 1 else 4 * (i / 4) + 4) : Gq pd f1 f2 sl p s x y = gss p f1 f2 (cx i) (cy i) (SZ (pd 0) i) (tp sl (cy i)) (pd 1 i) (pd 2 i) (pd 3 i) x y := by
  by_cases c : pd 0 i = 4
  · rw [if_pos c] at h1
    have e : s = i := by omega
    subst e
    unfold Gq
    rw [(st_xy st).1, (st_xy st).2]
  · rw [if_neg c] at h1
    have i4 : i % 4 = 0 := by omega
    have ws := w s (by omega) (by omega)
    have e4 : 4 * (s / 4) = i := by omega
    unfold pdW at ws
    rw [e4] at ws
    have e0 : pd 0 s = pd 0 i := ws.2.1
    obtain ⟨e1, e2, e3⟩ := ws.2.2.1 (by rw [e0]; exact c)
    have sz : SZ (pd 0) s = SZ (pd 0) i := by unfold SZ; rw [e0]
    have xx : X0 (pd 0) s = cx i := by
      rw [← (st_xy (z := pd 0) st).1]
      unfold X0
      rw [if_neg (by rw [e0]; exact c), if_neg c, show s / 4 = i / 4 by omega]
    have yy : Y0 (pd 0) s = cy i := by
      rw [← (st_xy (z := pd 0) st).2]
      unfold Y0
      rw [if_neg (by rw [e0]; exact c), if_neg c, show s / 8 = i / 8 by omega]
    unfold Gq
    rw [e1, e2, e3, sz, xx, yy]
theorem modeOk_used {h : am_H} {B : Nat} {kd q s : Int} {p f1 f2 : Int → Int} {pd : Nat → Int → Int} {X Y Z T : Int} (hk : isKind kd) (w : pdW pd kd q s) (hp : pixels p) (bo : isBo h B p X Y Z T) (ro : refOk h B kd f1 f2) : modeOk h B p f1 f2 X Y Z T (pd 1 s) (pd 2 s) (pd 3 s) := by
  obtain ⟨-, -, -, hm, o1, o2, -⟩ := w
  have nb := nmo_b hk
  by_cases c : pd 1 s < 4
  · exact Or.inl ⟨hm.1, c, hp, bo⟩
  · refine Or.inr ⟨by omega, by omega, fun n5 => ?_, fun n4 => ?_⟩
    · obtain ⟨r1, r2⟩ := ro.1 (nb.2.1 (by omega))
      exact ⟨r1, r2, o1 (by omega)⟩
    · obtain ⟨r1, r2⟩ := ro.2 (nb.2.2 (by omega))
      exact ⟨r1, r2, o2 (by omega)⟩
theorem i_X3_build_0 : am_i m_X3_build 0 = some (0, .aload_n 1, 1, [], 0) := rfl
theorem i_X3_build_1 : am_i m_X3_build 1 = some (1, .invokevirtual 84, 3, [27, 6], 0) := rfl
theorem i_X3_build_4 : am_i m_X3_build 4 = some (4, .ifCond .eq 25, 3, [], 0) := rfl
theorem i_X3_build_7 : am_i m_X3_build 7 = some (7, .aload_n 0, 1, [], 0) := rfl
theorem i_X3_build_8 : am_i m_X3_build 8 = some (8, .getfield 12, 3, [3, 0, 0], 0) := rfl
theorem i_X3_build_11 : am_i m_X3_build 11 = some (11, .getfield 114, 3, [1, 0, 1], 0) := rfl
theorem i_X3_build_14 : am_i m_X3_build 14 = some (14, .aload_n 0, 1, [], 0) := rfl
theorem i_X3_build_15 : am_i m_X3_build 15 = some (15, .getfield 46, 3, [3, 8, 0], 0) := rfl
theorem i_X3_build_18 : am_i m_X3_build 18 = some (18, .sipush 256, 3, [], 256) := rfl
theorem i_X3_build_21 : am_i m_X3_build 21 = some (21, .aload_n 1, 1, [], 0) := rfl
theorem i_X3_build_22 : am_i m_X3_build 22 = some (22, .getfield 88, 3, [6, 1, 1], 0) := rfl
theorem i_X3_build_25 : am_i m_X3_build 25 = some (25, .imul, 1, [], 0) := rfl
theorem i_X3_build_26 : am_i m_X3_build 26 = some (26, .invokevirtual 117, 3, [81, 4], 0) := rfl
theorem b_X3_build_0 {a0 a1 : Nat} {x2 : Int} {h : am_H} (k1 : K6 h a1) (k2 : K3 h a0) : rn m_X3_build 0 [.ref a0, .ref a1, .int (mI x2), am_J, am_J, am_J] [] h = if (¬ ((fZ h a1 0) = 105)) then cl m_X3_build 29 [.ref a0, .ref a1, .int (mI x2), am_J, am_J, am_J] [] (rn m_X4_take 0 [.ref (a0 + 2), .ref (a0 + 13), .int (mI (256 * (fZ h a1 1))), am_J, am_J] [] h) else rn m_X3_build 29 [.ref a0, .ref a1, .int (mI x2), am_J, am_J, am_J] [] h := by
  refine (tq_aload_n i_X3_build_0 rfl (isA_ref _) rfl).trans ?_
  refine (c_X6_leansOnFirst i_X3_build_1 (K6_s k1) (ltd d_X3_build (by decide)) stOk_0 rfl).trans ?_
  refine (congrArg (cl _ _ _ _) (b_X6_leansOnFirst_0 k1)).trans ?_
  refine (cl_v _ _ _ _ _ _).trans ?_
  refine (tq_ifb_eq (pt := 29) i_X3_build_4 (by decide) rfl).trans ?_
  refine ite_congr rfl (fun c1 => ?_) (fun c1 => ?_)
  · refine (tq_aload_n i_X3_build_7 rfl (isA_ref _) rfl).trans ?_
    refine (tq_getfield i_X3_build_8 (K3_s k2) (gR (g_3_0 (K3_s k2)) (K3_e0 k2)) (isV_ref _) rfl).trans ?_
    refine (tq_getfield i_X3_build_11 (K1_s (K3_k0 k2)) (gR (g_1_0 (K1_s (K3_k0 k2))) (K1_e0 (K3_k0 k2))) (isV_ref _) rfl).trans ?_
    refine (tq_aload_n i_X3_build_14 rfl (isA_ref _) rfl).trans ?_
    refine (tq_getfield i_X3_build_15 (K3_s k2) (gR (g_3_8 (K3_s k2)) (K3_e8 k2)) (isV_ref _) rfl).trans ?_
    refine (tq_sipush i_X3_build_18 rfl).trans ?_
    refine (tq_aload_n i_X3_build_21 rfl (isA_ref _) rfl).trans ?_
    refine (tq_getfield i_X3_build_22 (K6_s k1) (g_6_1 (K6_s k1)) (isV_I _) rfl).trans ?_
    refine (tq_imul i_X3_build_25 rfl).trans ?_
    exact c_X4_take i_X3_build_26 (K4_s (K1_k0 (K3_k0 k2))) (ltd d_X3_build (by decide)) (isA_ref _) stOk_0 rfl
  · rfl
theorem i_X3_build_29 : am_i m_X3_build 29 = some (29, .aload_n 1, 1, [], 0) := rfl
theorem i_X3_build_30 : am_i m_X3_build 30 = some (30, .invokevirtual 95, 3, [28, 6], 0) := rfl
theorem i_X3_build_33 : am_i m_X3_build 33 = some (33, .ifCond .eq 25, 3, [], 0) := rfl
theorem i_X3_build_36 : am_i m_X3_build 36 = some (36, .aload_n 0, 1, [], 0) := rfl
theorem i_X3_build_37 : am_i m_X3_build 37 = some (37, .getfield 12, 3, [3, 0, 0], 0) := rfl
theorem i_X3_build_40 : am_i m_X3_build 40 = some (40, .getfield 122, 3, [1, 1, 1], 0) := rfl
theorem i_X3_build_43 : am_i m_X3_build 43 = some (43, .aload_n 0, 1, [], 0) := rfl
theorem i_X3_build_44 : am_i m_X3_build 44 = some (44, .getfield 46, 3, [3, 8, 0], 0) := rfl
theorem i_X3_build_47 : am_i m_X3_build 47 = some (47, .sipush 256, 3, [], 256) := rfl
theorem i_X3_build_50 : am_i m_X3_build 50 = some (50, .aload_n 1, 1, [], 0) := rfl
theorem i_X3_build_51 : am_i m_X3_build 51 = some (51, .getfield 98, 3, [6, 2, 1], 0) := rfl
theorem i_X3_build_54 : am_i m_X3_build 54 = some (54, .imul, 1, [], 0) := rfl
theorem i_X3_build_55 : am_i m_X3_build 55 = some (55, .invokevirtual 117, 3, [81, 4], 0) := rfl
theorem b_X3_build_29 {a0 a1 : Nat} {x2 : Int} {v3 v4 v5 : Value} {h : am_H} (k1 : K6 h a1) (k2 : K3 h a0) : rn m_X3_build 29 [.ref a0, .ref a1, .int (mI x2), v3, v4, v5] [] h = if (¬ (¬ (fZ h a1 0) = 98)) then cl m_X3_build 58 [.ref a0, .ref a1, .int (mI x2), v3, v4, v5] [] (rn m_X4_take 0 [.ref (a0 + 4), .ref (a0 + 13), .int (mI (256 * (fZ h a1 2))), am_J, am_J] [] h) else rn m_X3_build 58 [.ref a0, .ref a1, .int (mI x2), v3, v4, v5] [] h := by
  refine (tq_aload_n i_X3_build_29 rfl (isA_ref _) rfl).trans ?_
  refine (c_X6_leansOnSecond i_X3_build_30 (K6_s k1) (ltd d_X3_build (by decide)) stOk_0 rfl).trans ?_
  refine (congrArg (cl _ _ _ _) (b_X6_leansOnSecond_0 k1)).trans ?_
  refine (cl_v _ _ _ _ _ _).trans ?_
  refine (tq_ifb_eq (pt := 58) i_X3_build_33 (by decide) rfl).trans ?_
  refine ite_congr rfl (fun c1 => ?_) (fun c1 => ?_)
  · refine (tq_aload_n i_X3_build_36 rfl (isA_ref _) rfl).trans ?_
    refine (tq_getfield i_X3_build_37 (K3_s k2) (gR (g_3_0 (K3_s k2)) (K3_e0 k2)) (isV_ref _) rfl).trans ?_
    refine (tq_getfield i_X3_build_40 (K1_s (K3_k0 k2)) (gR (g_1_1 (K1_s (K3_k0 k2))) (K1_e1 (K3_k0 k2))) (isV_ref _) rfl).trans ?_
    refine (tq_aload_n i_X3_build_43 rfl (isA_ref _) rfl).trans ?_
    refine (tq_getfield i_X3_build_44 (K3_s k2) (gR (g_3_8 (K3_s k2)) (K3_e8 k2)) (isV_ref _) rfl).trans ?_
    refine (tq_sipush i_X3_build_47 rfl).trans ?_
    refine (tq_aload_n i_X3_build_50 rfl (isA_ref _) rfl).trans ?_
    refine (tq_getfield i_X3_build_51 (K6_s k1) (g_6_2 (K6_s k1)) (isV_I _) rfl).trans ?_
    refine (tq_imul i_X3_build_54 rfl).trans ?_
    exact c_X4_take i_X3_build_55 (K4_s (K1_k1 (K3_k0 k2))) (ltd d_X3_build (by decide)) (isA_ref _) stOk_0 rfl
  · rfl
theorem i_X3_build_58 : am_i m_X3_build 58 = some (58, .iconst 0, 1, [], 0) := rfl
theorem i_X3_build_59 : am_i m_X3_build 59 = some (59, .istore_n 3, 1, [], 0) := rfl
theorem b_X3_build_58 {a0 a1 : Nat} {x2 : Int} {v3 v4 v5 : Value} {h : am_H} : rn m_X3_build 58 [.ref a0, .ref a1, .int (mI x2), v3, v4, v5] [] h = rn m_X3_build 60 [.ref a0, .ref a1, .int (mI x2), .int (mI 0), v4, v5] [] h := by
  refine (tq_iconst i_X3_build_58 rfl).trans ?_
  refine (tq_istore_n (L' := [.ref a0, .ref a1, .int (mI x2), .int (mI 0), v4, v5]) i_X3_build_59 rfl rfl).trans ?_
  rfl
theorem i_X3_build_60 : am_i m_X3_build 60 = some (60, .iload_n 3, 1, [], 0) := rfl
theorem i_X3_build_61 : am_i m_X3_build 61 = some (61, .bipush 16, 2, [], 16) := rfl
theorem i_X3_build_63 : am_i m_X3_build 63 = some (63, .if_icmp .ge 115, 3, [], 0) := rfl
theorem i_X3_build_66 : am_i m_X3_build 66 = some (66, .iload_n 3, 1, [], 0) := rfl
theorem i_X3_build_67 : am_i m_X3_build 67 = some (67, .invokestatic 124, 3, [6], 0) := rfl
theorem i_X3_build_70 : am_i m_X3_build 70 = some (70, .iload_n 3, 1, [], 0) := rfl
theorem i_X3_build_71 : am_i m_X3_build 71 = some (71, .invokestatic 128, 3, [14], 0) := rfl
theorem i_X3_build_74 : am_i m_X3_build 74 = some (74, .invokestatic 131, 3, [13], 0) := rfl
theorem i_X3_build_77 : am_i m_X3_build 77 = some (77, .istore 4, 2, [], 0) := rfl
theorem i_X3_build_79 : am_i m_X3_build 79 = some (79, .iload_n 2, 1, [], 0) := rfl
theorem i_X3_build_80 : am_i m_X3_build 80 = some (80, .aload_n 1, 1, [], 0) := rfl
theorem i_X3_build_81 : am_i m_X3_build 81 = some (81, .iload_n 3, 1, [], 0) := rfl
theorem i_X3_build_82 : am_i m_X3_build 82 = some (82, .invokestatic 128, 3, [14], 0) := rfl
theorem i_X3_build_85 : am_i m_X3_build 85 = some (85, .invokevirtual 134, 3, [29, 6], 0) := rfl
theorem i_X3_build_88 : am_i m_X3_build 88 = some (88, .ishr, 1, [], 0) := rfl
theorem i_X3_build_89 : am_i m_X3_build 89 = some (89, .iconst 1, 1, [], 1) := rfl
theorem i_X3_build_90 : am_i m_X3_build 90 = some (90, .iand, 1, [], 0) := rfl
theorem i_X3_build_91 : am_i m_X3_build 91 = some (91, .ifCond .eq 7, 3, [], 0) := rfl
theorem i_X3_build_94 : am_i m_X3_build 94 = some (94, .iconst 1, 1, [], 1) := rfl
theorem i_X3_build_95 : am_i m_X3_build 95 = some (95, .goto 4, 3, [], 0) := rfl
theorem i_X3_build_98 : am_i m_X3_build 98 = some (98, .iconst 0, 1, [], 0) := rfl
theorem i_X3_build_99 : am_i m_X3_build 99 = some (99, .istore 5, 2, [], 0) := rfl
theorem i_X3_build_101 : am_i m_X3_build 101 = some (101, .iload 5, 2, [], 0) := rfl
theorem i_X3_build_103 : am_i m_X3_build 103 = some (103, .ifCond .eq 12, 3, [], 0) := rfl
theorem i_X3_build_106 : am_i m_X3_build 106 = some (106, .aload_n 0, 1, [], 0) := rfl
theorem i_X3_build_107 : am_i m_X3_build 107 = some (107, .iload 4, 2, [], 0) := rfl
theorem i_X3_build_109 : am_i m_X3_build 109 = some (109, .invokevirtual 137, 3, [56, 3], 0) := rfl
theorem i_X3_build_115 : am_i m_X3_build 115 = some (115, .aload_n 1, 1, [], 0) := rfl
theorem i_X3_build_116 : am_i m_X3_build 116 = some (116, .iload_n 3, 1, [], 0) := rfl
theorem i_X3_build_117 : am_i m_X3_build 117 = some (117, .invokevirtual 141, 3, [84, 6], 0) := rfl
theorem i_X3_build_120 : am_i m_X3_build 120 = some (120, .ifCond .eq 38, 3, [], 0) := rfl
theorem i_X3_build_123 : am_i m_X3_build 123 = some (123, .aload_n 1, 1, [], 0) := rfl
theorem i_X3_build_124 : am_i m_X3_build 124 = some (124, .aload_n 0, 1, [], 0) := rfl
theorem i_X3_build_125 : am_i m_X3_build 125 = some (125, .getfield 21, 3, [3, 1, 0], 0) := rfl
theorem i_X3_build_128 : am_i m_X3_build 128 = some (128, .iload_n 3, 1, [], 0) := rfl
theorem i_X3_build_129 : am_i m_X3_build 129 = some (129, .invokevirtual 145, 3, [83, 6], 0) := rfl
theorem i_X3_build_178 : am_i m_X3_build 178 = some (178, .aload_n 0, 1, [], 0) := rfl
theorem i_X3_build_179 : am_i m_X3_build 179 = some (179, .getfield 12, 3, [3, 0, 0], 0) := rfl
theorem i_X3_build_182 : am_i m_X3_build 182 = some (182, .aload_n 1, 1, [], 0) := rfl
theorem i_X3_build_183 : am_i m_X3_build 183 = some (183, .aload_n 0, 1, [], 0) := rfl
theorem i_X3_build_184 : am_i m_X3_build 184 = some (184, .getfield 25, 3, [3, 2, 0], 0) := rfl
theorem i_X3_build_187 : am_i m_X3_build 187 = some (187, .invokevirtual 161, 3, [77, 1], 0) := rfl
theorem b_X3_build_60 {a0 a1 k_88 : Nat} {x2 x3 x2' x3' : Int} {v4 v5 : Value} {h : am_H} (w2 : wr x2 = x2') (w3 : wr x3 = x3') (k1 : K3 h a0) (g2 : (¬ (16 ≤ x3')) → (0 ≤ x3' ∧ x3' < 16)) (k3 : K6 h a1) (g4 : (¬ (16 ≤ x3')) → (bZ (¬ ((fZ h a1 5) ≤ 1) ∧ (¬ ((cy x3') < 8))) = (k_88 : Int))) (g5 : (¬ (16 ≤ x3')) → (k_88 < 32)) : rn m_X3_build 60 [.ref a0, .ref a1, .int (mI x2), .int (mI x3), v4, v5] [] h = if 16 ≤ x3' then cl m_X3_build 190 [.ref a0, .ref a1, .int (mI x2), .int (mI x3), v4, v5] [] (rn m_X1_smooth 0 [.ref (a0 + 1), .ref a1, .ref (a0 + 11), am_J, am_J, am_J] [] h) else if (¬ (((wr (x2' / 2 ^ k_88)) % 2 ^ 1) = 0)) then cl m_X3_build 112 [.ref a0, .ref a1, .int (mI x2), .int (mI x3), .int (mI ((16 * (cy x3')) + (cx x3'))), .int (mI (bZ (¬ (((wr (x2' / 2 ^ k_88)) % 2 ^ 1) = 0))))] [] (rn m_X3_conceal 0 [.ref a0, .int (mI ((16 * (cy x3')) + (cx x3'))), am_J, am_J] [] h) else if (x3' % 4 = 0 ∨ gZ h (a1 + 3) x3' = 4) then cl m_X3_build 132 [.ref a0, .ref a1, .int (mI x2), .int (mI x3), .int (mI ((16 * (cy x3')) + (cx x3'))), .int (mI (bZ (¬ (((wr (x2' / 2 ^ k_88)) % 2 ^ 1) = 0))))] [] (rn m_X6_recall 0 [.ref a1, .ref (a0 + 10), .int (mI x3), am_J] [] h) else rn m_X3_build 158 [.ref a0, .ref a1, .int (mI x2), .int (mI x3), .int (mI ((16 * (cy x3')) + (cx x3'))), .int (mI (bZ (¬ (((wr (x2' / 2 ^ k_88)) % 2 ^ 1) = 0))))] [] h := by
  refine (tq_iload_n i_X3_build_60 rfl rfl).trans ?_
  refine (tq_bipush i_X3_build_61 rfl).trans ?_
  refine (tq_icmp_ge (pt := 178) i_X3_build_63 w3 w_16 (by decide) rfl).trans ?_
  refine ite_congr rfl (fun c1 => ?_) (fun c1 => ?_)
  · refine (tq_aload_n i_X3_build_178 rfl (isA_ref _) rfl).trans ?_
    refine (tq_getfield i_X3_build_179 (K3_s k1) (gR (g_3_0 (K3_s k1)) (K3_e0 k1)) (isV_ref _) rfl).trans ?_
    refine (tq_aload_n i_X3_build_182 rfl (isA_ref _) rfl).trans ?_
    refine (tq_aload_n i_X3_build_183 rfl (isA_ref _) rfl).trans ?_
    refine (tq_getfield i_X3_build_184 (K3_s k1) (gR (g_3_2 (K3_s k1)) (K3_e2 k1)) (isV_ref _) rfl).trans ?_
    exact c_X1_smooth i_X3_build_187 (K1_s (K3_k0 k1)) (ltd d_X3_build (by decide)) (isA_ref _) (isA_ref _) stOk_0 rfl
  · refine (tq_iload_n i_X3_build_66 rfl rfl).trans ?_
    refine (c_X11_columnOf i_X3_build_67 (ltd d_X3_build (by decide)) stOk_0 rfl).trans ?_
    refine (congrArg (cl _ _ _ _) (columnOf_ok w3 (g2 c1))).trans ?_
    refine (cl_v _ _ _ _ _ _).trans ?_
    refine (tq_iload_n i_X3_build_70 rfl rfl).trans ?_
    refine (c_X11_rowOf i_X3_build_71 (ltd d_X3_build (by decide)) (stOk_1 _) rfl).trans ?_
    refine (congrArg (cl _ _ _ _) (rowOf_ok w3 (g2 c1))).trans ?_
    refine (cl_v _ _ _ _ _ _).trans ?_
    refine (c_X11_placeOf i_X3_build_74 (ltd d_X3_build (by decide)) stOk_0 rfl).trans ?_
    refine (congrArg (cl _ _ _ _) (b_X11_placeOf_0)).trans ?_
    refine (cl_v _ _ _ _ _ _).trans ?_
    refine (tq_istore (L' := [.ref a0, .ref a1, .int (mI x2), .int (mI x3), .int (mI ((16 * (cy x3')) + (cx x3'))), v5]) i_X3_build_77 rfl rfl).trans ?_
    refine (tq_iload_n i_X3_build_79 rfl rfl).trans ?_
    refine (tq_aload_n i_X3_build_80 rfl (isA_ref _) rfl).trans ?_
    refine (tq_iload_n i_X3_build_81 rfl rfl).trans ?_
    refine (c_X11_rowOf i_X3_build_82 (ltd d_X3_build (by decide)) (stOk_2 _ _) rfl).trans ?_
    refine (congrArg (cl _ _ _ _) (rowOf_ok w3 (g2 c1))).trans ?_
    refine (cl_v _ _ _ _ _ _).trans ?_
    refine (c_X6_sliceOf i_X3_build_85 (K6_s k3) (ltd d_X3_build (by decide)) (stOk_1 _) rfl).trans ?_
    refine (congrArg (cl _ _ _ _) (b_X6_sliceOf_0 (wr_cy _) k3)).trans ?_
    refine (cl_v _ _ _ _ _ _).trans ?_
    refine (tq_ishr i_X3_build_88 w2 ((wr_bZ _).trans (g4 c1)) (g5 c1) rfl).trans ?_
    refine (tq_iconst i_X3_build_89 rfl).trans ?_
    refine (tq_imask 1 i_X3_build_90 rfl (by decide) (by decide) rfl).trans ?_
    refine (tq_if_eq (pt := 98) i_X3_build_91 (wr_mask (by decide)) (by decide) rfl).trans ?_
    refine Eq.trans (b := if ((wr (x2' / 2 ^ k_88)) % 2 ^ 1) = 0 then rn m_X3_build 99 [.ref a0, .ref a1, .int (mI x2), .int (mI x3), .int (mI ((16 * (cy x3')) + (cx x3'))), v5] [.int (mI 0)] h else rn m_X3_build 99 [.ref a0, .ref a1, .int (mI x2), .int (mI x3), .int (mI ((16 * (cy x3')) + (cx x3'))), v5] [.int (mI 1)] h) (ite_congr rfl (fun c2 => ?_) (fun c2 => ?_)) ?_
    · refine (tq_iconst i_X3_build_98 rfl).trans ?_
      rfl
    · refine (tq_iconst i_X3_build_94 rfl).trans ?_
      refine (tq_goto (pc' := 99) i_X3_build_95 (by decide)).trans ?_
      rfl
    refine Eq.trans ite_b01 ?_
    refine (tq_istore (L' := [.ref a0, .ref a1, .int (mI x2), .int (mI x3), .int (mI ((16 * (cy x3')) + (cx x3'))), .int (mI (bZ (¬ (((wr (x2' / 2 ^ k_88)) % 2 ^ 1) = 0))))]) i_X3_build_99 rfl rfl).trans ?_
    refine (tq_iload i_X3_build_101 rfl rfl).trans ?_
    refine (tq_ifb_eq (pt := 115) i_X3_build_103 (by decide) rfl).trans ?_
    refine ite_congr rfl (fun c3 => ?_) (fun c3 => ?_)
    · refine (tq_aload_n i_X3_build_106 rfl (isA_ref _) rfl).trans ?_
      refine (tq_iload i_X3_build_107 rfl rfl).trans ?_
      exact c_X3_conceal i_X3_build_109 (K3_s k1) (ltd d_X3_build (by decide)) stOk_0 rfl
    · refine (tq_aload_n i_X3_build_115 rfl (isA_ref _) rfl).trans ?_
      refine (tq_iload_n i_X3_build_116 rfl rfl).trans ?_
      refine (c_X6_startsPart i_X3_build_117 (K6_s k3) (ltd d_X3_build (by decide)) stOk_0 rfl).trans ?_
      refine (congrArg (cl _ _ _ _) (startsPart_ok w3 (g2 c1) k3)).trans ?_
      refine (cl_v _ _ _ _ _ _).trans ?_
      refine (tq_ifb_eq (pt := 158) i_X3_build_120 (by decide) rfl).trans ?_
      refine ite_congr rfl (fun c4 => ?_) (fun c4 => ?_)
      · refine (tq_aload_n i_X3_build_123 rfl (isA_ref _) rfl).trans ?_
        refine (tq_aload_n i_X3_build_124 rfl (isA_ref _) rfl).trans ?_
        refine (tq_getfield i_X3_build_125 (K3_s k1) (gR (g_3_1 (K3_s k1)) (K3_e1 k1)) (isV_ref _) rfl).trans ?_
        refine (tq_iload_n i_X3_build_128 rfl rfl).trans ?_
        exact c_X6_recall i_X3_build_129 (K6_s k3) (ltd d_X3_build (by decide)) (isA_ref _) stOk_0 rfl
      · rfl
theorem i_X3_build_112 : am_i m_X3_build 112 = some (112, .goto 60, 3, [], 0) := rfl
theorem b_X3_build_112 {a0 a1 : Nat} {x2 x3 : Int} {v4 v5 : Value} {h : am_H} : rn m_X3_build 112 [.ref a0, .ref a1, .int (mI x2), .int (mI x3), v4, v5] [] h = rn m_X3_build 172 [.ref a0, .ref a1, .int (mI x2), .int (mI x3), v4, v5] [] h := by
  refine (tq_goto (pc' := 172) i_X3_build_112 (by decide)).trans ?_
  rfl
theorem i_X3_build_132 : am_i m_X3_build 132 = some (132, .aload_n 0, 1, [], 0) := rfl
theorem i_X3_build_133 : am_i m_X3_build 133 = some (133, .getfield 12, 3, [3, 0, 0], 0) := rfl
theorem i_X3_build_136 : am_i m_X3_build 136 = some (136, .aload_n 0, 1, [], 0) := rfl
theorem i_X3_build_137 : am_i m_X3_build 137 = some (137, .getfield 25, 3, [3, 2, 0], 0) := rfl
theorem i_X3_build_140 : am_i m_X3_build 140 = some (140, .aload_n 0, 1, [], 0) := rfl
theorem i_X3_build_141 : am_i m_X3_build 141 = some (141, .getfield 21, 3, [3, 1, 0], 0) := rfl
theorem i_X3_build_144 : am_i m_X3_build 144 = some (144, .invokevirtual 149, 3, [78, 1], 0) := rfl
theorem b_X3_build_132 {a0 a1 : Nat} {x2 x3 x4 : Int} {v5 : Value} {h : am_H} (k1 : K3 h a0) : rn m_X3_build 132 [.ref a0, .ref a1, .int (mI x2), .int (mI x3), .int (mI x4), v5] [] h = cl m_X3_build 147 [.ref a0, .ref a1, .int (mI x2), .int (mI x3), .int (mI x4), v5] [] (rn m_X1_takeBorder 0 [.ref (a0 + 1), .ref (a0 + 11), .ref (a0 + 10), am_J, am_J, am_J, am_J] [] h) := by
  refine (tq_aload_n i_X3_build_132 rfl (isA_ref _) rfl).trans ?_
  refine (tq_getfield i_X3_build_133 (K3_s k1) (gR (g_3_0 (K3_s k1)) (K3_e0 k1)) (isV_ref _) rfl).trans ?_
  refine (tq_aload_n i_X3_build_136 rfl (isA_ref _) rfl).trans ?_
  refine (tq_getfield i_X3_build_137 (K3_s k1) (gR (g_3_2 (K3_s k1)) (K3_e2 k1)) (isV_ref _) rfl).trans ?_
  refine (tq_aload_n i_X3_build_140 rfl (isA_ref _) rfl).trans ?_
  refine (tq_getfield i_X3_build_141 (K3_s k1) (gR (g_3_1 (K3_s k1)) (K3_e1 k1)) (isV_ref _) rfl).trans ?_
  exact c_X1_takeBorder i_X3_build_144 (K1_s (K3_k0 k1)) (ltd d_X3_build (by decide)) (isA_ref _) (isA_ref _) stOk_0 rfl
theorem i_X3_build_147 : am_i m_X3_build 147 = some (147, .aload_n 0, 1, [], 0) := rfl
theorem i_X3_build_148 : am_i m_X3_build 148 = some (148, .getfield 12, 3, [3, 0, 0], 0) := rfl
theorem i_X3_build_151 : am_i m_X3_build 151 = some (151, .aload_n 0, 1, [], 0) := rfl
theorem i_X3_build_152 : am_i m_X3_build 152 = some (152, .getfield 21, 3, [3, 1, 0], 0) := rfl
theorem i_X3_build_155 : am_i m_X3_build 155 = some (155, .invokevirtual 153, 3, [89, 1], 0) := rfl
theorem b_X3_build_147 {a0 a1 : Nat} {x2 x3 x4 : Int} {v5 : Value} {h : am_H} (k1 : K3 h a0) : rn m_X3_build 147 [.ref a0, .ref a1, .int (mI x2), .int (mI x3), .int (mI x4), v5] [] h = cl m_X3_build 158 [.ref a0, .ref a1, .int (mI x2), .int (mI x3), .int (mI x4), v5] [] (rn m_X1_guessPart 0 [.ref (a0 + 1), .ref (a0 + 10), am_J, am_J, am_J] [] h) := by
  refine (tq_aload_n i_X3_build_147 rfl (isA_ref _) rfl).trans ?_
  refine (tq_getfield i_X3_build_148 (K3_s k1) (gR (g_3_0 (K3_s k1)) (K3_e0 k1)) (isV_ref _) rfl).trans ?_
  refine (tq_aload_n i_X3_build_151 rfl (isA_ref _) rfl).trans ?_
  refine (tq_getfield i_X3_build_152 (K3_s k1) (gR (g_3_1 (K3_s k1)) (K3_e1 k1)) (isV_ref _) rfl).trans ?_
  exact c_X1_guessPart i_X3_build_155 (K1_s (K3_k0 k1)) (ltd d_X3_build (by decide)) (isA_ref _) stOk_0 rfl
theorem i_X3_build_158 : am_i m_X3_build 158 = some (158, .aload_n 0, 1, [], 0) := rfl
theorem i_X3_build_159 : am_i m_X3_build 159 = some (159, .getfield 12, 3, [3, 0, 0], 0) := rfl
theorem i_X3_build_162 : am_i m_X3_build 162 = some (162, .aload_n 1, 1, [], 0) := rfl
theorem i_X3_build_163 : am_i m_X3_build 163 = some (163, .aload_n 0, 1, [], 0) := rfl
theorem i_X3_build_164 : am_i m_X3_build 164 = some (164, .getfield 25, 3, [3, 2, 0], 0) := rfl
theorem i_X3_build_167 : am_i m_X3_build 167 = some (167, .iload 4, 2, [], 0) := rfl
theorem i_X3_build_169 : am_i m_X3_build 169 = some (169, .invokevirtual 157, 3, [88, 1], 0) := rfl
theorem b_X3_build_158 {a0 a1 : Nat} {x2 x3 x4 : Int} {v5 : Value} {h : am_H} (k1 : K3 h a0) : rn m_X3_build 158 [.ref a0, .ref a1, .int (mI x2), .int (mI x3), .int (mI x4), v5] [] h = cl m_X3_build 172 [.ref a0, .ref a1, .int (mI x2), .int (mI x3), .int (mI x4), v5] [] (rn m_X1_buildSquare 0 [.ref (a0 + 1), .ref a1, .ref (a0 + 11), .int (mI x4), am_J, am_J, am_J] [] h) := by
  refine (tq_aload_n i_X3_build_158 rfl (isA_ref _) rfl).trans ?_
  refine (tq_getfield i_X3_build_159 (K3_s k1) (gR (g_3_0 (K3_s k1)) (K3_e0 k1)) (isV_ref _) rfl).trans ?_
  refine (tq_aload_n i_X3_build_162 rfl (isA_ref _) rfl).trans ?_
  refine (tq_aload_n i_X3_build_163 rfl (isA_ref _) rfl).trans ?_
  refine (tq_getfield i_X3_build_164 (K3_s k1) (gR (g_3_2 (K3_s k1)) (K3_e2 k1)) (isV_ref _) rfl).trans ?_
  refine (tq_iload i_X3_build_167 rfl rfl).trans ?_
  exact c_X1_buildSquare i_X3_build_169 (K1_s (K3_k0 k1)) (ltd d_X3_build (by decide)) (isA_ref _) (isA_ref _) stOk_0 rfl
theorem i_X3_build_172 : am_i m_X3_build 172 = some (172, .iinc 3 1, 3, [], 0) := rfl
theorem i_X3_build_175 : am_i m_X3_build 175 = some (175, .goto (-115), 3, [], 0) := rfl
theorem b_X3_build_172 {a0 a1 : Nat} {x2 x3 : Int} {v4 v5 : Value} {h : am_H} : rn m_X3_build 172 [.ref a0, .ref a1, .int (mI x2), .int (mI x3), v4, v5] [] h = rn m_X3_build 60 [.ref a0, .ref a1, .int (mI x2), .int (mI (x3 + 1)), v4, v5] [] h := by
  refine (tq_iinc (L' := [.ref a0, .ref a1, .int (mI x2), .int (mI (x3 + 1)), v4, v5]) i_X3_build_172 rfl rfl rfl).trans ?_
  refine (tq_goto (pc' := 60) i_X3_build_175 (by decide)).trans ?_
  rfl
theorem i_X3_build_190 : am_i m_X3_build 190 = some (190, .return_, 1, [], 0) := rfl
theorem b_X3_build_190 {v0 v1 v2 v3 v4 v5 : Value} {h : am_H} : rn m_X3_build 190 [v0, v1, v2, v3, v4, v5] [] h = some (.inl none, h) := by
  exact tq_return i_X3_build_190 r_X3_build
theorem dBuild_ok {h : am_H} {A P : Nat} {f1 f2 : Int → Int} {kd tl sl q lost : Int} (kA : K3 h A) (kP : K6 h P) (nP : P + 8 < A ∨ A + 14 < P) (e0 : fZ h P 0 = kd) (e3 : fZ h P 3 = q) (e4 : fZ h P 4 = tl) (e5 : fZ h P 5 = sl) (hk : isKind kd) (hq : 1 ≤ q ∧ q ≤ 40) (hsl : sl = 1 ∨ sl = 2) (w : ∀ s, 0 ≤ s → s < 16 → pdW (pdh h P) kd q s) (r1 : kd ≠ 105 → (0 ≤ fZ h P 1 ∧ fZ h P 1 < 3) ∧ pixels f1 ∧ f1 = fun i => gZ h (A + 13) (256 * fZ h P 1 + i)) (r2 : kd = 98 → (0 ≤ fZ h P 2 ∧ fZ h P 2 < 3) ∧ pixels f2 ∧ f2 = fun i => gZ h (A + 13) (256 * fZ h P 2 + i)) (hl : 0 ≤ lost ∧ lost ≤ 3) (hp : pixels (gZ h (A + 11))) (hs : pixels (gZ h (A + 12))) : ∃ (h' : am_H) (p : Int → Int), rn m_X3_build 0 [.ref A, .ref P, .int (mI lost), am_J, am_J, am_J] [] h = some (.inl none, h') ∧ Md (SDB A) h h' ∧ pixels p ∧ (∀ s, 0 ≤ s → s < 16 → Dcd (pdh h P) f1 f2 (gZ h (A + 12)) sl q lost p s) ∧ gZ h' (A + 11) = smo q tl sl p := by
  have st := b_X3_build_0 (a0 := A) (a1 := P) (x2 := lost) (h := h) kP kA
  rw [e0] at st
  -- the pictures leant on
  have A1 : ∃ h1, rn m_X3_build 0 [.ref A, .ref P, .int (mI lost), am_J, am_J, am_J] [] h = rn m_X3_build 29 [.ref A, .ref P, .int (mI lost), am_J, am_J, am_J] [] h1 ∧ Md (fun c _ => c = A + 3) h h1 ∧ (kd ≠ 105 → isH h1 (A + 2) f1 ∧ pixels f1) := by
    by_cases c : kd = 105
    · rw [if_neg (fun g => g c)] at st
      exact ⟨h, st, Md_rf _ _, fun g => absurd c g⟩
    · rw [if_pos c] at st
      obtain ⟨⟨a1, a2⟩, a3, a4⟩ := r1 c
      obtain ⟨h1, s1, m1, i1⟩ := take_ok (a := A + 2) (b := A + 13) (f := 256 * fZ h P 1) (K1_k0 (K3_k0 kA)) (K3_s8 kA) (K3_n8 kA) (by omega) (by omega) (by omega) (by rw [← a4]; exact a3)
      rw [s1, cl_n] at st
      rw [← a4] at i1
      exact ⟨h1, st, m1, fun _ => ⟨i1, a3⟩⟩
  obtain ⟨h1, s1, m1, i1⟩ := A1
  have st1 := b_X3_build_29 (a0 := A) (a1 := P) (x2 := lost) (v3 := am_J) (v4 := am_J) (v5 := am_J) (h := h1) (K6_sm m1.1 kP) (K3_sm m1.1 kA)
  rw [md_fZ m1 (by omega), e0] at st1
  have A2 : ∃ h2, rn m_X3_build 29 [.ref A, .ref P, .int (mI lost), am_J, am_J, am_J] [] h1 = rn m_X3_build 58 [.ref A, .ref P, .int (mI lost), am_J, am_J, am_J] [] h2 ∧ Md (fun c _ => c = A + 5) h1 h2 ∧ (kd = 98 → isH h2 (A + 4) f2 ∧ pixels f2) := by
    by_cases c : kd = 98
    · rw [if_pos (fun g => g c)] at st1
      obtain ⟨⟨a1, a2⟩, a3, a4⟩ := r2 c
      have e2 : fZ h1 P 2 = fZ h P 2 := md_fZ m1 (by omega)
      have e13 : gZ h1 (A + 13) = gZ h (A + 13) := md_Z m1 (by omega)
      obtain ⟨h2, s2, m2, i2⟩ := take_ok (h := h1) (a := A + 4) (b := A + 13) (f := 256 * fZ h1 P 2) (K1_k1 (K3_k0 (K3_sm m1.1 kA))) (K3_s8 (K3_sm m1.1 kA)) (K3_n8 (K3_sm m1.1 kA)) (by omega) (by omega) (by omega) (by rw [e2, e13, ← a4]; exact a3)
      rw [s2, cl_n] at st1
      rw [e2, e13, ← a4] at i2
      exact ⟨h2, st1, m2, fun _ => ⟨i2, a3⟩⟩
    · rw [if_neg (fun g => g c)] at st1
      exact ⟨h1, st1, Md_rf _ _, fun g => absurd g c⟩
  obtain ⟨h2, s2, m2, i2⟩ := A2
  have m12 : Md (SDB A) h h2 := Md_tr (Md_mono m1 fun c k g => by unfold SDB; omega) (Md_mono m2 fun c k g => by unfold SDB; omega)
  have ro2 : refOk h2 (A + 1) kd f1 f2 := ⟨fun c => ⟨isH_md m2 (by omega) (i1 c).1, (i1 c).2⟩, i2⟩
  rw [s1, s2, b_X3_build_58]
  have nS : ∀ c k, P ≤ c → c ≤ P + 8 → ¬ SDB A c k := fun c k c0 c1 g => by unfold SDB at g; omega
  obtain ⟨pd, epd⟩ : ∃ pd, pd = pdh h P := ⟨_, rfl⟩
  obtain ⟨s0, es0⟩ : ∃ s0, s0 = gZ h (A + 12) := ⟨_, rfl⟩
  rw [← epd] at w
  rw [← epd, ← es0]
  rw [← es0] at hs
  have fm : ∀ {h'}, Md (SDB A) h h' → K3 h' A ∧ K6 h' P ∧ fZ h' P 0 = kd ∧ fZ h' P 3 = q ∧ fZ h' P 4 = tl ∧ fZ h' P 5 = sl ∧ (∀ n, n < 5 → pdh h' P n = pd n) ∧ gZ h' (A + 12) = s0 := fun md => by
    refine ⟨K3_sm md.1 kA, K6_sm md.1 kP, (md_fZ md (nS _ _ (by omega) (by omega))).trans e0, (md_fZ md (nS _ _ (by omega) (by omega))).trans e3, (md_fZ md (nS _ _ (by omega) (by omega))).trans e4, (md_fZ md (nS _ _ (by omega) (by omega))).trans e5, fun n hn => ?_, ?_⟩
    · rw [epd]
      exact md_Z md (nS _ _ (by omega) (by omega))
    · rw [es0]
      exact md_Z md (fun g => by unfold SDB at g; omega)
  let I : Int → (Value × Value) → am_H → Prop := fun i _ h' => 0 ≤ i ∧ Md (SDB A) h h' ∧ pixels (gZ h' (A + 11)) ∧ (∀ s, 0 ≤ s → s < i → Dcd pd f1 f2 s0 sl q lost (gZ h' (A + 11)) s) ∧ refOk h' (A + 1) kd f1 f2 ∧ (i % 4 ≠ 0 → ¬ lostAt lost sl i → ¬ pd 0 i = 4 → ∀ s, i ≤ s → s < 4 * (i / 4) + 4 → RdD h' A pd f1 f2 sl s)
  -- a square that is there, once it is guessed
  have tail : ∀ (i : Int) (h3 : am_H) (v5 : Value), 0 ≤ i → i < 16 → Md (SDB A) h h3 → pixels (gZ h3 (A + 11)) → (∀ s, 0 ≤ s → s < i → Dcd pd f1 f2 s0 sl q lost (gZ h3 (A + 11)) s) → refOk h3 (A + 1) kd f1 f2 → ¬ lostAt lost sl i → (∀ s, i ≤ s → s < (if pd 0 i = 4 then i + 1 else 4 * (i / 4) + 4) → RdD h3 A pd f1 f2 sl s) → ∃ (s' : Value × Value) (h' : am_H), rn m_X3_build 158 [.ref A, .ref P, .int (mI lost), .int (mI i), .int (mI (16 * cy i + cx i)), v5] [] h3 = rn m_X3_build 60 [.ref A, .ref P, .int (mI lost), .int (mI (i + 1)), s'.1, s'.2] [] h' ∧ I (i + 1) s' h' := by
    intro i h3 v5 i0 i16 md hp3 dc ro nl rd
    obtain ⟨k3, k6, f0, f3, f4, f5, fp, fs⟩ := fm md
    have wi := w i i0 i16
    have rdi := rd i (by omega) (by split <;> omega)
    have nb := nmo_b hk
    have gb := fun k (hk : 0 ≤ k ∧ k < 16) => Gq_b (pd := pd) (f1 := f1) (f2 := f2) (sl := sl) (s := i) hp3 (fun g => (ro.1 (nb.2.1 (by have := wi.2.2.2.1; omega))).2) (fun g => (ro.2 (nb.2.2 (by have := wi.2.2.2.1; omega))).2) (by have := wi.2.2.2.1; omega) ⟨i0, i16⟩ hk
    obtain ⟨h4, e4', m4, p4, ag, bu, rs⟩ := dsq_ok (pd := pd) (f1 := f1) (f2 := f2) (sl := sl) (q := q) (i := i) k3 k6 nP (fp 4 (by decide)) f3 ⟨i0, i16⟩ hp3 (fun k k0 k1 => by rw [rdi k k0 k1]; exact gb k ⟨k0, k1⟩) wi.2.2.2.2.2.2 rdi
    have st3 := b_X3_build_158 (a0 := A) (a1 := P) (x2 := lost) (x3 := i) (x4 := 16 * cy i + cx i) (v5 := v5) (h := h3) k3
    rw [e4', cl_n, b_X3_build_172] at st3
    have m4' : Md (SDB A) h3 h4 := Md_mono m4 fun c k g => by unfold SDB; omega
    refine ⟨(_, _), h4, st3, by omega, Md_tr md m4', p4, fun s s0' s1 => ?_, refOk_md m4 (by omega) (by omega) ro, fun q1 q2 q3 s s0' s1 => ?_⟩
    · by_cases e : s = i
      · subst e
        exact ⟨fun l => absurd l nl, fun _ => bu⟩
      · exact Dcd_agr ag ⟨s0', by omega⟩ (by omega) (dc s s0' (by omega))
    · have w1 := w (i + 1) (by omega) (by omega)
      have e4 : 4 * ((i + 1) / 4) = 4 * (i / 4) := by omega
      have z1 : pd 0 i = pd 0 (i + 1) := by rw [wi.2.1, w1.2.1, e4]
      have ws := w s (by omega) (by omega)
      have z2 : ¬ pd 0 s = 4 := by rw [ws.2.1, show 4 * (s / 4) = 4 * ((i + 1) / 4) by omega, ← w1.2.1]; exact q3
      have rdd := rd s (by omega) (by rw [if_neg (by rw [z1]; exact q3)]; omega)
      refine rs s (by omega) (by omega) ?_ rdd
      rw [start8 ⟨by omega, by omega⟩ z2]
      omega
  refine lp (m := m_X3_build) (pc := 60) (L := fun i (x : Value × Value) => [.ref A, .ref P, .int (mI lost), .int (mI i), x.1, x.2]) (N := 16) (P := fun r => ∃ (h' : am_H) (p : Int → Int), r = some (.inl none, h') ∧ Md (SDB A) h h' ∧ pixels p ∧ (∀ s, 0 ≤ s → s < 16 → Dcd pd f1 f2 s0 sl q lost p s) ∧ gZ h' (A + 11) = smo q tl sl p) I ?_ ?_ 0 (am_J, am_J) h2 (by omega) ⟨by omega, m12, by rw [md_Z m2 (by omega), md_Z m1 (by omega)]; exact hp, fun s _ _ => by omega, ro2, fun g => absurd rfl g⟩
  · intro i x h' hi ⟨i0, md, hp', dc, ro, rd⟩
    obtain ⟨x4, x5⟩ := x
    obtain ⟨k3, k6, f0, f3, f4, f5, fp, fs⟩ := fm md
    have s01 := slo_01 sl i
    have cxb := cx_b i
    have cyb := cy_b i
    have pw := pw_b hl.1 (slo sl i).toNat
    have stb := b_X3_build_60 (a0 := A) (a1 := P) (k_88 := (slo sl i).toNat) (v4 := x4) (v5 := x5) (h := h') (wr_id (z := lost) (by omega) (by omega)) (wr_id (z := i) (by omega) (by omega)) k3 (fun _ => ⟨i0, hi⟩) k6 (fun _ => by rw [f5, slo_eq]; omega) (fun _ => by omega)
    have lc : (¬ ((wr (lost / 2 ^ (slo sl i).toNat)) % 2 ^ 1) = 0) ↔ lostAt lost sl i := by
      rw [wr_id (by omega) (by omega), show (2 : Int) ^ 1 = 2 by decide]
      unfold lostAt
      omega
    rw [if_neg (by omega)] at stb
    have wi := w i i0 hi
    by_cases l : lostAt lost sl i
    · rw [if_pos (lc.mpr l)] at stb
      obtain ⟨h3, e3', m3, c1, c2⟩ := conceal_ok (f := 16 * cy i + cx i) k3 (by omega)
      rw [e3', cl_n, b_X3_build_112, b_X3_build_172] at stb
      have px : ∀ t k, 0 ≤ t → t < 16 → t ≠ i → 0 ≤ k → k < 16 → gZ h3 (A + 11) (pl t k) = gZ h' (A + 11) (pl t k) := fun t k t0 t1 ti k0 k1 => c2 _ fun j j0 j1 e => ti (pl_inj ⟨t0, t1⟩ ⟨i0, hi⟩ ⟨k0, k1⟩ ⟨j0, j1⟩ e).1
      have cc : ∀ k, 0 ≤ k → k < 16 → gZ h3 (A + 11) (pl i k) = s0 (pl i k) := fun k k0 k1 => by
        rw [← fs]
        exact c1 k k0 k1
      have ag : agr i pd pd (gZ h' (A + 11)) (gZ h3 (A + 11)) := fun t t0 t1 => ⟨⟨rfl, rfl, rfl, rfl⟩, fun k k0 k1 => ⟨rfl, (px t k t0 (by omega) (by omega) k0 k1).symm⟩⟩
      refine ⟨(_, _), h3, stb, by omega, Md_tr md (Md_mono m3 fun c k g => by unfold SDB; omega), pix_sq hp' (fun k k0 k1 => by rw [cc k k0 k1]; exact hs _ (pl_b i k).1 (pl_b i k).2) px, fun s s0' s1 => ?_, refOk_md m3 (by omega) (by omega) ro, fun q1 q2 => ?_⟩
      · by_cases e : s = i
        · subst e
          exact ⟨fun _ => cc, fun nl => absurd l nl⟩
        · exact Dcd_agr ag ⟨s0', by omega⟩ (by omega) (dc s s0' (by omega))
      · exfalso
        apply q2
        have : slo sl (i + 1) = slo sl i := by
          have : 8 ≤ cy (i + 1) ↔ 8 ≤ cy i := by unfold cy; omega
          unfold slo
          simp only [this]
        unfold lostAt at *
        rw [this]
        exact l
    · rw [if_neg (fun g => l (lc.mp g))] at stb
      have ez : gZ h' (P + 3) i = pd 0 i := congrFun (fp 0 (by decide)) i
      rw [ez] at stb
      by_cases c : i % 4 = 0 ∨ pd 0 i = 4
      · rw [if_pos c] at stb
        obtain ⟨h3, e3', m3, p0, p1, p2, p3, p4, p5, p6⟩ := recall_ok (P := A + 10) (wr_id (z := i) (by omega) (by omega)) k6 (K3_k1 k3) ⟨i0, hi⟩
        rw [fp 0 (by decide)] at p2
        rw [fp 1 (by decide)] at p4
        rw [fp 2 (by decide)] at p5
        rw [fp 3 (by decide)] at p6
        rw [f5] at p3
        rw [e3', cl_n] at stb
        have m3' : Md (SDB A) h' h3 := Md_mono m3 fun c k g => by unfold SDB; omega
        have k33 := K3_sm m3.1 k3
        have pa : partAt h3 (A + 10) (cx i) (cy i) (SZ (pd 0) i) (tp sl (cy i)) := ⟨p0, p1, p2, p3⟩
        have li := lies_s (z := pd 0) (s := i) (sl := sl)
        rw [(st_xy c).1, (st_xy c).2] at li
        have ip := (lies_part li (tp_b _ _).2).1
        have g3 : gZ h3 (A + 11) = gZ h' (A + 11) := md_Z m3 (by omega)
        obtain ⟨h4, e4', m4, bo⟩ := takeBorder_ok (B := A + 1) (P := A + 10) (a := A + 11) (K3_k0 k33) (K3_k1 k33) (K3_s2 k33) (K3_n2 k33) (by decide) (by omega) (by omega) (by rw [g3]; exact hp') pa ip
        rw [g3] at bo
        have m4' : Md (SDB A) h3 h4 := Md_mono m4 fun c k g => by unfold SBo at g; unfold SDB; omega
        have np : ∀ k, ¬ SBo (A + 1) (A + 10) k := fun k q => by unfold SBo at q; omega
        have k34 := K3_sm m4.1 k33
        have ro4 : refOk h4 (A + 1) kd f1 f2 := refOk_md m4 (by unfold SBo; omega) (by unfold SBo; omega) (refOk_md m3 (by omega) (by omega) ro)
        have mo := modeOk_used (X := cx i) (Y := cy i) (Z := SZ (pd 0) i) (T := tp sl (cy i)) hk wi hp' bo ro4
        obtain ⟨h5, e5', m5, gg⟩ := guessPart_ok (K3_k0 k34) (K3_k1 k34) (partAt_md m4 (fun k _ => np k) pa) ip ((md_fZ m4 (np _)).trans p4) ((md_fZ m4 (np _)).trans p5) ((md_fZ m4 (np _)).trans p6) mo
        have m5' : Md (SDB A) h4 h5 := Md_mono m5 fun c k g => by unfold SDB; omega
        have md5 : Md (SDB A) h h5 := Md_tr md (Md_tr m3' (Md_tr m4' m5'))
        rw [b_X3_build_132 k33, e4', cl_n, b_X3_build_147 k34, e5', cl_n] at stb
        have w5 : gZ h5 (A + 11) = gZ h' (A + 11) := (md_Z m5 (by omega)).trans ((md_Z m4 (by unfold SBo; omega)).trans g3)
        obtain ⟨s', h6, e6, i6⟩ := tail i h5 (.int (mI (bZ (¬ ((wr (lost / 2 ^ (slo sl i).toNat)) % 2 ^ 1) = 0)))) i0 hi md5 (by rw [w5]; exact hp') (by rw [w5]; exact dc) (refOk_md m5 (by omega) (by omega) ro4) l (fun s s0' s1 k k0 k1 => by
          have s16 : s < 16 := by split at s1 <;> omega
          have xy := pl_xy2 (s := s) (k := k) ⟨by omega, s16⟩ ⟨k0, k1⟩
          rw [w5, Gq_part w ⟨i0, hi⟩ c s0' s1, xy.1]
          have inp := in_part (z := pd 0) (s := s) (k := k) ⟨by omega, s16⟩ ⟨k0, k1⟩
          have same : X0 (pd 0) s = cx i ∧ Y0 (pd 0) s = cy i ∧ SZ (pd 0) s = SZ (pd 0) i := by
            by_cases c4 : pd 0 i = 4
            · rw [if_pos c4] at s1
              have e : s = i := by omega
              rw [e]
              exact ⟨(st_xy c).1, (st_xy c).2, rfl⟩
            · rw [if_neg c4] at s1
              have i4 : i % 4 = 0 := by omega
              have ws := w s (by omega) s16
              have e0 : pd 0 s = pd 0 i := by rw [ws.2.1, show 4 * (s / 4) = i by omega]
              refine ⟨?_, ?_, by unfold SZ; rw [e0]⟩
              · rw [← (st_xy (z := pd 0) c).1]
                unfold X0
                rw [if_neg (by rw [e0]; exact c4), if_neg c4, show s / 4 = i / 4 by omega]
              · rw [← (st_xy (z := pd 0) c).2]
                unfold Y0
                rw [if_neg (by rw [e0]; exact c4), if_neg c4, show s / 8 = i / 8 by omega]
          rw [same.1, same.2.1, same.2.2] at inp
          exact gg _ _ inp.1.1 inp.1.2 inp.2.1 inp.2.2)
        exact ⟨s', h6, stb.trans e6, i6⟩
      · rw [if_neg c] at stb
        obtain ⟨s', h6, e6, i6⟩ := tail i h' (.int (mI (bZ (¬ ((wr (lost / 2 ^ (slo sl i).toNat)) % 2 ^ 1) = 0)))) i0 hi md hp' dc ro l (fun s s0' s1 => rd (fun g => c (Or.inl g)) l (fun g => c (Or.inr g)) s s0' (by rw [if_neg (fun g => c (Or.inr g))] at s1; exact s1))
        exact ⟨s', h6, stb.trans e6, i6⟩
  · intro x h' ⟨i0, md, hp', dc, ro, rd⟩
    obtain ⟨x4, x5⟩ := x
    obtain ⟨k3, k6, f0, f3, f4, f5, fp, fs⟩ := fm md
    have stb := b_X3_build_60 (a0 := A) (a1 := P) (k_88 := 0) (v4 := x4) (v5 := x5) (h := h') (wr_id (z := lost) (by omega) (by omega)) (wr_id (z := 16) (by omega) (by omega)) k3 (fun g => absurd (by omega) g) k6 (fun g => absurd (by omega) g) (fun g => absurd (by omega) g)
    rw [if_pos (by omega)] at stb
    obtain ⟨h3, e3', m3, g3⟩ := smooth_ok (v := am_J) (a := A + 11) k6 (K3_s2 k3) (K3_n2 k3) (by decide) (by omega) hp' f3 f4 f5 hq hsl (A + 1)
    rw [e3', cl_n, b_X3_build_190] at stb
    exact ⟨h3, gZ h' (A + 11), stb, Md_tr md (Md_mono m3 fun c k g => by unfold SDB; omega), hp', dc, g3⟩
