/-! ===== the law paints ===== -/
theorem va2 {h : am_H} {x0 x1 : Int} (w0 : wr x0 = x0) (w1 : wr x1 = x1) : (gn (uZ (uZ (aI 0 2 h) (hnx h) 0 x0) (hnx h) 1 x1) (hnx h) = 2 ∧ sh (uZ (uZ (aI 0 2 h) (hnx h) 0 x0) (hnx h) 1 x1) (hnx h) = (1, 0) ∧ gZ (uZ (uZ (aI 0 2 h) (hnx h) 0 x0) (hnx h) 1 x1) (hnx h) 0 = x0 ∧ gZ (uZ (uZ (aI 0 2 h) (hnx h) 0 x0) (hnx h) 1 x1) (hnx h) 1 = x1) ∧ Fr (fun _ _ => False) 1 2 h (uZ (uZ (aI 0 2 h) (hnx h) 0 x0) (hnx h) 1 x1) := by
  have s0 : sh (aI 0 2 h) (hnx h) = (1, 0) := sh_aI (by decide)
  generalize hA : hnx h = A at *
  have s1 : sh (uZ (aI 0 2 h) A 0 x0) A = (1, 0) := (sh_uZ _ _ _ _ _).trans s0
  have m := Md_tr (Md_uZ (aI 0 2 h) A 0 x0) (Md_uZ _ A 1 x1)
  refine ⟨⟨?_, (sh_uZ _ _ _ _ _).trans s1, ?_, ?_⟩, fr_new (by rw [hA]; exact m)⟩
  · rw [gn_uZ, gn_uZ, ← hA, gn_aI]
  · rw [gZ_uZ' (sh1 s1), if_neg (by decide), gZ_uZ' (sh1 s0), if_pos rfl, w0]
  · rw [gZ_uZ' (sh1 s1), if_pos rfl, w1]
theorem va3 {h : am_H} {x0 x1 x2 : Int} (w0 : wr x0 = x0) (w1 : wr x1 = x1) (w2 : wr x2 = x2) : (gn (uZ (uZ (uZ (aI 0 3 h) (hnx h) 0 x0) (hnx h) 1 x1) (hnx h) 2 x2) (hnx h) = 3 ∧ sh (uZ (uZ (uZ (aI 0 3 h) (hnx h) 0 x0) (hnx h) 1 x1) (hnx h) 2 x2) (hnx h) = (1, 0) ∧ gZ (uZ (uZ (uZ (aI 0 3 h) (hnx h) 0 x0) (hnx h) 1 x1) (hnx h) 2 x2) (hnx h) 0 = x0 ∧ gZ (uZ (uZ (uZ (aI 0 3 h) (hnx h) 0 x0) (hnx h) 1 x1) (hnx h) 2 x2) (hnx h) 1 = x1 ∧ gZ (uZ (uZ (uZ (aI 0 3 h) (hnx h) 0 x0) (hnx h) 1 x1) (hnx h) 2 x2) (hnx h) 2 = x2) ∧ Fr (fun _ _ => False) 1 3 h (uZ (uZ (uZ (aI 0 3 h) (hnx h) 0 x0) (hnx h) 1 x1) (hnx h) 2 x2) := by
  have s0 : sh (aI 0 3 h) (hnx h) = (1, 0) := sh_aI (by decide)
  generalize hA : hnx h = A at *
  have s1 : sh (uZ (aI 0 3 h) A 0 x0) A = (1, 0) := (sh_uZ _ _ _ _ _).trans s0
  have s2 : sh (uZ (uZ (aI 0 3 h) A 0 x0) A 1 x1) A = (1, 0) := (sh_uZ _ _ _ _ _).trans s1
  have m := Md_tr (Md_tr (Md_uZ (aI 0 3 h) A 0 x0) (Md_uZ _ A 1 x1)) (Md_uZ _ A 2 x2)
  refine ⟨⟨?_, (sh_uZ _ _ _ _ _).trans s2, ?_, ?_, ?_⟩, fr_new (by rw [hA]; exact m)⟩
  · rw [gn_uZ, gn_uZ, gn_uZ, ← hA, gn_aI]
  · rw [gZ_uZ' (sh1 s2), if_neg (by decide), gZ_uZ' (sh1 s1), if_neg (by decide), gZ_uZ' (sh1 s0), if_pos rfl, w0]
  · rw [gZ_uZ' (sh1 s2), if_neg (by decide), gZ_uZ' (sh1 s1), if_pos rfl, w1]
  · rw [gZ_uZ' (sh1 s2), if_pos rfl, w2]
def v5 (h : am_H) (x0 x1 x2 x3 x4 : Int) : am_H := uZ (uZ (uZ (uZ (uZ (aI 0 5 h) (hnx h) 0 x0) (hnx h) 1 x1) (hnx h) 2 x2) (hnx h) 3 x3) (hnx h) 4 x4
theorem va5 {h : am_H} {x0 x1 x2 x3 x4 : Int} (w0 : wr x0 = x0) (w1 : wr x1 = x1) (w2 : wr x2 = x2) (w3 : wr x3 = x3) (w4 : wr x4 = x4) : (gn (v5 h x0 x1 x2 x3 x4) (hnx h) = 5 ∧ sh (v5 h x0 x1 x2 x3 x4) (hnx h) = (1, 0) ∧ gZ (v5 h x0 x1 x2 x3 x4) (hnx h) 0 = x0 ∧ gZ (v5 h x0 x1 x2 x3 x4) (hnx h) 1 = x1 ∧ gZ (v5 h x0 x1 x2 x3 x4) (hnx h) 2 = x2 ∧ gZ (v5 h x0 x1 x2 x3 x4) (hnx h) 3 = x3 ∧ gZ (v5 h x0 x1 x2 x3 x4) (hnx h) 4 = x4) ∧ Fr (fun _ _ => False) 1 5 h (v5 h x0 x1 x2 x3 x4) := by
  have s0 : sh (aI 0 5 h) (hnx h) = (1, 0) := sh_aI (by decide)
  unfold v5
  generalize hA : hnx h = A at *
  have s1 : sh (uZ (aI 0 5 h) A 0 x0) A = (1, 0) := (sh_uZ _ _ _ _ _).trans s0
  have s2 : sh (uZ (uZ (aI 0 5 h) A 0 x0) A 1 x1) A = (1, 0) := (sh_uZ _ _ _ _ _).trans s1
  have s3 : sh (uZ (uZ (uZ (aI 0 5 h) A 0 x0) A 1 x1) A 2 x2) A = (1, 0) := (sh_uZ _ _ _ _ _).trans s2
  have s4 : sh (uZ (uZ (uZ (uZ (aI 0 5 h) A 0 x0) A 1 x1) A 2 x2) A 3 x3) A = (1, 0) := (sh_uZ _ _ _ _ _).trans s3
  have m := Md_tr (Md_tr (Md_tr (Md_tr (Md_uZ (aI 0 5 h) A 0 x0) (Md_uZ _ A 1 x1)) (Md_uZ _ A 2 x2)) (Md_uZ _ A 3 x3)) (Md_uZ _ A 4 x4)
  refine ⟨⟨?_, (sh_uZ _ _ _ _ _).trans s4, ?_, ?_, ?_, ?_, ?_⟩, fr_new (by rw [hA]; exact m)⟩
  · rw [gn_uZ, gn_uZ, gn_uZ, gn_uZ, gn_uZ, ← hA, gn_aI]
  · rw [gZ_uZ' (sh1 s4), if_neg (by decide), gZ_uZ' (sh1 s3), if_neg (by decide), gZ_uZ' (sh1 s2), if_neg (by decide), gZ_uZ' (sh1 s1), if_neg (by decide), gZ_uZ' (sh1 s0), if_pos rfl, w0]
  · rw [gZ_uZ' (sh1 s4), if_neg (by decide), gZ_uZ' (sh1 s3), if_neg (by decide), gZ_uZ' (sh1 s2), if_neg (by decide), gZ_uZ' (sh1 s1), if_pos rfl, w1]
  · rw [gZ_uZ' (sh1 s4), if_neg (by decide), gZ_uZ' (sh1 s3), if_neg (by decide), gZ_uZ' (sh1 s2), if_pos rfl, w2]
  · rw [gZ_uZ' (sh1 s4), if_neg (by decide), gZ_uZ' (sh1 s3), if_pos rfl, w3]
  · rw [gZ_uZ' (sh1 s4), if_pos rfl, w4]
theorem i_L_paints_0 : am_i m_L_paints 0 = some (0, .iload_n 1, 1, [], 0) := (lk_pts_0).trans rfl
theorem i_L_paints_1 : am_i m_L_paints 1 = some (1, .iconst 4, 1, [], 4) := (lk_pts_0).trans rfl
theorem i_L_paints_2 : am_i m_L_paints 2 = some (2, .idiv, 1, [], 0) := (lk_pts_0).trans rfl
theorem i_L_paints_3 : am_i m_L_paints 3 = some (3, .istore_n 3, 1, [], 0) := (lk_pts_0).trans rfl
theorem i_L_paints_4 : am_i m_L_paints 4 = some (4, .aload_n 2, 1, [], 0) := (lk_pts_0).trans rfl
theorem i_L_paints_5 : am_i m_L_paints 5 = some (5, .invokevirtual 140, 3, [], 0) := (lk_pts_0).trans rfl
theorem b_L_paints_0 {a0 a2 : Nat} {x1 x1' : Int} {h : am_H} (w1 : wr x1 = x1') (s1 : sh h a2 = (1, 0)) : rn m_L_paints 0 [.ref a0, .int (mI x1), .ref a2, am_J, am_J, am_J, am_J, am_J, am_J, am_J, am_J, am_J, am_J, am_J, am_J, am_J, am_J, am_J, am_J, am_J, am_J] [] h = rn m_L_paints 8 [.ref a0, .int (mI x1), .ref a2, .int (mI (Int.tdiv x1' 4)), am_J, am_J, am_J, am_J, am_J, am_J, am_J, am_J, am_J, am_J, am_J, am_J, am_J, am_J, am_J, am_J, am_J] [.ref (hnx h)] (aC a2 h) := by
  refine (tq_iload_n i_L_paints_0 rfl rfl).trans ?_
  refine (tq_iconst i_L_paints_1 rfl).trans ?_
  refine (tq_idiv i_L_paints_2 w1 w_4 (by decide) rfl).trans ?_
  refine (tq_istore_n (L' := [.ref a0, .int (mI x1), .ref a2, .int (mI (Int.tdiv x1' 4)), am_J, am_J, am_J, am_J, am_J, am_J, am_J, am_J, am_J, am_J, am_J, am_J, am_J, am_J, am_J, am_J, am_J]) i_L_paints_3 rfl rfl).trans ?_
  refine (tq_aload_n i_L_paints_4 rfl (isA_ref _) rfl).trans ?_
  exact tq_clone i_L_paints_5 s1 (Nat.le_of_ble_eq_true rfl) rfl
theorem i_L_paints_8 : am_i m_L_paints 8 = some (8, .checkcast 141, 3, [], 0) := (lk_pts_0).trans rfl
theorem i_L_paints_11 : am_i m_L_paints 11 = some (11, .astore 4, 2, [], 0) := (lk_pts_0).trans rfl
theorem i_L_paints_13 : am_i m_L_paints 13 = some (13, .iconst 0, 1, [], 0) := (lk_pts_0).trans rfl
theorem i_L_paints_14 : am_i m_L_paints 14 = some (14, .istore 5, 2, [], 0) := (lk_pts_0).trans rfl
theorem i_L_paints_16 : am_i m_L_paints 16 = some (16, .iload_n 1, 1, [], 0) := (lk_pts_0).trans rfl
theorem i_L_paints_17 : am_i m_L_paints 17 = some (17, .iconst 4, 1, [], 4) := (lk_pts_0).trans rfl
theorem i_L_paints_18 : am_i m_L_paints 18 = some (18, .irem, 1, [], 0) := (lk_pts_0).trans rfl
theorem i_L_paints_19 : am_i m_L_paints 19 = some (19, .tableswitch 363 0 2 #[25, 148, 251], 25, [], 0) := (lk_pts_0).trans rfl
theorem b_L_paints_8 {a0 a2 as0 : Nat} {x1 x3 x1' : Int} {v4 v5 v6 v7 v8 v9 v10 v11 v12 v13 v14 v15 v16 v17 v18 v19 v20 : Value} {h : am_H} (w1 : wr x1 = x1') (s1 : sh h as0 = (1, 0)) : rn m_L_paints 8 [.ref a0, .int (mI x1), .ref a2, .int (mI x3), v4, v5, v6, v7, v8, v9, v10, v11, v12, v13, v14, v15, v16, v17, v18, v19, v20] [.ref as0] h = sw (wr (Int.tmod x1' 4)) (fun p => rn m_L_paints p [.ref a0, .int (mI x1), .ref a2, .int (mI x3), .ref as0, .int (mI 0), v6, v7, v8, v9, v10, v11, v12, v13, v14, v15, v16, v17, v18, v19, v20] [] h) 382 0 [44, 167, 270] := by
  refine (tq_checkcast i_L_paints_8 s1 rfl).trans ?_
  refine (tq_astore (L' := [.ref a0, .int (mI x1), .ref a2, .int (mI x3), .ref as0, v5, v6, v7, v8, v9, v10, v11, v12, v13, v14, v15, v16, v17, v18, v19, v20]) i_L_paints_11 (isA_ref _) rfl rfl).trans ?_
  refine (tq_iconst i_L_paints_13 rfl).trans ?_
  refine (tq_istore (L' := [.ref a0, .int (mI x1), .ref a2, .int (mI x3), .ref as0, .int (mI 0), v6, v7, v8, v9, v10, v11, v12, v13, v14, v15, v16, v17, v18, v19, v20]) i_L_paints_14 rfl rfl).trans ?_
  refine (tq_iload_n i_L_paints_16 rfl rfl).trans ?_
  refine (tq_iconst i_L_paints_17 rfl).trans ?_
  refine (tq_irem i_L_paints_18 w1 w_4 (by decide) rfl).trans ?_
  exact tq_switch (dt := 382) (ts := [44, 167, 270]) i_L_paints_19 rfl (by decide) (by decide) (by decide)
theorem i_L_paints_44 : am_i m_L_paints 44 = some (44, .iload_n 3, 1, [], 0) := (lk_pts_0).trans rfl
theorem i_L_paints_45 : am_i m_L_paints 45 = some (45, .sipush 256, 3, [], 256) := (lk_pts_0).trans rfl
theorem i_L_paints_48 : am_i m_L_paints 48 = some (48, .irem, 1, [], 0) := (lk_pts_0).trans rfl
theorem i_L_paints_49 : am_i m_L_paints 49 = some (49, .istore 8, 2, [], 0) := (lk_pts_0).trans rfl
theorem i_L_paints_51 : am_i m_L_paints 51 = some (51, .iload_n 3, 1, [], 0) := (lk_pts_0).trans rfl
theorem i_L_paints_52 : am_i m_L_paints 52 = some (52, .sipush 256, 3, [], 256) := (lk_pts_0).trans rfl
theorem i_L_paints_55 : am_i m_L_paints 55 = some (55, .idiv, 1, [], 0) := (lk_pts_0).trans rfl
theorem i_L_paints_56 : am_i m_L_paints 56 = some (56, .sipush 199, 3, [], 199) := (lk_pts_0).trans rfl
theorem i_L_paints_59 : am_i m_L_paints 59 = some (59, .irem, 1, [], 0) := (lk_pts_0).trans rfl
theorem i_L_paints_60 : am_i m_L_paints 60 = some (60, .bipush 99, 2, [], 99) := (lk_pts_0).trans rfl
theorem i_L_paints_62 : am_i m_L_paints 62 = some (62, .isub, 1, [], 0) := (lk_pts_0).trans rfl
theorem i_L_paints_63 : am_i m_L_paints 63 = some (63, .istore 9, 2, [], 0) := (lk_pts_0).trans rfl
theorem i_L_paints_65 : am_i m_L_paints 65 = some (65, .iload_n 3, 1, [], 0) := (lk_pts_0).trans rfl
theorem i_L_paints_66 : am_i m_L_paints 66 = some (66, .ldc 146, 2, [], 51200) := (lk_pts_0).trans rfl
theorem i_L_paints_68 : am_i m_L_paints 68 = some (68, .idiv, 1, [], 0) := (lk_pts_0).trans rfl
theorem i_L_paints_69 : am_i m_L_paints 69 = some (69, .sipush 199, 3, [], 199) := (lk_pts_0).trans rfl
theorem i_L_paints_72 : am_i m_L_paints 72 = some (72, .irem, 1, [], 0) := (lk_pts_0).trans rfl
theorem i_L_paints_73 : am_i m_L_paints 73 = some (73, .bipush 99, 2, [], 99) := (lk_pts_0).trans rfl
theorem i_L_paints_75 : am_i m_L_paints 75 = some (75, .isub, 1, [], 0) := (lk_pts_0).trans rfl
theorem i_L_paints_76 : am_i m_L_paints 76 = some (76, .istore 10, 2, [], 0) := (lk_pts_0).trans rfl
theorem i_L_paints_78 : am_i m_L_paints 78 = some (78, .aload_n 0, 1, [], 0) := (lk_pts_0).trans rfl
theorem i_L_paints_79 : am_i m_L_paints 79 = some (79, .bipush 115, 2, [], 115) := (lk_pts_0).trans rfl
theorem i_L_paints_81 : am_i m_L_paints 81 = some (81, .iconst 3, 1, [], 3) := (lk_pts_0).trans rfl
theorem i_L_paints_82 : am_i m_L_paints 82 = some (82, .newarray .int, 2, [], 0) := (lk_pts_0).trans rfl
theorem b_L_paints_44 {a0 a2 : Nat} {v1 v4 v5 v6 v7 v8 v9 v10 v11 v12 v13 v14 v15 v16 v17 v18 v19 v20 : Value} {x3 x3' : Int} {h : am_H} (w3 : wr x3 = x3') : rn m_L_paints 44 [.ref a0, v1, .ref a2, .int (mI x3), v4, v5, v6, v7, v8, v9, v10, v11, v12, v13, v14, v15, v16, v17, v18, v19, v20] [] h = rn m_L_paints 84 [.ref a0, v1, .ref a2, .int (mI x3), v4, v5, v6, (am_k1 v7), .int (mI (Int.tmod x3' 256)), .int (mI ((Int.tmod (wr (Int.tdiv x3' 256)) 199) - 99)), .int (mI ((Int.tmod (wr (Int.tdiv x3' 51200)) 199) - 99)), v11, v12, v13, v14, v15, v16, v17, v18, v19, v20] [.ref (hnx h), .int (mI 115), .ref a0] (aI 0 3 h) := by
  refine (tq_iload_n i_L_paints_44 rfl rfl).trans ?_
  refine (tq_sipush i_L_paints_45 rfl).trans ?_
  refine (tq_irem i_L_paints_48 w3 w_256 (by decide) rfl).trans ?_
  refine (tq_istore (L' := [.ref a0, v1, .ref a2, .int (mI x3), v4, v5, v6, (am_k1 v7), .int (mI (Int.tmod x3' 256)), v9, v10, v11, v12, v13, v14, v15, v16, v17, v18, v19, v20]) i_L_paints_49 rfl rfl).trans ?_
  refine (tq_iload_n i_L_paints_51 rfl rfl).trans ?_
  refine (tq_sipush i_L_paints_52 rfl).trans ?_
  refine (tq_idiv i_L_paints_55 w3 w_256 (by decide) rfl).trans ?_
  refine (tq_sipush i_L_paints_56 rfl).trans ?_
  refine (tq_irem i_L_paints_59 rfl w_199 (by decide) rfl).trans ?_
  refine (tq_bipush i_L_paints_60 rfl).trans ?_
  refine (tq_isub i_L_paints_62 rfl).trans ?_
  refine (tq_istore (L' := [.ref a0, v1, .ref a2, .int (mI x3), v4, v5, v6, (am_k1 v7), .int (mI (Int.tmod x3' 256)), .int (mI ((Int.tmod (wr (Int.tdiv x3' 256)) 199) - 99)), v10, v11, v12, v13, v14, v15, v16, v17, v18, v19, v20]) i_L_paints_63 rfl rfl).trans ?_
  refine (tq_iload_n i_L_paints_65 rfl rfl).trans ?_
  refine (tq_ldc i_L_paints_66 rfl).trans ?_
  refine (tq_idiv i_L_paints_68 w3 w_51200 (by decide) rfl).trans ?_
  refine (tq_sipush i_L_paints_69 rfl).trans ?_
  refine (tq_irem i_L_paints_72 rfl w_199 (by decide) rfl).trans ?_
  refine (tq_bipush i_L_paints_73 rfl).trans ?_
  refine (tq_isub i_L_paints_75 rfl).trans ?_
  refine (tq_istore (L' := [.ref a0, v1, .ref a2, .int (mI x3), v4, v5, v6, (am_k1 v7), .int (mI (Int.tmod x3' 256)), .int (mI ((Int.tmod (wr (Int.tdiv x3' 256)) 199) - 99)), .int (mI ((Int.tmod (wr (Int.tdiv x3' 51200)) 199) - 99)), v11, v12, v13, v14, v15, v16, v17, v18, v19, v20]) i_L_paints_76 rfl rfl).trans ?_
  refine (tq_aload_n i_L_paints_78 rfl (isA_ref _) rfl).trans ?_
  refine (tq_bipush i_L_paints_79 rfl).trans ?_
  refine (tq_iconst i_L_paints_81 rfl).trans ?_
  exact tq_newI (n := 3) (t := 0) i_L_paints_82 w_3 (by decide) rfl (by decide) rfl rfl
theorem i_L_paints_84 : am_i m_L_paints 84 = some (84, .dup, 1, [], 0) := (lk_pts_0).trans rfl
theorem i_L_paints_85 : am_i m_L_paints 85 = some (85, .iconst 0, 1, [], 0) := (lk_pts_0).trans rfl
theorem i_L_paints_86 : am_i m_L_paints 86 = some (86, .iload 8, 2, [], 0) := (lk_pts_0).trans rfl
theorem i_L_paints_88 : am_i m_L_paints 88 = some (88, .iastore, 1, [], 0) := (lk_pts_0).trans rfl
theorem i_L_paints_89 : am_i m_L_paints 89 = some (89, .dup, 1, [], 0) := (lk_pts_0).trans rfl
theorem i_L_paints_90 : am_i m_L_paints 90 = some (90, .iconst 1, 1, [], 1) := (lk_pts_0).trans rfl
theorem i_L_paints_91 : am_i m_L_paints 91 = some (91, .iload 9, 2, [], 0) := (lk_pts_0).trans rfl
theorem i_L_paints_93 : am_i m_L_paints 93 = some (93, .iastore, 1, [], 0) := (lk_pts_0).trans rfl
theorem i_L_paints_94 : am_i m_L_paints 94 = some (94, .dup, 1, [], 0) := (lk_pts_0).trans rfl
theorem i_L_paints_95 : am_i m_L_paints 95 = some (95, .iconst 2, 1, [], 2) := (lk_pts_0).trans rfl
theorem i_L_paints_96 : am_i m_L_paints 96 = some (96, .iload 10, 2, [], 0) := (lk_pts_0).trans rfl
theorem i_L_paints_98 : am_i m_L_paints 98 = some (98, .iastore, 1, [], 0) := (lk_pts_0).trans rfl
theorem i_L_paints_99 : am_i m_L_paints 99 = some (99, .invokestatic 130, 3, [122], 0) := (lk_pts_0).trans rfl
theorem b_L_paints_84 {a0 a2 as0 as2 n_as0 : Nat} {v1 v3 v4 v5 v6 v7 v11 v12 v13 v14 v15 v16 v17 v18 v19 v20 : Value} {x8 x9 x10 xs1 : Int} {h : am_H} (n1 : gn h as0 = n_as0) (s2 : sh h as0 = (1, 0)) (g3 : (0 : Int) ≤ 0 ∧ 0 < (n_as0 : Int)) (g4 : (0 : Int) ≤ 1 ∧ 1 < (n_as0 : Int)) (g5 : (0 : Int) ≤ 2 ∧ 2 < (n_as0 : Int)) : rn m_L_paints 84 [.ref a0, v1, .ref a2, v3, v4, v5, v6, v7, .int (mI x8), .int (mI x9), .int (mI x10), v11, v12, v13, v14, v15, v16, v17, v18, v19, v20] [.ref as0, .int (mI xs1), .ref as2] h = cl m_L_paints 102 [.ref a0, v1, .ref a2, v3, v4, v5, v6, v7, .int (mI x8), .int (mI x9), .int (mI x10), v11, v12, v13, v14, v15, v16, v17, v18, v19, v20] [] (rn m_L_paint 0 [.ref as2, .int (mI xs1), .ref as0, am_J] [] (uZ (uZ (uZ h as0 0 x8) as0 1 x9) as0 2 x10)) := by
  refine (tq_dup i_L_paints_84 rfl rfl).trans ?_
  refine (tq_iconst i_L_paints_85 rfl).trans ?_
  refine (tq_iload i_L_paints_86 rfl rfl).trans ?_
  refine (tq_iastore i_L_paints_88 s2 w_0 g3.1 (lt_gn n1 g3.2) rfl).trans ?_
  refine (tq_dup i_L_paints_89 rfl rfl).trans ?_
  refine (tq_iconst i_L_paints_90 rfl).trans ?_
  refine (tq_iload i_L_paints_91 rfl rfl).trans ?_
  refine (tq_iastore i_L_paints_93 ((sh_uZ _ _ _ _ _).trans s2) w_1 g4.1 (lt_gn ((gn_uZ _ _ _ _ _).trans n1) g4.2) rfl).trans ?_
  refine (tq_dup i_L_paints_94 rfl rfl).trans ?_
  refine (tq_iconst i_L_paints_95 rfl).trans ?_
  refine (tq_iload i_L_paints_96 rfl rfl).trans ?_
  refine (tq_iastore i_L_paints_98 ((sh_uZ _ _ _ _ _).trans ((sh_uZ _ _ _ _ _).trans s2)) w_2 g5.1 (lt_gn ((gn_uZ _ _ _ _ _).trans ((gn_uZ _ _ _ _ _).trans n1)) g5.2) rfl).trans ?_
  exact c_L_paint i_L_paints_99 (ltd d_L_paints (by decide)) (isA_ref _) (isA_ref _) stOk_0 rfl
theorem i_L_paints_102 : am_i m_L_paints 102 = some (102, .istore 6, 2, [], 0) := (lk_pts_0).trans rfl
theorem i_L_paints_104 : am_i m_L_paints 104 = some (104, .iconst 0, 1, [], 0) := (lk_pts_0).trans rfl
theorem i_L_paints_105 : am_i m_L_paints 105 = some (105, .istore 11, 2, [], 0) := (lk_pts_0).trans rfl
theorem b_L_paints_102 {a0 a2 : Nat} {v1 v3 v4 v5 v6 v7 v11 v12 v13 v14 v15 v16 v17 v18 v19 v20 : Value} {x8 x9 x10 xs0 : Int} {h : am_H} : rn m_L_paints 102 [.ref a0, v1, .ref a2, v3, v4, v5, v6, v7, .int (mI x8), .int (mI x9), .int (mI x10), v11, v12, v13, v14, v15, v16, v17, v18, v19, v20] [.int (mI xs0)] h = rn m_L_paints 107 [.ref a0, v1, .ref a2, v3, v4, (am_k1 v5), .int (mI xs0), v7, .int (mI x8), .int (mI x9), .int (mI x10), .int (mI 0), v12, v13, v14, v15, v16, v17, v18, v19, v20] [] h := by
  refine (tq_istore (L' := [.ref a0, v1, .ref a2, v3, v4, (am_k1 v5), .int (mI xs0), v7, .int (mI x8), .int (mI x9), .int (mI x10), v11, v12, v13, v14, v15, v16, v17, v18, v19, v20]) i_L_paints_102 rfl rfl).trans ?_
  refine (tq_iconst i_L_paints_104 rfl).trans ?_
  refine (tq_istore (L' := [.ref a0, v1, .ref a2, v3, v4, (am_k1 v5), .int (mI xs0), v7, .int (mI x8), .int (mI x9), .int (mI x10), .int (mI 0), v12, v13, v14, v15, v16, v17, v18, v19, v20]) i_L_paints_105 rfl rfl).trans ?_
  rfl
theorem i_L_paints_107 : am_i m_L_paints 107 = some (107, .iload 11, 2, [], 0) := (lk_pts_0).trans rfl
theorem i_L_paints_109 : am_i m_L_paints 109 = some (109, .sipush 256, 3, [], 256) := (lk_pts_0).trans rfl
theorem i_L_paints_112 : am_i m_L_paints 112 = some (112, .if_icmp .ge 45, 3, [], 0) := (lk_pts_0).trans rfl
theorem i_L_paints_115 : am_i m_L_paints 115 = some (115, .aload_n 2, 1, [], 0) := (lk_pts_0).trans rfl
theorem i_L_paints_116 : am_i m_L_paints 116 = some (116, .iload 11, 2, [], 0) := (lk_pts_0).trans rfl
theorem i_L_paints_118 : am_i m_L_paints 118 = some (118, .iload 8, 2, [], 0) := (lk_pts_0).trans rfl
theorem i_L_paints_120 : am_i m_L_paints 120 = some (120, .iload 11, 2, [], 0) := (lk_pts_1 (Nat.le_of_ble_eq_true rfl)).trans rfl
theorem i_L_paints_122 : am_i m_L_paints 122 = some (122, .bipush 16, 2, [], 16) := (lk_pts_1 (Nat.le_of_ble_eq_true rfl)).trans rfl
theorem i_L_paints_124 : am_i m_L_paints 124 = some (124, .irem, 1, [], 0) := (lk_pts_1 (Nat.le_of_ble_eq_true rfl)).trans rfl
theorem i_L_paints_125 : am_i m_L_paints 125 = some (125, .iload 9, 2, [], 0) := (lk_pts_1 (Nat.le_of_ble_eq_true rfl)).trans rfl
theorem i_L_paints_127 : am_i m_L_paints 127 = some (127, .imul, 1, [], 0) := (lk_pts_1 (Nat.le_of_ble_eq_true rfl)).trans rfl
theorem i_L_paints_128 : am_i m_L_paints 128 = some (128, .iadd, 1, [], 0) := (lk_pts_1 (Nat.le_of_ble_eq_true rfl)).trans rfl
theorem i_L_paints_129 : am_i m_L_paints 129 = some (129, .iload 11, 2, [], 0) := (lk_pts_1 (Nat.le_of_ble_eq_true rfl)).trans rfl
theorem i_L_paints_131 : am_i m_L_paints 131 = some (131, .bipush 16, 2, [], 16) := (lk_pts_1 (Nat.le_of_ble_eq_true rfl)).trans rfl
theorem i_L_paints_133 : am_i m_L_paints 133 = some (133, .idiv, 1, [], 0) := (lk_pts_1 (Nat.le_of_ble_eq_true rfl)).trans rfl
theorem i_L_paints_134 : am_i m_L_paints 134 = some (134, .iload 10, 2, [], 0) := (lk_pts_1 (Nat.le_of_ble_eq_true rfl)).trans rfl
theorem i_L_paints_136 : am_i m_L_paints 136 = some (136, .imul, 1, [], 0) := (lk_pts_1 (Nat.le_of_ble_eq_true rfl)).trans rfl
theorem i_L_paints_137 : am_i m_L_paints 137 = some (137, .iadd, 1, [], 0) := (lk_pts_1 (Nat.le_of_ble_eq_true rfl)).trans rfl
theorem i_L_paints_138 : am_i m_L_paints 138 = some (138, .sipush 256, 3, [], 256) := (lk_pts_1 (Nat.le_of_ble_eq_true rfl)).trans rfl
theorem i_L_paints_141 : am_i m_L_paints 141 = some (141, .irem, 1, [], 0) := (lk_pts_1 (Nat.le_of_ble_eq_true rfl)).trans rfl
theorem i_L_paints_142 : am_i m_L_paints 142 = some (142, .sipush 256, 3, [], 256) := (lk_pts_1 (Nat.le_of_ble_eq_true rfl)).trans rfl
theorem i_L_paints_145 : am_i m_L_paints 145 = some (145, .iadd, 1, [], 0) := (lk_pts_1 (Nat.le_of_ble_eq_true rfl)).trans rfl
theorem i_L_paints_146 : am_i m_L_paints 146 = some (146, .sipush 256, 3, [], 256) := (lk_pts_1 (Nat.le_of_ble_eq_true rfl)).trans rfl
theorem i_L_paints_149 : am_i m_L_paints 149 = some (149, .irem, 1, [], 0) := (lk_pts_1 (Nat.le_of_ble_eq_true rfl)).trans rfl
theorem i_L_paints_150 : am_i m_L_paints 150 = some (150, .iastore, 1, [], 0) := (lk_pts_1 (Nat.le_of_ble_eq_true rfl)).trans rfl
theorem i_L_paints_151 : am_i m_L_paints 151 = some (151, .iinc 11 1, 3, [], 0) := (lk_pts_1 (Nat.le_of_ble_eq_true rfl)).trans rfl
theorem i_L_paints_154 : am_i m_L_paints 154 = some (154, .goto (-47), 3, [], 0) := (lk_pts_1 (Nat.le_of_ble_eq_true rfl)).trans rfl
theorem i_L_paints_157 : am_i m_L_paints 157 = some (157, .aload_n 2, 1, [], 0) := (lk_pts_1 (Nat.le_of_ble_eq_true rfl)).trans rfl
theorem i_L_paints_158 : am_i m_L_paints 158 = some (158, .sipush 255, 3, [], 255) := (lk_pts_1 (Nat.le_of_ble_eq_true rfl)).trans rfl
theorem i_L_paints_161 : am_i m_L_paints 161 = some (161, .iaload, 1, [], 0) := (lk_pts_1 (Nat.le_of_ble_eq_true rfl)).trans rfl
theorem i_L_paints_162 : am_i m_L_paints 162 = some (162, .istore 7, 2, [], 0) := (lk_pts_1 (Nat.le_of_ble_eq_true rfl)).trans rfl
theorem i_L_paints_164 : am_i m_L_paints 164 = some (164, .goto 379, 3, [], 0) := (lk_pts_1 (Nat.le_of_ble_eq_true rfl)).trans rfl
theorem i_L_paints_543 : am_i m_L_paints 543 = some (543, .iload 6, 2, [], 0) := (lk_pts_5 (Nat.le_of_ble_eq_true rfl)).trans rfl
theorem i_L_paints_545 : am_i m_L_paints 545 = some (545, .iload 7, 2, [], 0) := (lk_pts_5 (Nat.le_of_ble_eq_true rfl)).trans rfl
theorem i_L_paints_547 : am_i m_L_paints 547 = some (547, .if_icmp .ne 15, 3, [], 0) := (lk_pts_5 (Nat.le_of_ble_eq_true rfl)).trans rfl
theorem i_L_paints_550 : am_i m_L_paints 550 = some (550, .aload_n 0, 1, [], 0) := (lk_pts_5 (Nat.le_of_ble_eq_true rfl)).trans rfl
theorem i_L_paints_551 : am_i m_L_paints 551 = some (551, .aload_n 2, 1, [], 0) := (lk_pts_5 (Nat.le_of_ble_eq_true rfl)).trans rfl
theorem i_L_paints_552 : am_i m_L_paints 552 = some (552, .invokestatic 158, 3, [146], 0) := (lk_pts_5 (Nat.le_of_ble_eq_true rfl)).trans rfl
theorem i_L_paints_562 : am_i m_L_paints 562 = some (562, .iconst 0, 1, [], 0) := (lk_pts_5 (Nat.le_of_ble_eq_true rfl)).trans rfl
theorem i_L_paints_563 : am_i m_L_paints 563 = some (563, .ireturn, 1, [], 0) := (lk_pts_5 (Nat.le_of_ble_eq_true rfl)).trans rfl
theorem b_L_paints_107 {a0 a2 n_a2 : Nat} {v1 v3 v4 v5 v7 v12 v13 v14 v15 v16 v17 v18 v19 v20 : Value} {x6 x8 x9 x10 x11 x6' x11' : Int} {h : am_H} (w6 : wr x6 = x6') (w11 : wr x11 = x11') (n1 : gn h a2 = n_a2) (s2 : sh h a2 = (1, 0)) (g3 : (256 ≤ x11') → ((0 : Int) ≤ 255 ∧ 255 < (n_a2 : Int))) (g4 : (¬ (256 ≤ x11')) → (0 ≤ x11' ∧ x11' < (n_a2 : Int))) : rn m_L_paints 107 [.ref a0, v1, .ref a2, v3, v4, v5, .int (mI x6), v7, .int (mI x8), .int (mI x9), .int (mI x10), .int (mI x11), v12, v13, v14, v15, v16, v17, v18, v19, v20] [] h = if 256 ≤ x11' then if ¬ x6' = (gZ h a2 255) then some (.inl (some (.int (mI 0))), h) else cl m_L_paints 555 [.ref a0, v1, .ref a2, v3, v4, v5, .int (mI x6), .int (mI (gZ h a2 255)), .int (mI x8), .int (mI x9), .int (mI x10), .int (mI x11), v12, v13, v14, v15, v16, v17, v18, v19, v20] [] (rn m_L_isLike 0 [.ref a0, .ref a2, am_J] [] h) else rn m_L_paints 107 [.ref a0, v1, .ref a2, v3, v4, v5, .int (mI x6), v7, .int (mI x8), .int (mI x9), .int (mI x10), .int (mI (x11 + 1)), v12, v13, v14, v15, v16, v17, v18, v19, v20] [] (uZ h a2 x11' (Int.tmod (wr ((Int.tmod (wr ((x8 + ((Int.tmod x11' 16) * x9)) + ((Int.tdiv x11' 16) * x10))) 256) + 256)) 256)) := by
  refine (tq_iload i_L_paints_107 rfl rfl).trans ?_
  refine (tq_sipush i_L_paints_109 rfl).trans ?_
  refine (tq_icmp_ge (pt := 157) i_L_paints_112 w11 w_256 (by decide) rfl).trans ?_
  refine ite_congr rfl (fun c1 => ?_) (fun c1 => ?_)
  · refine (tq_aload_n i_L_paints_157 rfl (isA_ref _) rfl).trans ?_
    refine (tq_sipush i_L_paints_158 rfl).trans ?_
    refine (tq_iaload i_L_paints_161 s2 (by decide) w_255 (g3 c1).1 (lt_gn n1 (g3 c1).2) rfl).trans ?_
    refine (tq_istore (L' := [.ref a0, v1, .ref a2, v3, v4, v5, .int (mI x6), .int (mI (gZ h a2 255)), .int (mI x8), .int (mI x9), .int (mI x10), .int (mI x11), v12, v13, v14, v15, v16, v17, v18, v19, v20]) i_L_paints_162 rfl rfl).trans ?_
    refine (tq_goto (pc' := 543) i_L_paints_164 (by decide)).trans ?_
    refine (tq_iload i_L_paints_543 rfl rfl).trans ?_
    refine (tq_iload i_L_paints_545 rfl rfl).trans ?_
    refine (tq_icmp_ne (pt := 562) i_L_paints_547 w6 (wr_gZ _ _ _) (by decide) rfl).trans ?_
    refine ite_congr rfl (fun c2 => ?_) (fun c2 => ?_)
    · refine (tq_iconst i_L_paints_562 rfl).trans ?_
      exact tq_ireturn i_L_paints_563 r_L_paints (okB w_0 (by decide))
    · refine (tq_aload_n i_L_paints_550 rfl (isA_ref _) rfl).trans ?_
      refine (tq_aload_n i_L_paints_551 rfl (isA_ref _) rfl).trans ?_
      exact c_L_isLike i_L_paints_552 (ltd d_L_paints (by decide)) (isA_ref _) (isA_ref _) stOk_0 rfl
  · refine (tq_aload_n i_L_paints_115 rfl (isA_ref _) rfl).trans ?_
    refine (tq_iload i_L_paints_116 rfl rfl).trans ?_
    refine (tq_iload i_L_paints_118 rfl rfl).trans ?_
    refine (tq_iload i_L_paints_120 rfl rfl).trans ?_
    refine (tq_bipush i_L_paints_122 rfl).trans ?_
    refine (tq_irem i_L_paints_124 w11 w_16 (by decide) rfl).trans ?_
    refine (tq_iload i_L_paints_125 rfl rfl).trans ?_
    refine (tq_imul i_L_paints_127 rfl).trans ?_
    refine (tq_iadd i_L_paints_128 rfl).trans ?_
    refine (tq_iload i_L_paints_129 rfl rfl).trans ?_
    refine (tq_bipush i_L_paints_131 rfl).trans ?_
    refine (tq_idiv i_L_paints_133 w11 w_16 (by decide) rfl).trans ?_
    refine (tq_iload i_L_paints_134 rfl rfl).trans ?_
    refine (tq_imul i_L_paints_136 rfl).trans ?_
    refine (tq_iadd i_L_paints_137 rfl).trans ?_
    refine (tq_sipush i_L_paints_138 rfl).trans ?_
    refine (tq_irem i_L_paints_141 rfl w_256 (by decide) rfl).trans ?_
    refine (tq_sipush i_L_paints_142 rfl).trans ?_
    refine (tq_iadd i_L_paints_145 rfl).trans ?_
    refine (tq_sipush i_L_paints_146 rfl).trans ?_
    refine (tq_irem i_L_paints_149 rfl w_256 (by decide) rfl).trans ?_
    refine (tq_iastore i_L_paints_150 s2 w11 (g4 c1).1 (lt_gn n1 (g4 c1).2) rfl).trans ?_
    refine (tq_iinc (L' := [.ref a0, v1, .ref a2, v3, v4, v5, .int (mI x6), v7, .int (mI x8), .int (mI x9), .int (mI x10), .int (mI (x11 + 1)), v12, v13, v14, v15, v16, v17, v18, v19, v20]) i_L_paints_151 rfl rfl rfl).trans ?_
    refine (tq_goto (pc' := 107) i_L_paints_154 (by decide)).trans ?_
    rfl
theorem i_L_paints_167 : am_i m_L_paints 167 = some (167, .iconst 1, 1, [], 1) := (lk_pts_1 (Nat.le_of_ble_eq_true rfl)).trans rfl
theorem i_L_paints_168 : am_i m_L_paints 168 = some (168, .iload_n 3, 1, [], 0) := (lk_pts_1 (Nat.le_of_ble_eq_true rfl)).trans rfl
theorem i_L_paints_169 : am_i m_L_paints 169 = some (169, .bipush 99, 2, [], 99) := (lk_pts_1 (Nat.le_of_ble_eq_true rfl)).trans rfl
theorem i_L_paints_171 : am_i m_L_paints 171 = some (171, .irem, 1, [], 0) := (lk_pts_1 (Nat.le_of_ble_eq_true rfl)).trans rfl
theorem i_L_paints_172 : am_i m_L_paints 172 = some (172, .iadd, 1, [], 0) := (lk_pts_1 (Nat.le_of_ble_eq_true rfl)).trans rfl
theorem i_L_paints_173 : am_i m_L_paints 173 = some (173, .istore 11, 2, [], 0) := (lk_pts_1 (Nat.le_of_ble_eq_true rfl)).trans rfl
theorem i_L_paints_175 : am_i m_L_paints 175 = some (175, .aload_n 0, 1, [], 0) := (lk_pts_1 (Nat.le_of_ble_eq_true rfl)).trans rfl
theorem i_L_paints_176 : am_i m_L_paints 176 = some (176, .bipush 103, 2, [], 103) := (lk_pts_1 (Nat.le_of_ble_eq_true rfl)).trans rfl
theorem i_L_paints_178 : am_i m_L_paints 178 = some (178, .iconst 2, 1, [], 2) := (lk_pts_1 (Nat.le_of_ble_eq_true rfl)).trans rfl
theorem i_L_paints_179 : am_i m_L_paints 179 = some (179, .newarray .int, 2, [], 0) := (lk_pts_1 (Nat.le_of_ble_eq_true rfl)).trans rfl
theorem b_L_paints_167 {a0 a2 : Nat} {v1 v4 v5 v6 v7 v8 v9 v10 v11 v12 v13 v14 v15 v16 v17 v18 v19 v20 : Value} {x3 x3' : Int} {h : am_H} (w3 : wr x3 = x3') : rn m_L_paints 167 [.ref a0, v1, .ref a2, .int (mI x3), v4, v5, v6, v7, v8, v9, v10, v11, v12, v13, v14, v15, v16, v17, v18, v19, v20] [] h = rn m_L_paints 181 [.ref a0, v1, .ref a2, .int (mI x3), v4, v5, v6, v7, v8, v9, (am_k1 v10), .int (mI (1 + (Int.tmod x3' 99))), v12, v13, v14, v15, v16, v17, v18, v19, v20] [.ref (hnx h), .int (mI 103), .ref a0] (aI 0 2 h) := by
  refine (tq_iconst i_L_paints_167 rfl).trans ?_
  refine (tq_iload_n i_L_paints_168 rfl rfl).trans ?_
  refine (tq_bipush i_L_paints_169 rfl).trans ?_
  refine (tq_irem i_L_paints_171 w3 w_99 (by decide) rfl).trans ?_
  refine (tq_iadd i_L_paints_172 rfl).trans ?_
  refine (tq_istore (L' := [.ref a0, v1, .ref a2, .int (mI x3), v4, v5, v6, v7, v8, v9, (am_k1 v10), .int (mI (1 + (Int.tmod x3' 99))), v12, v13, v14, v15, v16, v17, v18, v19, v20]) i_L_paints_173 rfl rfl).trans ?_
  refine (tq_aload_n i_L_paints_175 rfl (isA_ref _) rfl).trans ?_
  refine (tq_bipush i_L_paints_176 rfl).trans ?_
  refine (tq_iconst i_L_paints_178 rfl).trans ?_
  exact tq_newI (n := 2) (t := 0) i_L_paints_179 w_2 (by decide) rfl (by decide) rfl rfl
theorem i_L_paints_181 : am_i m_L_paints 181 = some (181, .dup, 1, [], 0) := (lk_pts_1 (Nat.le_of_ble_eq_true rfl)).trans rfl
theorem i_L_paints_182 : am_i m_L_paints 182 = some (182, .iconst 0, 1, [], 0) := (lk_pts_1 (Nat.le_of_ble_eq_true rfl)).trans rfl
theorem i_L_paints_183 : am_i m_L_paints 183 = some (183, .iload_n 3, 1, [], 0) := (lk_pts_1 (Nat.le_of_ble_eq_true rfl)).trans rfl
theorem i_L_paints_184 : am_i m_L_paints 184 = some (184, .iastore, 1, [], 0) := (lk_pts_1 (Nat.le_of_ble_eq_true rfl)).trans rfl
theorem i_L_paints_185 : am_i m_L_paints 185 = some (185, .dup, 1, [], 0) := (lk_pts_1 (Nat.le_of_ble_eq_true rfl)).trans rfl
theorem i_L_paints_186 : am_i m_L_paints 186 = some (186, .iconst 1, 1, [], 1) := (lk_pts_1 (Nat.le_of_ble_eq_true rfl)).trans rfl
theorem i_L_paints_187 : am_i m_L_paints 187 = some (187, .iload 11, 2, [], 0) := (lk_pts_1 (Nat.le_of_ble_eq_true rfl)).trans rfl
theorem i_L_paints_189 : am_i m_L_paints 189 = some (189, .iastore, 1, [], 0) := (lk_pts_1 (Nat.le_of_ble_eq_true rfl)).trans rfl
theorem i_L_paints_190 : am_i m_L_paints 190 = some (190, .invokestatic 130, 3, [122], 0) := (lk_pts_1 (Nat.le_of_ble_eq_true rfl)).trans rfl
theorem b_L_paints_181 {a0 a2 as0 as2 n_as0 : Nat} {v1 v4 v5 v6 v7 v8 v9 v10 v12 v13 v14 v15 v16 v17 v18 v19 v20 : Value} {x3 x11 xs1 : Int} {h : am_H} (n1 : gn h as0 = n_as0) (s2 : sh h as0 = (1, 0)) (g3 : (0 : Int) ≤ 0 ∧ 0 < (n_as0 : Int)) (g4 : (0 : Int) ≤ 1 ∧ 1 < (n_as0 : Int)) : rn m_L_paints 181 [.ref a0, v1, .ref a2, .int (mI x3), v4, v5, v6, v7, v8, v9, v10, .int (mI x11), v12, v13, v14, v15, v16, v17, v18, v19, v20] [.ref as0, .int (mI xs1), .ref as2] h = cl m_L_paints 193 [.ref a0, v1, .ref a2, .int (mI x3), v4, v5, v6, v7, v8, v9, v10, .int (mI x11), v12, v13, v14, v15, v16, v17, v18, v19, v20] [] (rn m_L_paint 0 [.ref as2, .int (mI xs1), .ref as0, am_J] [] (uZ (uZ h as0 0 x3) as0 1 x11)) := by
  refine (tq_dup i_L_paints_181 rfl rfl).trans ?_
  refine (tq_iconst i_L_paints_182 rfl).trans ?_
  refine (tq_iload_n i_L_paints_183 rfl rfl).trans ?_
  refine (tq_iastore i_L_paints_184 s2 w_0 g3.1 (lt_gn n1 g3.2) rfl).trans ?_
  refine (tq_dup i_L_paints_185 rfl rfl).trans ?_
  refine (tq_iconst i_L_paints_186 rfl).trans ?_
  refine (tq_iload i_L_paints_187 rfl rfl).trans ?_
  refine (tq_iastore i_L_paints_189 ((sh_uZ _ _ _ _ _).trans s2) w_1 g4.1 (lt_gn ((gn_uZ _ _ _ _ _).trans n1) g4.2) rfl).trans ?_
  exact c_L_paint i_L_paints_190 (ltd d_L_paints (by decide)) (isA_ref _) (isA_ref _) stOk_0 rfl
theorem i_L_paints_193 : am_i m_L_paints 193 = some (193, .istore 6, 2, [], 0) := (lk_pts_1 (Nat.le_of_ble_eq_true rfl)).trans rfl
theorem i_L_paints_195 : am_i m_L_paints 195 = some (195, .iload_n 3, 1, [], 0) := (lk_pts_1 (Nat.le_of_ble_eq_true rfl)).trans rfl
theorem i_L_paints_196 : am_i m_L_paints 196 = some (196, .istore 7, 2, [], 0) := (lk_pts_1 (Nat.le_of_ble_eq_true rfl)).trans rfl
theorem i_L_paints_198 : am_i m_L_paints 198 = some (198, .iconst 0, 1, [], 0) := (lk_pts_1 (Nat.le_of_ble_eq_true rfl)).trans rfl
theorem i_L_paints_199 : am_i m_L_paints 199 = some (199, .istore 12, 2, [], 0) := (lk_pts_1 (Nat.le_of_ble_eq_true rfl)).trans rfl
theorem b_L_paints_193 {a0 a2 : Nat} {v1 v4 v5 v6 v7 v8 v9 v10 v12 v13 v14 v15 v16 v17 v18 v19 v20 : Value} {x3 x11 xs0 : Int} {h : am_H} : rn m_L_paints 193 [.ref a0, v1, .ref a2, .int (mI x3), v4, v5, v6, v7, v8, v9, v10, .int (mI x11), v12, v13, v14, v15, v16, v17, v18, v19, v20] [.int (mI xs0)] h = rn m_L_paints 201 [.ref a0, v1, .ref a2, .int (mI x3), v4, (am_k1 v5), .int (mI xs0), .int (mI x3), v8, v9, v10, .int (mI x11), .int (mI 0), v13, v14, v15, v16, v17, v18, v19, v20] [] h := by
  refine (tq_istore (L' := [.ref a0, v1, .ref a2, .int (mI x3), v4, (am_k1 v5), .int (mI xs0), v7, v8, v9, v10, .int (mI x11), v12, v13, v14, v15, v16, v17, v18, v19, v20]) i_L_paints_193 rfl rfl).trans ?_
  refine (tq_iload_n i_L_paints_195 rfl rfl).trans ?_
  refine (tq_istore (L' := [.ref a0, v1, .ref a2, .int (mI x3), v4, (am_k1 v5), .int (mI xs0), .int (mI x3), v8, v9, v10, .int (mI x11), v12, v13, v14, v15, v16, v17, v18, v19, v20]) i_L_paints_196 rfl rfl).trans ?_
  refine (tq_iconst i_L_paints_198 rfl).trans ?_
  refine (tq_istore (L' := [.ref a0, v1, .ref a2, .int (mI x3), v4, (am_k1 v5), .int (mI xs0), .int (mI x3), v8, v9, v10, .int (mI x11), .int (mI 0), v13, v14, v15, v16, v17, v18, v19, v20]) i_L_paints_199 rfl rfl).trans ?_
  rfl
theorem i_L_paints_201 : am_i m_L_paints 201 = some (201, .iload 12, 2, [], 0) := (lk_pts_1 (Nat.le_of_ble_eq_true rfl)).trans rfl
theorem i_L_paints_203 : am_i m_L_paints 203 = some (203, .sipush 256, 3, [], 256) := (lk_pts_1 (Nat.le_of_ble_eq_true rfl)).trans rfl
theorem i_L_paints_206 : am_i m_L_paints 206 = some (206, .if_icmp .ge 61, 3, [], 0) := (lk_pts_1 (Nat.le_of_ble_eq_true rfl)).trans rfl
theorem i_L_paints_209 : am_i m_L_paints 209 = some (209, .ldc 147, 2, [], 1103515245) := (lk_pts_1 (Nat.le_of_ble_eq_true rfl)).trans rfl
theorem i_L_paints_211 : am_i m_L_paints 211 = some (211, .iload 7, 2, [], 0) := (lk_pts_1 (Nat.le_of_ble_eq_true rfl)).trans rfl
theorem i_L_paints_213 : am_i m_L_paints 213 = some (213, .imul, 1, [], 0) := (lk_pts_1 (Nat.le_of_ble_eq_true rfl)).trans rfl
theorem i_L_paints_214 : am_i m_L_paints 214 = some (214, .sipush 12345, 3, [], 12345) := (lk_pts_1 (Nat.le_of_ble_eq_true rfl)).trans rfl
theorem i_L_paints_217 : am_i m_L_paints 217 = some (217, .iadd, 1, [], 0) := (lk_pts_1 (Nat.le_of_ble_eq_true rfl)).trans rfl
theorem i_L_paints_218 : am_i m_L_paints 218 = some (218, .istore 7, 2, [], 0) := (lk_pts_1 (Nat.le_of_ble_eq_true rfl)).trans rfl
theorem i_L_paints_220 : am_i m_L_paints 220 = some (220, .iload 7, 2, [], 0) := (lk_pts_1 (Nat.le_of_ble_eq_true rfl)).trans rfl
theorem i_L_paints_222 : am_i m_L_paints 222 = some (222, .bipush 16, 2, [], 16) := (lk_pts_2 (Nat.le_of_ble_eq_true rfl)).trans rfl
theorem i_L_paints_224 : am_i m_L_paints 224 = some (224, .ishr, 1, [], 0) := (lk_pts_2 (Nat.le_of_ble_eq_true rfl)).trans rfl
theorem i_L_paints_225 : am_i m_L_paints 225 = some (225, .ldc 148, 2, [], 65535) := (lk_pts_2 (Nat.le_of_ble_eq_true rfl)).trans rfl
theorem i_L_paints_227 : am_i m_L_paints 227 = some (227, .iand, 1, [], 0) := (lk_pts_2 (Nat.le_of_ble_eq_true rfl)).trans rfl
theorem i_L_paints_228 : am_i m_L_paints 228 = some (228, .istore 13, 2, [], 0) := (lk_pts_2 (Nat.le_of_ble_eq_true rfl)).trans rfl
theorem i_L_paints_230 : am_i m_L_paints 230 = some (230, .aload_n 2, 1, [], 0) := (lk_pts_2 (Nat.le_of_ble_eq_true rfl)).trans rfl
theorem i_L_paints_231 : am_i m_L_paints 231 = some (231, .iload 12, 2, [], 0) := (lk_pts_2 (Nat.le_of_ble_eq_true rfl)).trans rfl
theorem i_L_paints_233 : am_i m_L_paints 233 = some (233, .iconst 0, 1, [], 0) := (lk_pts_2 (Nat.le_of_ble_eq_true rfl)).trans rfl
theorem i_L_paints_234 : am_i m_L_paints 234 = some (234, .sipush 255, 3, [], 255) := (lk_pts_2 (Nat.le_of_ble_eq_true rfl)).trans rfl
theorem i_L_paints_237 : am_i m_L_paints 237 = some (237, .aload_n 2, 1, [], 0) := (lk_pts_2 (Nat.le_of_ble_eq_true rfl)).trans rfl
theorem i_L_paints_238 : am_i m_L_paints 238 = some (238, .iload 12, 2, [], 0) := (lk_pts_2 (Nat.le_of_ble_eq_true rfl)).trans rfl
theorem i_L_paints_240 : am_i m_L_paints 240 = some (240, .iaload, 1, [], 0) := (lk_pts_2 (Nat.le_of_ble_eq_true rfl)).trans rfl
theorem i_L_paints_241 : am_i m_L_paints 241 = some (241, .iload 13, 2, [], 0) := (lk_pts_2 (Nat.le_of_ble_eq_true rfl)).trans rfl
theorem i_L_paints_243 : am_i m_L_paints 243 = some (243, .iconst 2, 1, [], 2) := (lk_pts_2 (Nat.le_of_ble_eq_true rfl)).trans rfl
theorem i_L_paints_244 : am_i m_L_paints 244 = some (244, .iload 11, 2, [], 0) := (lk_pts_2 (Nat.le_of_ble_eq_true rfl)).trans rfl
theorem i_L_paints_246 : am_i m_L_paints 246 = some (246, .imul, 1, [], 0) := (lk_pts_2 (Nat.le_of_ble_eq_true rfl)).trans rfl
theorem i_L_paints_247 : am_i m_L_paints 247 = some (247, .iconst 1, 1, [], 1) := (lk_pts_2 (Nat.le_of_ble_eq_true rfl)).trans rfl
theorem i_L_paints_248 : am_i m_L_paints 248 = some (248, .iadd, 1, [], 0) := (lk_pts_2 (Nat.le_of_ble_eq_true rfl)).trans rfl
theorem i_L_paints_249 : am_i m_L_paints 249 = some (249, .irem, 1, [], 0) := (lk_pts_2 (Nat.le_of_ble_eq_true rfl)).trans rfl
theorem i_L_paints_250 : am_i m_L_paints 250 = some (250, .iadd, 1, [], 0) := (lk_pts_2 (Nat.le_of_ble_eq_true rfl)).trans rfl
theorem i_L_paints_251 : am_i m_L_paints 251 = some (251, .iload 11, 2, [], 0) := (lk_pts_2 (Nat.le_of_ble_eq_true rfl)).trans rfl
theorem i_L_paints_253 : am_i m_L_paints 253 = some (253, .isub, 1, [], 0) := (lk_pts_2 (Nat.le_of_ble_eq_true rfl)).trans rfl
theorem i_L_paints_254 : am_i m_L_paints 254 = some (254, .invokestatic 149, 3, [0, 2], 0) := (lk_pts_2 (Nat.le_of_ble_eq_true rfl)).trans rfl
theorem i_L_paints_257 : am_i m_L_paints 257 = some (257, .invokestatic 154, 3, [0, 1], 0) := (lk_pts_2 (Nat.le_of_ble_eq_true rfl)).trans rfl
theorem i_L_paints_260 : am_i m_L_paints 260 = some (260, .iastore, 1, [], 0) := (lk_pts_2 (Nat.le_of_ble_eq_true rfl)).trans rfl
theorem i_L_paints_261 : am_i m_L_paints 261 = some (261, .iinc 12 1, 3, [], 0) := (lk_pts_2 (Nat.le_of_ble_eq_true rfl)).trans rfl
theorem i_L_paints_264 : am_i m_L_paints 264 = some (264, .goto (-63), 3, [], 0) := (lk_pts_2 (Nat.le_of_ble_eq_true rfl)).trans rfl
theorem i_L_paints_267 : am_i m_L_paints 267 = some (267, .goto 276, 3, [], 0) := (lk_pts_2 (Nat.le_of_ble_eq_true rfl)).trans rfl
theorem b_L_paints_201 {a0 a2 n_a2 : Nat} {v1 v3 v4 v5 v8 v9 v10 v13 v14 v15 v16 v17 v18 v19 v20 : Value} {x6 x7 x11 x12 x6' x7' x12' : Int} {h : am_H} (w6 : wr x6 = x6') (w7 : wr x7 = x7') (w12 : wr x12 = x12') (n1 : gn h a2 = n_a2) (s2 : sh h a2 = (1, 0)) (g3 : (¬ (256 ≤ x12')) → (0 ≤ x12' ∧ x12' < (n_a2 : Int))) (g4 : (¬ (256 ≤ x12')) → (wr ((2 * x11) + 1) ≠ 0)) : rn m_L_paints 201 [.ref a0, v1, .ref a2, v3, v4, v5, .int (mI x6), .int (mI x7), v8, v9, v10, .int (mI x11), .int (mI x12), v13, v14, v15, v16, v17, v18, v19, v20] [] h = if 256 ≤ x12' then if ¬ x6' = x7' then some (.inl (some (.int (mI 0))), h) else cl m_L_paints 555 [.ref a0, v1, .ref a2, v3, v4, v5, .int (mI x6), .int (mI x7), v8, v9, v10, .int (mI x11), .int (mI x12), v13, v14, v15, v16, v17, v18, v19, v20] [] (rn m_L_isLike 0 [.ref a0, .ref a2, am_J] [] h) else rn m_L_paints 201 [.ref a0, v1, .ref a2, v3, v4, v5, .int (mI x6), .int (mI ((1103515245 * x7) + 12345)), v8, v9, v10, .int (mI x11), .int (mI (x12 + 1)), .int (mI ((wr ((wr ((1103515245 * x7) + 12345)) / 2 ^ 16)) % 2 ^ 16)), v14, v15, v16, v17, v18, v19, v20] [] (uZ h a2 x12' (max 0 (min 255 (wr (((gZ h a2 x12') + (Int.tmod ((wr ((wr ((1103515245 * x7) + 12345)) / 2 ^ 16)) % 2 ^ 16) (wr ((2 * x11) + 1)))) - x11))))) := by
  refine (tq_iload i_L_paints_201 rfl rfl).trans ?_
  refine (tq_sipush i_L_paints_203 rfl).trans ?_
  refine (tq_icmp_ge (pt := 267) i_L_paints_206 w12 w_256 (by decide) rfl).trans ?_
  refine ite_congr rfl (fun c1 => ?_) (fun c1 => ?_)
  · refine (tq_goto (pc' := 543) i_L_paints_267 (by decide)).trans ?_
    refine (tq_iload i_L_paints_543 rfl rfl).trans ?_
    refine (tq_iload i_L_paints_545 rfl rfl).trans ?_
    refine (tq_icmp_ne (pt := 562) i_L_paints_547 w6 w7 (by decide) rfl).trans ?_
    refine ite_congr rfl (fun c2 => ?_) (fun c2 => ?_)
    · refine (tq_iconst i_L_paints_562 rfl).trans ?_
      exact tq_ireturn i_L_paints_563 r_L_paints (okB w_0 (by decide))
    · refine (tq_aload_n i_L_paints_550 rfl (isA_ref _) rfl).trans ?_
      refine (tq_aload_n i_L_paints_551 rfl (isA_ref _) rfl).trans ?_
      exact c_L_isLike i_L_paints_552 (ltd d_L_paints (by decide)) (isA_ref _) (isA_ref _) stOk_0 rfl
  · refine (tq_ldc i_L_paints_209 rfl).trans ?_
    refine (tq_iload i_L_paints_211 rfl rfl).trans ?_
    refine (tq_imul i_L_paints_213 rfl).trans ?_
    refine (tq_sipush i_L_paints_214 rfl).trans ?_
    refine (tq_iadd i_L_paints_217 rfl).trans ?_
    refine (tq_istore (L' := [.ref a0, v1, .ref a2, v3, v4, v5, .int (mI x6), .int (mI ((1103515245 * x7) + 12345)), v8, v9, v10, .int (mI x11), .int (mI x12), v13, v14, v15, v16, v17, v18, v19, v20]) i_L_paints_218 rfl rfl).trans ?_
    refine (tq_iload i_L_paints_220 rfl rfl).trans ?_
    refine (tq_bipush i_L_paints_222 rfl).trans ?_
    refine (tq_ishr (k := 16) i_L_paints_224 rfl w_16 (by decide) rfl).trans ?_
    refine (tq_ldc i_L_paints_225 rfl).trans ?_
    refine (tq_imask 16 i_L_paints_227 rfl (by decide) (by decide) rfl).trans ?_
    refine (tq_istore (L' := [.ref a0, v1, .ref a2, v3, v4, v5, .int (mI x6), .int (mI ((1103515245 * x7) + 12345)), v8, v9, v10, .int (mI x11), .int (mI x12), .int (mI ((wr ((wr ((1103515245 * x7) + 12345)) / 2 ^ 16)) % 2 ^ 16)), v14, v15, v16, v17, v18, v19, v20]) i_L_paints_228 rfl rfl).trans ?_
    refine (tq_aload_n i_L_paints_230 rfl (isA_ref _) rfl).trans ?_
    refine (tq_iload i_L_paints_231 rfl rfl).trans ?_
    refine (tq_iconst i_L_paints_233 rfl).trans ?_
    refine (tq_sipush i_L_paints_234 rfl).trans ?_
    refine (tq_aload_n i_L_paints_237 rfl (isA_ref _) rfl).trans ?_
    refine (tq_iload i_L_paints_238 rfl rfl).trans ?_
    refine (tq_iaload i_L_paints_240 s2 (by decide) w12 (g3 c1).1 (lt_gn n1 (g3 c1).2) rfl).trans ?_
    refine (tq_iload i_L_paints_241 rfl rfl).trans ?_
    refine (tq_iconst i_L_paints_243 rfl).trans ?_
    refine (tq_iload i_L_paints_244 rfl rfl).trans ?_
    refine (tq_imul i_L_paints_246 rfl).trans ?_
    refine (tq_iconst i_L_paints_247 rfl).trans ?_
    refine (tq_iadd i_L_paints_248 rfl).trans ?_
    refine (tq_irem i_L_paints_249 (wr_mask (by decide)) rfl (g4 c1) rfl).trans ?_
    refine (tq_iadd i_L_paints_250 rfl).trans ?_
    refine (tq_iload i_L_paints_251 rfl rfl).trans ?_
    refine (tq_isub i_L_paints_253 rfl).trans ?_
    refine (tq_min i_L_paints_254 w_255 rfl (Nat.le_of_ble_eq_true rfl) rfl).trans ?_
    refine (tq_max i_L_paints_257 w_0 (wr_min w_255 rfl) (Nat.le_of_ble_eq_true rfl) rfl).trans ?_
    refine (tq_iastore i_L_paints_260 s2 w12 (g3 c1).1 (lt_gn n1 (g3 c1).2) rfl).trans ?_
    refine (tq_iinc (L' := [.ref a0, v1, .ref a2, v3, v4, v5, .int (mI x6), .int (mI ((1103515245 * x7) + 12345)), v8, v9, v10, .int (mI x11), .int (mI (x12 + 1)), .int (mI ((wr ((wr ((1103515245 * x7) + 12345)) / 2 ^ 16)) % 2 ^ 16)), v14, v15, v16, v17, v18, v19, v20]) i_L_paints_261 rfl rfl rfl).trans ?_
    refine (tq_goto (pc' := 201) i_L_paints_264 (by decide)).trans ?_
    rfl
theorem i_L_paints_270 : am_i m_L_paints 270 = some (270, .iload_n 3, 1, [], 0) := (lk_pts_2 (Nat.le_of_ble_eq_true rfl)).trans rfl
theorem i_L_paints_271 : am_i m_L_paints 271 = some (271, .bipush 31, 2, [], 31) := (lk_pts_2 (Nat.le_of_ble_eq_true rfl)).trans rfl
theorem i_L_paints_273 : am_i m_L_paints 273 = some (273, .irem, 1, [], 0) := (lk_pts_2 (Nat.le_of_ble_eq_true rfl)).trans rfl
theorem i_L_paints_274 : am_i m_L_paints 274 = some (274, .bipush 15, 2, [], 15) := (lk_pts_2 (Nat.le_of_ble_eq_true rfl)).trans rfl
theorem i_L_paints_276 : am_i m_L_paints 276 = some (276, .isub, 1, [], 0) := (lk_pts_2 (Nat.le_of_ble_eq_true rfl)).trans rfl
theorem i_L_paints_277 : am_i m_L_paints 277 = some (277, .istore 12, 2, [], 0) := (lk_pts_2 (Nat.le_of_ble_eq_true rfl)).trans rfl
theorem i_L_paints_279 : am_i m_L_paints 279 = some (279, .iload_n 3, 1, [], 0) := (lk_pts_2 (Nat.le_of_ble_eq_true rfl)).trans rfl
theorem i_L_paints_280 : am_i m_L_paints 280 = some (280, .bipush 31, 2, [], 31) := (lk_pts_2 (Nat.le_of_ble_eq_true rfl)).trans rfl
theorem i_L_paints_282 : am_i m_L_paints 282 = some (282, .idiv, 1, [], 0) := (lk_pts_2 (Nat.le_of_ble_eq_true rfl)).trans rfl
theorem i_L_paints_283 : am_i m_L_paints 283 = some (283, .bipush 31, 2, [], 31) := (lk_pts_2 (Nat.le_of_ble_eq_true rfl)).trans rfl
theorem i_L_paints_285 : am_i m_L_paints 285 = some (285, .irem, 1, [], 0) := (lk_pts_2 (Nat.le_of_ble_eq_true rfl)).trans rfl
theorem i_L_paints_286 : am_i m_L_paints 286 = some (286, .bipush 15, 2, [], 15) := (lk_pts_2 (Nat.le_of_ble_eq_true rfl)).trans rfl
theorem i_L_paints_288 : am_i m_L_paints 288 = some (288, .isub, 1, [], 0) := (lk_pts_2 (Nat.le_of_ble_eq_true rfl)).trans rfl
theorem i_L_paints_289 : am_i m_L_paints 289 = some (289, .istore 13, 2, [], 0) := (lk_pts_2 (Nat.le_of_ble_eq_true rfl)).trans rfl
theorem i_L_paints_291 : am_i m_L_paints 291 = some (291, .aload_n 0, 1, [], 0) := (lk_pts_2 (Nat.le_of_ble_eq_true rfl)).trans rfl
theorem i_L_paints_292 : am_i m_L_paints 292 = some (292, .bipush 109, 2, [], 109) := (lk_pts_2 (Nat.le_of_ble_eq_true rfl)).trans rfl
theorem i_L_paints_294 : am_i m_L_paints 294 = some (294, .iconst 2, 1, [], 2) := (lk_pts_2 (Nat.le_of_ble_eq_true rfl)).trans rfl
theorem i_L_paints_295 : am_i m_L_paints 295 = some (295, .newarray .int, 2, [], 0) := (lk_pts_2 (Nat.le_of_ble_eq_true rfl)).trans rfl
theorem b_L_paints_270 {a0 a2 a4 : Nat} {v1 v5 v6 v7 v8 v9 v10 v11 v12 v13 v14 v15 v16 v17 v18 v19 v20 : Value} {x3 x3' : Int} {h : am_H} (w3 : wr x3 = x3') : rn m_L_paints 270 [.ref a0, v1, .ref a2, .int (mI x3), .ref a4, v5, v6, v7, v8, v9, v10, v11, v12, v13, v14, v15, v16, v17, v18, v19, v20] [] h = rn m_L_paints 297 [.ref a0, v1, .ref a2, .int (mI x3), .ref a4, v5, v6, v7, v8, v9, v10, (am_k1 v11), .int (mI ((Int.tmod x3' 31) - 15)), .int (mI ((Int.tmod (wr (Int.tdiv x3' 31)) 31) - 15)), v14, v15, v16, v17, v18, v19, v20] [.ref (hnx h), .int (mI 109), .ref a0] (aI 0 2 h) := by
  refine (tq_iload_n i_L_paints_270 rfl rfl).trans ?_
  refine (tq_bipush i_L_paints_271 rfl).trans ?_
  refine (tq_irem i_L_paints_273 w3 w_31 (by decide) rfl).trans ?_
  refine (tq_bipush i_L_paints_274 rfl).trans ?_
  refine (tq_isub i_L_paints_276 rfl).trans ?_
  refine (tq_istore (L' := [.ref a0, v1, .ref a2, .int (mI x3), .ref a4, v5, v6, v7, v8, v9, v10, (am_k1 v11), .int (mI ((Int.tmod x3' 31) - 15)), v13, v14, v15, v16, v17, v18, v19, v20]) i_L_paints_277 rfl rfl).trans ?_
  refine (tq_iload_n i_L_paints_279 rfl rfl).trans ?_
  refine (tq_bipush i_L_paints_280 rfl).trans ?_
  refine (tq_idiv i_L_paints_282 w3 w_31 (by decide) rfl).trans ?_
  refine (tq_bipush i_L_paints_283 rfl).trans ?_
  refine (tq_irem i_L_paints_285 rfl w_31 (by decide) rfl).trans ?_
  refine (tq_bipush i_L_paints_286 rfl).trans ?_
  refine (tq_isub i_L_paints_288 rfl).trans ?_
  refine (tq_istore (L' := [.ref a0, v1, .ref a2, .int (mI x3), .ref a4, v5, v6, v7, v8, v9, v10, (am_k1 v11), .int (mI ((Int.tmod x3' 31) - 15)), .int (mI ((Int.tmod (wr (Int.tdiv x3' 31)) 31) - 15)), v14, v15, v16, v17, v18, v19, v20]) i_L_paints_289 rfl rfl).trans ?_
  refine (tq_aload_n i_L_paints_291 rfl (isA_ref _) rfl).trans ?_
  refine (tq_bipush i_L_paints_292 rfl).trans ?_
  refine (tq_iconst i_L_paints_294 rfl).trans ?_
  exact tq_newI (n := 2) (t := 0) i_L_paints_295 w_2 (by decide) rfl (by decide) rfl rfl
theorem i_L_paints_297 : am_i m_L_paints 297 = some (297, .dup, 1, [], 0) := (lk_pts_2 (Nat.le_of_ble_eq_true rfl)).trans rfl
theorem i_L_paints_298 : am_i m_L_paints 298 = some (298, .iconst 0, 1, [], 0) := (lk_pts_2 (Nat.le_of_ble_eq_true rfl)).trans rfl
theorem i_L_paints_299 : am_i m_L_paints 299 = some (299, .iload 12, 2, [], 0) := (lk_pts_2 (Nat.le_of_ble_eq_true rfl)).trans rfl
theorem i_L_paints_301 : am_i m_L_paints 301 = some (301, .iastore, 1, [], 0) := (lk_pts_2 (Nat.le_of_ble_eq_true rfl)).trans rfl
theorem i_L_paints_302 : am_i m_L_paints 302 = some (302, .dup, 1, [], 0) := (lk_pts_2 (Nat.le_of_ble_eq_true rfl)).trans rfl
theorem i_L_paints_303 : am_i m_L_paints 303 = some (303, .iconst 1, 1, [], 1) := (lk_pts_2 (Nat.le_of_ble_eq_true rfl)).trans rfl
theorem i_L_paints_304 : am_i m_L_paints 304 = some (304, .iload 13, 2, [], 0) := (lk_pts_2 (Nat.le_of_ble_eq_true rfl)).trans rfl
theorem i_L_paints_306 : am_i m_L_paints 306 = some (306, .iastore, 1, [], 0) := (lk_pts_2 (Nat.le_of_ble_eq_true rfl)).trans rfl
theorem i_L_paints_307 : am_i m_L_paints 307 = some (307, .invokestatic 130, 3, [122], 0) := (lk_pts_2 (Nat.le_of_ble_eq_true rfl)).trans rfl
theorem b_L_paints_297 {a0 a2 a4 as0 as2 n_as0 : Nat} {v1 v3 v5 v6 v7 v8 v9 v10 v11 v14 v15 v16 v17 v18 v19 v20 : Value} {x12 x13 xs1 : Int} {h : am_H} (n1 : gn h as0 = n_as0) (s2 : sh h as0 = (1, 0)) (g3 : (0 : Int) ≤ 0 ∧ 0 < (n_as0 : Int)) (g4 : (0 : Int) ≤ 1 ∧ 1 < (n_as0 : Int)) : rn m_L_paints 297 [.ref a0, v1, .ref a2, v3, .ref a4, v5, v6, v7, v8, v9, v10, v11, .int (mI x12), .int (mI x13), v14, v15, v16, v17, v18, v19, v20] [.ref as0, .int (mI xs1), .ref as2] h = cl m_L_paints 310 [.ref a0, v1, .ref a2, v3, .ref a4, v5, v6, v7, v8, v9, v10, v11, .int (mI x12), .int (mI x13), v14, v15, v16, v17, v18, v19, v20] [] (rn m_L_paint 0 [.ref as2, .int (mI xs1), .ref as0, am_J] [] (uZ (uZ h as0 0 x12) as0 1 x13)) := by
  refine (tq_dup i_L_paints_297 rfl rfl).trans ?_
  refine (tq_iconst i_L_paints_298 rfl).trans ?_
  refine (tq_iload i_L_paints_299 rfl rfl).trans ?_
  refine (tq_iastore i_L_paints_301 s2 w_0 g3.1 (lt_gn n1 g3.2) rfl).trans ?_
  refine (tq_dup i_L_paints_302 rfl rfl).trans ?_
  refine (tq_iconst i_L_paints_303 rfl).trans ?_
  refine (tq_iload i_L_paints_304 rfl rfl).trans ?_
  refine (tq_iastore i_L_paints_306 ((sh_uZ _ _ _ _ _).trans s2) w_1 g4.1 (lt_gn ((gn_uZ _ _ _ _ _).trans n1) g4.2) rfl).trans ?_
  exact c_L_paint i_L_paints_307 (ltd d_L_paints (by decide)) (isA_ref _) (isA_ref _) stOk_0 rfl
theorem i_L_paints_310 : am_i m_L_paints 310 = some (310, .istore 6, 2, [], 0) := (lk_pts_2 (Nat.le_of_ble_eq_true rfl)).trans rfl
theorem i_L_paints_312 : am_i m_L_paints 312 = some (312, .iconst 0, 1, [], 0) := (lk_pts_2 (Nat.le_of_ble_eq_true rfl)).trans rfl
theorem i_L_paints_313 : am_i m_L_paints 313 = some (313, .istore 14, 2, [], 0) := (lk_pts_2 (Nat.le_of_ble_eq_true rfl)).trans rfl
theorem b_L_paints_310 {a0 a2 a4 : Nat} {v1 v3 v5 v6 v7 v8 v9 v10 v11 v14 v15 v16 v17 v18 v19 v20 : Value} {x12 x13 xs0 : Int} {h : am_H} : rn m_L_paints 310 [.ref a0, v1, .ref a2, v3, .ref a4, v5, v6, v7, v8, v9, v10, v11, .int (mI x12), .int (mI x13), v14, v15, v16, v17, v18, v19, v20] [.int (mI xs0)] h = rn m_L_paints 315 [.ref a0, v1, .ref a2, v3, .ref a4, (am_k1 v5), .int (mI xs0), v7, v8, v9, v10, v11, .int (mI x12), .int (mI x13), .int (mI 0), v15, v16, v17, v18, v19, v20] [] h := by
  refine (tq_istore (L' := [.ref a0, v1, .ref a2, v3, .ref a4, (am_k1 v5), .int (mI xs0), v7, v8, v9, v10, v11, .int (mI x12), .int (mI x13), v14, v15, v16, v17, v18, v19, v20]) i_L_paints_310 rfl rfl).trans ?_
  refine (tq_iconst i_L_paints_312 rfl).trans ?_
  refine (tq_istore (L' := [.ref a0, v1, .ref a2, v3, .ref a4, (am_k1 v5), .int (mI xs0), v7, v8, v9, v10, v11, .int (mI x12), .int (mI x13), .int (mI 0), v15, v16, v17, v18, v19, v20]) i_L_paints_313 rfl rfl).trans ?_
  rfl
theorem i_L_paints_315 : am_i m_L_paints 315 = some (315, .iload 14, 2, [], 0) := (lk_pts_2 (Nat.le_of_ble_eq_true rfl)).trans rfl
theorem i_L_paints_317 : am_i m_L_paints 317 = some (317, .sipush 256, 3, [], 256) := (lk_pts_2 (Nat.le_of_ble_eq_true rfl)).trans rfl
theorem i_L_paints_320 : am_i m_L_paints 320 = some (320, .if_icmp .ge 54, 3, [], 0) := (lk_pts_3 (Nat.le_of_ble_eq_true rfl)).trans rfl
theorem i_L_paints_323 : am_i m_L_paints 323 = some (323, .aload_n 2, 1, [], 0) := (lk_pts_3 (Nat.le_of_ble_eq_true rfl)).trans rfl
theorem i_L_paints_324 : am_i m_L_paints 324 = some (324, .iload 14, 2, [], 0) := (lk_pts_3 (Nat.le_of_ble_eq_true rfl)).trans rfl
theorem i_L_paints_326 : am_i m_L_paints 326 = some (326, .aload 4, 2, [], 0) := (lk_pts_3 (Nat.le_of_ble_eq_true rfl)).trans rfl
theorem i_L_paints_328 : am_i m_L_paints 328 = some (328, .iload 14, 2, [], 0) := (lk_pts_3 (Nat.le_of_ble_eq_true rfl)).trans rfl
theorem i_L_paints_330 : am_i m_L_paints 330 = some (330, .bipush 16, 2, [], 16) := (lk_pts_3 (Nat.le_of_ble_eq_true rfl)).trans rfl
theorem i_L_paints_332 : am_i m_L_paints 332 = some (332, .idiv, 1, [], 0) := (lk_pts_3 (Nat.le_of_ble_eq_true rfl)).trans rfl
theorem i_L_paints_333 : am_i m_L_paints 333 = some (333, .iload 13, 2, [], 0) := (lk_pts_3 (Nat.le_of_ble_eq_true rfl)).trans rfl
theorem i_L_paints_335 : am_i m_L_paints 335 = some (335, .isub, 1, [], 0) := (lk_pts_3 (Nat.le_of_ble_eq_true rfl)).trans rfl
theorem i_L_paints_336 : am_i m_L_paints 336 = some (336, .bipush 16, 2, [], 16) := (lk_pts_3 (Nat.le_of_ble_eq_true rfl)).trans rfl
theorem i_L_paints_338 : am_i m_L_paints 338 = some (338, .irem, 1, [], 0) := (lk_pts_3 (Nat.le_of_ble_eq_true rfl)).trans rfl
theorem i_L_paints_339 : am_i m_L_paints 339 = some (339, .bipush 16, 2, [], 16) := (lk_pts_3 (Nat.le_of_ble_eq_true rfl)).trans rfl
theorem i_L_paints_341 : am_i m_L_paints 341 = some (341, .iadd, 1, [], 0) := (lk_pts_3 (Nat.le_of_ble_eq_true rfl)).trans rfl
theorem i_L_paints_342 : am_i m_L_paints 342 = some (342, .bipush 16, 2, [], 16) := (lk_pts_3 (Nat.le_of_ble_eq_true rfl)).trans rfl
theorem i_L_paints_344 : am_i m_L_paints 344 = some (344, .irem, 1, [], 0) := (lk_pts_3 (Nat.le_of_ble_eq_true rfl)).trans rfl
theorem i_L_paints_345 : am_i m_L_paints 345 = some (345, .bipush 16, 2, [], 16) := (lk_pts_3 (Nat.le_of_ble_eq_true rfl)).trans rfl
theorem i_L_paints_347 : am_i m_L_paints 347 = some (347, .imul, 1, [], 0) := (lk_pts_3 (Nat.le_of_ble_eq_true rfl)).trans rfl
theorem i_L_paints_348 : am_i m_L_paints 348 = some (348, .iload 14, 2, [], 0) := (lk_pts_3 (Nat.le_of_ble_eq_true rfl)).trans rfl
theorem i_L_paints_350 : am_i m_L_paints 350 = some (350, .bipush 16, 2, [], 16) := (lk_pts_3 (Nat.le_of_ble_eq_true rfl)).trans rfl
theorem i_L_paints_352 : am_i m_L_paints 352 = some (352, .irem, 1, [], 0) := (lk_pts_3 (Nat.le_of_ble_eq_true rfl)).trans rfl
theorem i_L_paints_353 : am_i m_L_paints 353 = some (353, .iload 12, 2, [], 0) := (lk_pts_3 (Nat.le_of_ble_eq_true rfl)).trans rfl
theorem i_L_paints_355 : am_i m_L_paints 355 = some (355, .isub, 1, [], 0) := (lk_pts_3 (Nat.le_of_ble_eq_true rfl)).trans rfl
theorem i_L_paints_356 : am_i m_L_paints 356 = some (356, .bipush 16, 2, [], 16) := (lk_pts_3 (Nat.le_of_ble_eq_true rfl)).trans rfl
theorem i_L_paints_358 : am_i m_L_paints 358 = some (358, .irem, 1, [], 0) := (lk_pts_3 (Nat.le_of_ble_eq_true rfl)).trans rfl
theorem i_L_paints_359 : am_i m_L_paints 359 = some (359, .bipush 16, 2, [], 16) := (lk_pts_3 (Nat.le_of_ble_eq_true rfl)).trans rfl
theorem i_L_paints_361 : am_i m_L_paints 361 = some (361, .iadd, 1, [], 0) := (lk_pts_3 (Nat.le_of_ble_eq_true rfl)).trans rfl
theorem i_L_paints_362 : am_i m_L_paints 362 = some (362, .bipush 16, 2, [], 16) := (lk_pts_3 (Nat.le_of_ble_eq_true rfl)).trans rfl
theorem i_L_paints_364 : am_i m_L_paints 364 = some (364, .irem, 1, [], 0) := (lk_pts_3 (Nat.le_of_ble_eq_true rfl)).trans rfl
theorem i_L_paints_365 : am_i m_L_paints 365 = some (365, .iadd, 1, [], 0) := (lk_pts_3 (Nat.le_of_ble_eq_true rfl)).trans rfl
theorem i_L_paints_366 : am_i m_L_paints 366 = some (366, .iaload, 1, [], 0) := (lk_pts_3 (Nat.le_of_ble_eq_true rfl)).trans rfl
theorem i_L_paints_367 : am_i m_L_paints 367 = some (367, .iastore, 1, [], 0) := (lk_pts_3 (Nat.le_of_ble_eq_true rfl)).trans rfl
theorem i_L_paints_368 : am_i m_L_paints 368 = some (368, .iinc 14 1, 3, [], 0) := (lk_pts_3 (Nat.le_of_ble_eq_true rfl)).trans rfl
theorem i_L_paints_371 : am_i m_L_paints 371 = some (371, .goto (-56), 3, [], 0) := (lk_pts_3 (Nat.le_of_ble_eq_true rfl)).trans rfl
theorem i_L_paints_374 : am_i m_L_paints 374 = some (374, .aload_n 2, 1, [], 0) := (lk_pts_3 (Nat.le_of_ble_eq_true rfl)).trans rfl
theorem i_L_paints_375 : am_i m_L_paints 375 = some (375, .iconst 0, 1, [], 0) := (lk_pts_3 (Nat.le_of_ble_eq_true rfl)).trans rfl
theorem i_L_paints_376 : am_i m_L_paints 376 = some (376, .iaload, 1, [], 0) := (lk_pts_3 (Nat.le_of_ble_eq_true rfl)).trans rfl
theorem i_L_paints_377 : am_i m_L_paints 377 = some (377, .istore 7, 2, [], 0) := (lk_pts_3 (Nat.le_of_ble_eq_true rfl)).trans rfl
theorem i_L_paints_379 : am_i m_L_paints 379 = some (379, .goto 164, 3, [], 0) := (lk_pts_3 (Nat.le_of_ble_eq_true rfl)).trans rfl
theorem b_L_paints_315 {a0 a2 a4 n_a2 n_a4 : Nat} {v1 v3 v5 v7 v8 v9 v10 v11 v15 v16 v17 v18 v19 v20 : Value} {x6 x12 x13 x14 x6' x14' : Int} {h : am_H} (w6 : wr x6 = x6') (w14 : wr x14 = x14') (n1 : gn h a2 = n_a2) (s2 : sh h a2 = (1, 0)) (g3 : (256 ≤ x14') → ((0 : Int) ≤ 0 ∧ 0 < (n_a2 : Int))) (n4 : gn h a4 = n_a4) (s5 : sh h a4 = (1, 0)) (g6 : (¬ (256 ≤ x14')) → (0 ≤ wr (((Int.tmod (wr ((Int.tmod (wr ((Int.tdiv x14' 16) - x13)) 16) + 16)) 16) * 16) + (Int.tmod (wr ((Int.tmod (wr ((Int.tmod x14' 16) - x12)) 16) + 16)) 16)) ∧ wr (((Int.tmod (wr ((Int.tmod (wr ((Int.tdiv x14' 16) - x13)) 16) + 16)) 16) * 16) + (Int.tmod (wr ((Int.tmod (wr ((Int.tmod x14' 16) - x12)) 16) + 16)) 16)) < (n_a4 : Int))) (g7 : (¬ (256 ≤ x14')) → (0 ≤ x14' ∧ x14' < (n_a2 : Int))) : rn m_L_paints 315 [.ref a0, v1, .ref a2, v3, .ref a4, v5, .int (mI x6), v7, v8, v9, v10, v11, .int (mI x12), .int (mI x13), .int (mI x14), v15, v16, v17, v18, v19, v20] [] h = if 256 ≤ x14' then if ¬ x6' = (gZ h a2 0) then some (.inl (some (.int (mI 0))), h) else cl m_L_paints 555 [.ref a0, v1, .ref a2, v3, .ref a4, v5, .int (mI x6), .int (mI (gZ h a2 0)), v8, v9, v10, v11, .int (mI x12), .int (mI x13), .int (mI x14), v15, v16, v17, v18, v19, v20] [] (rn m_L_isLike 0 [.ref a0, .ref a2, am_J] [] h) else rn m_L_paints 315 [.ref a0, v1, .ref a2, v3, .ref a4, v5, .int (mI x6), v7, v8, v9, v10, v11, .int (mI x12), .int (mI x13), .int (mI (x14 + 1)), v15, v16, v17, v18, v19, v20] [] (uZ h a2 x14' (gZ h a4 (wr (((Int.tmod (wr ((Int.tmod (wr ((Int.tdiv x14' 16) - x13)) 16) + 16)) 16) * 16) + (Int.tmod (wr ((Int.tmod (wr ((Int.tmod x14' 16) - x12)) 16) + 16)) 16))))) := by
  refine (tq_iload i_L_paints_315 rfl rfl).trans ?_
  refine (tq_sipush i_L_paints_317 rfl).trans ?_
  refine (tq_icmp_ge (pt := 374) i_L_paints_320 w14 w_256 (by decide) rfl).trans ?_
  refine ite_congr rfl (fun c1 => ?_) (fun c1 => ?_)
  · refine (tq_aload_n i_L_paints_374 rfl (isA_ref _) rfl).trans ?_
    refine (tq_iconst i_L_paints_375 rfl).trans ?_
    refine (tq_iaload i_L_paints_376 s2 (by decide) w_0 (g3 c1).1 (lt_gn n1 (g3 c1).2) rfl).trans ?_
    refine (tq_istore (L' := [.ref a0, v1, .ref a2, v3, .ref a4, v5, .int (mI x6), .int (mI (gZ h a2 0)), v8, v9, v10, v11, .int (mI x12), .int (mI x13), .int (mI x14), v15, v16, v17, v18, v19, v20]) i_L_paints_377 rfl rfl).trans ?_
    refine (tq_goto (pc' := 543) i_L_paints_379 (by decide)).trans ?_
    refine (tq_iload i_L_paints_543 rfl rfl).trans ?_
    refine (tq_iload i_L_paints_545 rfl rfl).trans ?_
    refine (tq_icmp_ne (pt := 562) i_L_paints_547 w6 (wr_gZ _ _ _) (by decide) rfl).trans ?_
    refine ite_congr rfl (fun c2 => ?_) (fun c2 => ?_)
    · refine (tq_iconst i_L_paints_562 rfl).trans ?_
      exact tq_ireturn i_L_paints_563 r_L_paints (okB w_0 (by decide))
    · refine (tq_aload_n i_L_paints_550 rfl (isA_ref _) rfl).trans ?_
      refine (tq_aload_n i_L_paints_551 rfl (isA_ref _) rfl).trans ?_
      exact c_L_isLike i_L_paints_552 (ltd d_L_paints (by decide)) (isA_ref _) (isA_ref _) stOk_0 rfl
  · refine (tq_aload_n i_L_paints_323 rfl (isA_ref _) rfl).trans ?_
    refine (tq_iload i_L_paints_324 rfl rfl).trans ?_
    refine (tq_aload i_L_paints_326 rfl (isA_ref _) rfl).trans ?_
    refine (tq_iload i_L_paints_328 rfl rfl).trans ?_
    refine (tq_bipush i_L_paints_330 rfl).trans ?_
    refine (tq_idiv i_L_paints_332 w14 w_16 (by decide) rfl).trans ?_
    refine (tq_iload i_L_paints_333 rfl rfl).trans ?_
    refine (tq_isub i_L_paints_335 rfl).trans ?_
    refine (tq_bipush i_L_paints_336 rfl).trans ?_
    refine (tq_irem i_L_paints_338 rfl w_16 (by decide) rfl).trans ?_
    refine (tq_bipush i_L_paints_339 rfl).trans ?_
    refine (tq_iadd i_L_paints_341 rfl).trans ?_
    refine (tq_bipush i_L_paints_342 rfl).trans ?_
    refine (tq_irem i_L_paints_344 rfl w_16 (by decide) rfl).trans ?_
    refine (tq_bipush i_L_paints_345 rfl).trans ?_
    refine (tq_imul i_L_paints_347 rfl).trans ?_
    refine (tq_iload i_L_paints_348 rfl rfl).trans ?_
    refine (tq_bipush i_L_paints_350 rfl).trans ?_
    refine (tq_irem i_L_paints_352 w14 w_16 (by decide) rfl).trans ?_
    refine (tq_iload i_L_paints_353 rfl rfl).trans ?_
    refine (tq_isub i_L_paints_355 rfl).trans ?_
    refine (tq_bipush i_L_paints_356 rfl).trans ?_
    refine (tq_irem i_L_paints_358 rfl w_16 (by decide) rfl).trans ?_
    refine (tq_bipush i_L_paints_359 rfl).trans ?_
    refine (tq_iadd i_L_paints_361 rfl).trans ?_
    refine (tq_bipush i_L_paints_362 rfl).trans ?_
    refine (tq_irem i_L_paints_364 rfl w_16 (by decide) rfl).trans ?_
    refine (tq_iadd i_L_paints_365 rfl).trans ?_
    refine (tq_iaload i_L_paints_366 s5 (by decide) rfl (g6 c1).1 (lt_gn n4 (g6 c1).2) rfl).trans ?_
    refine (tq_iastore i_L_paints_367 s2 w14 (g7 c1).1 (lt_gn n1 (g7 c1).2) rfl).trans ?_
    refine (tq_iinc (L' := [.ref a0, v1, .ref a2, v3, .ref a4, v5, .int (mI x6), v7, v8, v9, v10, v11, .int (mI x12), .int (mI x13), .int (mI (x14 + 1)), v15, v16, v17, v18, v19, v20]) i_L_paints_368 rfl rfl rfl).trans ?_
    refine (tq_goto (pc' := 315) i_L_paints_371 (by decide)).trans ?_
    rfl
theorem i_L_paints_382 : am_i m_L_paints 382 = some (382, .iload_n 3, 1, [], 0) := (lk_pts_3 (Nat.le_of_ble_eq_true rfl)).trans rfl
theorem i_L_paints_383 : am_i m_L_paints 383 = some (383, .bipush 16, 2, [], 16) := (lk_pts_3 (Nat.le_of_ble_eq_true rfl)).trans rfl
theorem i_L_paints_385 : am_i m_L_paints 385 = some (385, .irem, 1, [], 0) := (lk_pts_3 (Nat.le_of_ble_eq_true rfl)).trans rfl
theorem i_L_paints_386 : am_i m_L_paints 386 = some (386, .istore 14, 2, [], 0) := (lk_pts_3 (Nat.le_of_ble_eq_true rfl)).trans rfl
theorem i_L_paints_388 : am_i m_L_paints 388 = some (388, .iload_n 3, 1, [], 0) := (lk_pts_3 (Nat.le_of_ble_eq_true rfl)).trans rfl
theorem i_L_paints_389 : am_i m_L_paints 389 = some (389, .bipush 16, 2, [], 16) := (lk_pts_3 (Nat.le_of_ble_eq_true rfl)).trans rfl
theorem i_L_paints_391 : am_i m_L_paints 391 = some (391, .idiv, 1, [], 0) := (lk_pts_3 (Nat.le_of_ble_eq_true rfl)).trans rfl
theorem i_L_paints_392 : am_i m_L_paints 392 = some (392, .bipush 16, 2, [], 16) := (lk_pts_3 (Nat.le_of_ble_eq_true rfl)).trans rfl
theorem i_L_paints_394 : am_i m_L_paints 394 = some (394, .irem, 1, [], 0) := (lk_pts_3 (Nat.le_of_ble_eq_true rfl)).trans rfl
theorem i_L_paints_395 : am_i m_L_paints 395 = some (395, .istore 15, 2, [], 0) := (lk_pts_3 (Nat.le_of_ble_eq_true rfl)).trans rfl
theorem i_L_paints_397 : am_i m_L_paints 397 = some (397, .iconst 1, 1, [], 1) := (lk_pts_3 (Nat.le_of_ble_eq_true rfl)).trans rfl
theorem i_L_paints_398 : am_i m_L_paints 398 = some (398, .iload_n 3, 1, [], 0) := (lk_pts_3 (Nat.le_of_ble_eq_true rfl)).trans rfl
theorem i_L_paints_399 : am_i m_L_paints 399 = some (399, .sipush 256, 3, [], 256) := (lk_pts_3 (Nat.le_of_ble_eq_true rfl)).trans rfl
theorem i_L_paints_402 : am_i m_L_paints 402 = some (402, .idiv, 1, [], 0) := (lk_pts_3 (Nat.le_of_ble_eq_true rfl)).trans rfl
theorem i_L_paints_403 : am_i m_L_paints 403 = some (403, .bipush 16, 2, [], 16) := (lk_pts_3 (Nat.le_of_ble_eq_true rfl)).trans rfl
theorem i_L_paints_405 : am_i m_L_paints 405 = some (405, .iload 14, 2, [], 0) := (lk_pts_3 (Nat.le_of_ble_eq_true rfl)).trans rfl
theorem i_L_paints_407 : am_i m_L_paints 407 = some (407, .isub, 1, [], 0) := (lk_pts_3 (Nat.le_of_ble_eq_true rfl)).trans rfl
theorem i_L_paints_408 : am_i m_L_paints 408 = some (408, .irem, 1, [], 0) := (lk_pts_3 (Nat.le_of_ble_eq_true rfl)).trans rfl
theorem i_L_paints_409 : am_i m_L_paints 409 = some (409, .iadd, 1, [], 0) := (lk_pts_3 (Nat.le_of_ble_eq_true rfl)).trans rfl
theorem i_L_paints_410 : am_i m_L_paints 410 = some (410, .istore 16, 2, [], 0) := (lk_pts_3 (Nat.le_of_ble_eq_true rfl)).trans rfl
theorem i_L_paints_412 : am_i m_L_paints 412 = some (412, .iconst 1, 1, [], 1) := (lk_pts_3 (Nat.le_of_ble_eq_true rfl)).trans rfl
theorem i_L_paints_413 : am_i m_L_paints 413 = some (413, .iload_n 3, 1, [], 0) := (lk_pts_3 (Nat.le_of_ble_eq_true rfl)).trans rfl
theorem i_L_paints_414 : am_i m_L_paints 414 = some (414, .sipush 4096, 3, [], 4096) := (lk_pts_4 (Nat.le_of_ble_eq_true rfl)).trans rfl
theorem i_L_paints_417 : am_i m_L_paints 417 = some (417, .idiv, 1, [], 0) := (lk_pts_4 (Nat.le_of_ble_eq_true rfl)).trans rfl
theorem i_L_paints_418 : am_i m_L_paints 418 = some (418, .bipush 16, 2, [], 16) := (lk_pts_4 (Nat.le_of_ble_eq_true rfl)).trans rfl
theorem i_L_paints_420 : am_i m_L_paints 420 = some (420, .iload 15, 2, [], 0) := (lk_pts_4 (Nat.le_of_ble_eq_true rfl)).trans rfl
theorem i_L_paints_422 : am_i m_L_paints 422 = some (422, .isub, 1, [], 0) := (lk_pts_4 (Nat.le_of_ble_eq_true rfl)).trans rfl
theorem i_L_paints_423 : am_i m_L_paints 423 = some (423, .irem, 1, [], 0) := (lk_pts_4 (Nat.le_of_ble_eq_true rfl)).trans rfl
theorem i_L_paints_424 : am_i m_L_paints 424 = some (424, .iadd, 1, [], 0) := (lk_pts_4 (Nat.le_of_ble_eq_true rfl)).trans rfl
theorem i_L_paints_425 : am_i m_L_paints 425 = some (425, .istore 17, 2, [], 0) := (lk_pts_4 (Nat.le_of_ble_eq_true rfl)).trans rfl
theorem i_L_paints_427 : am_i m_L_paints 427 = some (427, .iload_n 3, 1, [], 0) := (lk_pts_4 (Nat.le_of_ble_eq_true rfl)).trans rfl
theorem i_L_paints_428 : am_i m_L_paints 428 = some (428, .ldc 157, 2, [], 70000) := (lk_pts_4 (Nat.le_of_ble_eq_true rfl)).trans rfl
theorem i_L_paints_430 : am_i m_L_paints 430 = some (430, .idiv, 1, [], 0) := (lk_pts_4 (Nat.le_of_ble_eq_true rfl)).trans rfl
theorem i_L_paints_431 : am_i m_L_paints 431 = some (431, .sipush 256, 3, [], 256) := (lk_pts_4 (Nat.le_of_ble_eq_true rfl)).trans rfl
theorem i_L_paints_434 : am_i m_L_paints 434 = some (434, .irem, 1, [], 0) := (lk_pts_4 (Nat.le_of_ble_eq_true rfl)).trans rfl
theorem i_L_paints_435 : am_i m_L_paints 435 = some (435, .istore 18, 2, [], 0) := (lk_pts_4 (Nat.le_of_ble_eq_true rfl)).trans rfl
theorem i_L_paints_437 : am_i m_L_paints 437 = some (437, .aload_n 0, 1, [], 0) := (lk_pts_4 (Nat.le_of_ble_eq_true rfl)).trans rfl
theorem i_L_paints_438 : am_i m_L_paints 438 = some (438, .bipush 102, 2, [], 102) := (lk_pts_4 (Nat.le_of_ble_eq_true rfl)).trans rfl
theorem i_L_paints_440 : am_i m_L_paints 440 = some (440, .iconst 5, 1, [], 5) := (lk_pts_4 (Nat.le_of_ble_eq_true rfl)).trans rfl
theorem i_L_paints_441 : am_i m_L_paints 441 = some (441, .newarray .int, 2, [], 0) := (lk_pts_4 (Nat.le_of_ble_eq_true rfl)).trans rfl
theorem b_L_paints_382 {a0 a2 : Nat} {v1 v4 v6 v7 v8 v9 v10 v11 v12 v13 v14 v15 v16 v17 v18 v19 v20 : Value} {x3 x5 x3' : Int} {h : am_H} (w3 : wr x3 = x3') (g1 : wr (16 - (Int.tmod x3' 16)) ≠ 0) (g2 : wr (16 - (Int.tmod (wr (Int.tdiv x3' 16)) 16)) ≠ 0) : rn m_L_paints 382 [.ref a0, v1, .ref a2, .int (mI x3), v4, .int (mI x5), v6, v7, v8, v9, v10, v11, v12, v13, v14, v15, v16, v17, v18, v19, v20] [] h = rn m_L_paints 443 [.ref a0, v1, .ref a2, .int (mI x3), v4, .int (mI x5), v6, v7, v8, v9, v10, v11, v12, (am_k1 v13), .int (mI (Int.tmod x3' 16)), .int (mI (Int.tmod (wr (Int.tdiv x3' 16)) 16)), .int (mI (1 + (Int.tmod (wr (Int.tdiv x3' 256)) (wr (16 - (Int.tmod x3' 16)))))), .int (mI (1 + (Int.tmod (wr (Int.tdiv x3' 4096)) (wr (16 - (Int.tmod (wr (Int.tdiv x3' 16)) 16)))))), .int (mI (Int.tmod (wr (Int.tdiv x3' 70000)) 256)), v19, v20] [.ref (hnx h), .int (mI 102), .ref a0] (aI 0 5 h) := by
  refine (tq_iload_n i_L_paints_382 rfl rfl).trans ?_
  refine (tq_bipush i_L_paints_383 rfl).trans ?_
  refine (tq_irem i_L_paints_385 w3 w_16 (by decide) rfl).trans ?_
  refine (tq_istore (L' := [.ref a0, v1, .ref a2, .int (mI x3), v4, .int (mI x5), v6, v7, v8, v9, v10, v11, v12, (am_k1 v13), .int (mI (Int.tmod x3' 16)), v15, v16, v17, v18, v19, v20]) i_L_paints_386 rfl rfl).trans ?_
  refine (tq_iload_n i_L_paints_388 rfl rfl).trans ?_
  refine (tq_bipush i_L_paints_389 rfl).trans ?_
  refine (tq_idiv i_L_paints_391 w3 w_16 (by decide) rfl).trans ?_
  refine (tq_bipush i_L_paints_392 rfl).trans ?_
  refine (tq_irem i_L_paints_394 rfl w_16 (by decide) rfl).trans ?_
  refine (tq_istore (L' := [.ref a0, v1, .ref a2, .int (mI x3), v4, .int (mI x5), v6, v7, v8, v9, v10, v11, v12, (am_k1 v13), .int (mI (Int.tmod x3' 16)), .int (mI (Int.tmod (wr (Int.tdiv x3' 16)) 16)), v16, v17, v18, v19, v20]) i_L_paints_395 rfl rfl).trans ?_
  refine (tq_iconst i_L_paints_397 rfl).trans ?_
  refine (tq_iload_n i_L_paints_398 rfl rfl).trans ?_
  refine (tq_sipush i_L_paints_399 rfl).trans ?_
  refine (tq_idiv i_L_paints_402 w3 w_256 (by decide) rfl).trans ?_
  refine (tq_bipush i_L_paints_403 rfl).trans ?_
  refine (tq_iload i_L_paints_405 rfl rfl).trans ?_
  refine (tq_isub i_L_paints_407 rfl).trans ?_
  refine (tq_irem i_L_paints_408 rfl rfl g1 rfl).trans ?_
  refine (tq_iadd i_L_paints_409 rfl).trans ?_
  refine (tq_istore (L' := [.ref a0, v1, .ref a2, .int (mI x3), v4, .int (mI x5), v6, v7, v8, v9, v10, v11, v12, (am_k1 v13), .int (mI (Int.tmod x3' 16)), .int (mI (Int.tmod (wr (Int.tdiv x3' 16)) 16)), .int (mI (1 + (Int.tmod (wr (Int.tdiv x3' 256)) (wr (16 - (Int.tmod x3' 16)))))), v17, v18, v19, v20]) i_L_paints_410 rfl rfl).trans ?_
  refine (tq_iconst i_L_paints_412 rfl).trans ?_
  refine (tq_iload_n i_L_paints_413 rfl rfl).trans ?_
  refine (tq_sipush i_L_paints_414 rfl).trans ?_
  refine (tq_idiv i_L_paints_417 w3 w_4096 (by decide) rfl).trans ?_
  refine (tq_bipush i_L_paints_418 rfl).trans ?_
  refine (tq_iload i_L_paints_420 rfl rfl).trans ?_
  refine (tq_isub i_L_paints_422 rfl).trans ?_
  refine (tq_irem i_L_paints_423 rfl rfl g2 rfl).trans ?_
  refine (tq_iadd i_L_paints_424 rfl).trans ?_
  refine (tq_istore (L' := [.ref a0, v1, .ref a2, .int (mI x3), v4, .int (mI x5), v6, v7, v8, v9, v10, v11, v12, (am_k1 v13), .int (mI (Int.tmod x3' 16)), .int (mI (Int.tmod (wr (Int.tdiv x3' 16)) 16)), .int (mI (1 + (Int.tmod (wr (Int.tdiv x3' 256)) (wr (16 - (Int.tmod x3' 16)))))), .int (mI (1 + (Int.tmod (wr (Int.tdiv x3' 4096)) (wr (16 - (Int.tmod (wr (Int.tdiv x3' 16)) 16)))))), v18, v19, v20]) i_L_paints_425 rfl rfl).trans ?_
  refine (tq_iload_n i_L_paints_427 rfl rfl).trans ?_
  refine (tq_ldc i_L_paints_428 rfl).trans ?_
  refine (tq_idiv i_L_paints_430 w3 w_70000 (by decide) rfl).trans ?_
  refine (tq_sipush i_L_paints_431 rfl).trans ?_
  refine (tq_irem i_L_paints_434 rfl w_256 (by decide) rfl).trans ?_
  refine (tq_istore (L' := [.ref a0, v1, .ref a2, .int (mI x3), v4, .int (mI x5), v6, v7, v8, v9, v10, v11, v12, (am_k1 v13), .int (mI (Int.tmod x3' 16)), .int (mI (Int.tmod (wr (Int.tdiv x3' 16)) 16)), .int (mI (1 + (Int.tmod (wr (Int.tdiv x3' 256)) (wr (16 - (Int.tmod x3' 16)))))), .int (mI (1 + (Int.tmod (wr (Int.tdiv x3' 4096)) (wr (16 - (Int.tmod (wr (Int.tdiv x3' 16)) 16)))))), .int (mI (Int.tmod (wr (Int.tdiv x3' 70000)) 256)), v19, v20]) i_L_paints_435 rfl rfl).trans ?_
  refine (tq_aload_n i_L_paints_437 rfl (isA_ref _) rfl).trans ?_
  refine (tq_bipush i_L_paints_438 rfl).trans ?_
  refine (tq_iconst i_L_paints_440 rfl).trans ?_
  exact tq_newI (n := 5) (t := 0) i_L_paints_441 w_5 (by decide) rfl (by decide) rfl rfl
theorem i_L_paints_443 : am_i m_L_paints 443 = some (443, .dup, 1, [], 0) := (lk_pts_4 (Nat.le_of_ble_eq_true rfl)).trans rfl
theorem i_L_paints_444 : am_i m_L_paints 444 = some (444, .iconst 0, 1, [], 0) := (lk_pts_4 (Nat.le_of_ble_eq_true rfl)).trans rfl
theorem i_L_paints_445 : am_i m_L_paints 445 = some (445, .iload 14, 2, [], 0) := (lk_pts_4 (Nat.le_of_ble_eq_true rfl)).trans rfl
theorem i_L_paints_447 : am_i m_L_paints 447 = some (447, .iastore, 1, [], 0) := (lk_pts_4 (Nat.le_of_ble_eq_true rfl)).trans rfl
theorem i_L_paints_448 : am_i m_L_paints 448 = some (448, .dup, 1, [], 0) := (lk_pts_4 (Nat.le_of_ble_eq_true rfl)).trans rfl
theorem i_L_paints_449 : am_i m_L_paints 449 = some (449, .iconst 1, 1, [], 1) := (lk_pts_4 (Nat.le_of_ble_eq_true rfl)).trans rfl
theorem i_L_paints_450 : am_i m_L_paints 450 = some (450, .iload 15, 2, [], 0) := (lk_pts_4 (Nat.le_of_ble_eq_true rfl)).trans rfl
theorem i_L_paints_452 : am_i m_L_paints 452 = some (452, .iastore, 1, [], 0) := (lk_pts_4 (Nat.le_of_ble_eq_true rfl)).trans rfl
theorem i_L_paints_453 : am_i m_L_paints 453 = some (453, .dup, 1, [], 0) := (lk_pts_4 (Nat.le_of_ble_eq_true rfl)).trans rfl
theorem i_L_paints_454 : am_i m_L_paints 454 = some (454, .iconst 2, 1, [], 2) := (lk_pts_4 (Nat.le_of_ble_eq_true rfl)).trans rfl
theorem i_L_paints_455 : am_i m_L_paints 455 = some (455, .iload 16, 2, [], 0) := (lk_pts_4 (Nat.le_of_ble_eq_true rfl)).trans rfl
theorem i_L_paints_457 : am_i m_L_paints 457 = some (457, .iastore, 1, [], 0) := (lk_pts_4 (Nat.le_of_ble_eq_true rfl)).trans rfl
theorem i_L_paints_458 : am_i m_L_paints 458 = some (458, .dup, 1, [], 0) := (lk_pts_4 (Nat.le_of_ble_eq_true rfl)).trans rfl
theorem i_L_paints_459 : am_i m_L_paints 459 = some (459, .iconst 3, 1, [], 3) := (lk_pts_4 (Nat.le_of_ble_eq_true rfl)).trans rfl
theorem i_L_paints_460 : am_i m_L_paints 460 = some (460, .iload 17, 2, [], 0) := (lk_pts_4 (Nat.le_of_ble_eq_true rfl)).trans rfl
theorem i_L_paints_462 : am_i m_L_paints 462 = some (462, .iastore, 1, [], 0) := (lk_pts_4 (Nat.le_of_ble_eq_true rfl)).trans rfl
theorem i_L_paints_463 : am_i m_L_paints 463 = some (463, .dup, 1, [], 0) := (lk_pts_4 (Nat.le_of_ble_eq_true rfl)).trans rfl
theorem i_L_paints_464 : am_i m_L_paints 464 = some (464, .iconst 4, 1, [], 4) := (lk_pts_4 (Nat.le_of_ble_eq_true rfl)).trans rfl
theorem i_L_paints_465 : am_i m_L_paints 465 = some (465, .iload 18, 2, [], 0) := (lk_pts_4 (Nat.le_of_ble_eq_true rfl)).trans rfl
theorem i_L_paints_467 : am_i m_L_paints 467 = some (467, .iastore, 1, [], 0) := (lk_pts_4 (Nat.le_of_ble_eq_true rfl)).trans rfl
theorem i_L_paints_468 : am_i m_L_paints 468 = some (468, .invokestatic 130, 3, [122], 0) := (lk_pts_4 (Nat.le_of_ble_eq_true rfl)).trans rfl
theorem b_L_paints_443 {a0 a2 as0 as2 n_as0 : Nat} {v1 v3 v4 v6 v7 v8 v9 v10 v11 v12 v13 v19 v20 : Value} {x5 x14 x15 x16 x17 x18 xs1 : Int} {h : am_H} (n1 : gn h as0 = n_as0) (s2 : sh h as0 = (1, 0)) (g3 : (0 : Int) ≤ 0 ∧ 0 < (n_as0 : Int)) (g4 : (0 : Int) ≤ 1 ∧ 1 < (n_as0 : Int)) (g5 : (0 : Int) ≤ 2 ∧ 2 < (n_as0 : Int)) (g6 : (0 : Int) ≤ 3 ∧ 3 < (n_as0 : Int)) (g7 : (0 : Int) ≤ 4 ∧ 4 < (n_as0 : Int)) : rn m_L_paints 443 [.ref a0, v1, .ref a2, v3, v4, .int (mI x5), v6, v7, v8, v9, v10, v11, v12, v13, .int (mI x14), .int (mI x15), .int (mI x16), .int (mI x17), .int (mI x18), v19, v20] [.ref as0, .int (mI xs1), .ref as2] h = cl m_L_paints 471 [.ref a0, v1, .ref a2, v3, v4, .int (mI x5), v6, v7, v8, v9, v10, v11, v12, v13, .int (mI x14), .int (mI x15), .int (mI x16), .int (mI x17), .int (mI x18), v19, v20] [] (rn m_L_paint 0 [.ref as2, .int (mI xs1), .ref as0, am_J] [] (uZ (uZ (uZ (uZ (uZ h as0 0 x14) as0 1 x15) as0 2 x16) as0 3 x17) as0 4 x18)) := by
  refine (tq_dup i_L_paints_443 rfl rfl).trans ?_
  refine (tq_iconst i_L_paints_444 rfl).trans ?_
  refine (tq_iload i_L_paints_445 rfl rfl).trans ?_
  refine (tq_iastore i_L_paints_447 s2 w_0 g3.1 (lt_gn n1 g3.2) rfl).trans ?_
  refine (tq_dup i_L_paints_448 rfl rfl).trans ?_
  refine (tq_iconst i_L_paints_449 rfl).trans ?_
  refine (tq_iload i_L_paints_450 rfl rfl).trans ?_
  refine (tq_iastore i_L_paints_452 ((sh_uZ _ _ _ _ _).trans s2) w_1 g4.1 (lt_gn ((gn_uZ _ _ _ _ _).trans n1) g4.2) rfl).trans ?_
  refine (tq_dup i_L_paints_453 rfl rfl).trans ?_
  refine (tq_iconst i_L_paints_454 rfl).trans ?_
  refine (tq_iload i_L_paints_455 rfl rfl).trans ?_
  refine (tq_iastore i_L_paints_457 ((sh_uZ _ _ _ _ _).trans ((sh_uZ _ _ _ _ _).trans s2)) w_2 g5.1 (lt_gn ((gn_uZ _ _ _ _ _).trans ((gn_uZ _ _ _ _ _).trans n1)) g5.2) rfl).trans ?_
  refine (tq_dup i_L_paints_458 rfl rfl).trans ?_
  refine (tq_iconst i_L_paints_459 rfl).trans ?_
  refine (tq_iload i_L_paints_460 rfl rfl).trans ?_
  refine (tq_iastore i_L_paints_462 ((sh_uZ _ _ _ _ _).trans ((sh_uZ _ _ _ _ _).trans ((sh_uZ _ _ _ _ _).trans s2))) w_3 g6.1 (lt_gn ((gn_uZ _ _ _ _ _).trans ((gn_uZ _ _ _ _ _).trans ((gn_uZ _ _ _ _ _).trans n1))) g6.2) rfl).trans ?_
  refine (tq_dup i_L_paints_463 rfl rfl).trans ?_
  refine (tq_iconst i_L_paints_464 rfl).trans ?_
  refine (tq_iload i_L_paints_465 rfl rfl).trans ?_
  refine (tq_iastore i_L_paints_467 ((sh_uZ _ _ _ _ _).trans ((sh_uZ _ _ _ _ _).trans ((sh_uZ _ _ _ _ _).trans ((sh_uZ _ _ _ _ _).trans s2)))) w_4 g7.1 (lt_gn ((gn_uZ _ _ _ _ _).trans ((gn_uZ _ _ _ _ _).trans ((gn_uZ _ _ _ _ _).trans ((gn_uZ _ _ _ _ _).trans n1)))) g7.2) rfl).trans ?_
  exact c_L_paint i_L_paints_468 (ltd d_L_paints (by decide)) (isA_ref _) (isA_ref _) stOk_0 rfl
theorem i_L_paints_471 : am_i m_L_paints 471 = some (471, .istore 6, 2, [], 0) := (lk_pts_4 (Nat.le_of_ble_eq_true rfl)).trans rfl
theorem i_L_paints_473 : am_i m_L_paints 473 = some (473, .iconst 0, 1, [], 0) := (lk_pts_4 (Nat.le_of_ble_eq_true rfl)).trans rfl
theorem i_L_paints_474 : am_i m_L_paints 474 = some (474, .istore 19, 2, [], 0) := (lk_pts_4 (Nat.le_of_ble_eq_true rfl)).trans rfl
theorem b_L_paints_471 {a0 a2 : Nat} {v1 v3 v4 v6 v7 v8 v9 v10 v11 v12 v13 v19 v20 : Value} {x5 x14 x15 x16 x17 x18 xs0 : Int} {h : am_H} : rn m_L_paints 471 [.ref a0, v1, .ref a2, v3, v4, .int (mI x5), v6, v7, v8, v9, v10, v11, v12, v13, .int (mI x14), .int (mI x15), .int (mI x16), .int (mI x17), .int (mI x18), v19, v20] [.int (mI xs0)] h = rn m_L_paints 476 [.ref a0, v1, .ref a2, v3, v4, .int (mI x5), .int (mI xs0), v7, v8, v9, v10, v11, v12, v13, .int (mI x14), .int (mI x15), .int (mI x16), .int (mI x17), .int (mI x18), .int (mI 0), v20] [] h := by
  refine (tq_istore (L' := [.ref a0, v1, .ref a2, v3, v4, .int (mI x5), .int (mI xs0), v7, v8, v9, v10, v11, v12, v13, .int (mI x14), .int (mI x15), .int (mI x16), .int (mI x17), .int (mI x18), v19, v20]) i_L_paints_471 rfl rfl).trans ?_
  refine (tq_iconst i_L_paints_473 rfl).trans ?_
  refine (tq_istore (L' := [.ref a0, v1, .ref a2, v3, v4, .int (mI x5), .int (mI xs0), v7, v8, v9, v10, v11, v12, v13, .int (mI x14), .int (mI x15), .int (mI x16), .int (mI x17), .int (mI x18), .int (mI 0), v20]) i_L_paints_474 rfl rfl).trans ?_
  rfl
theorem i_L_paints_476 : am_i m_L_paints 476 = some (476, .iload 19, 2, [], 0) := (lk_pts_4 (Nat.le_of_ble_eq_true rfl)).trans rfl
theorem i_L_paints_478 : am_i m_L_paints 478 = some (478, .iload 16, 2, [], 0) := (lk_pts_4 (Nat.le_of_ble_eq_true rfl)).trans rfl
theorem i_L_paints_480 : am_i m_L_paints 480 = some (480, .iload 17, 2, [], 0) := (lk_pts_4 (Nat.le_of_ble_eq_true rfl)).trans rfl
theorem i_L_paints_482 : am_i m_L_paints 482 = some (482, .imul, 1, [], 0) := (lk_pts_4 (Nat.le_of_ble_eq_true rfl)).trans rfl
theorem i_L_paints_483 : am_i m_L_paints 483 = some (483, .if_icmp .ge 56, 3, [], 0) := (lk_pts_4 (Nat.le_of_ble_eq_true rfl)).trans rfl
theorem i_L_paints_486 : am_i m_L_paints 486 = some (486, .bipush 16, 2, [], 16) := (lk_pts_4 (Nat.le_of_ble_eq_true rfl)).trans rfl
theorem i_L_paints_488 : am_i m_L_paints 488 = some (488, .iload 15, 2, [], 0) := (lk_pts_4 (Nat.le_of_ble_eq_true rfl)).trans rfl
theorem i_L_paints_490 : am_i m_L_paints 490 = some (490, .iload 19, 2, [], 0) := (lk_pts_4 (Nat.le_of_ble_eq_true rfl)).trans rfl
theorem i_L_paints_492 : am_i m_L_paints 492 = some (492, .iload 16, 2, [], 0) := (lk_pts_4 (Nat.le_of_ble_eq_true rfl)).trans rfl
theorem i_L_paints_494 : am_i m_L_paints 494 = some (494, .idiv, 1, [], 0) := (lk_pts_4 (Nat.le_of_ble_eq_true rfl)).trans rfl
theorem i_L_paints_495 : am_i m_L_paints 495 = some (495, .iadd, 1, [], 0) := (lk_pts_4 (Nat.le_of_ble_eq_true rfl)).trans rfl
theorem i_L_paints_496 : am_i m_L_paints 496 = some (496, .imul, 1, [], 0) := (lk_pts_4 (Nat.le_of_ble_eq_true rfl)).trans rfl
theorem i_L_paints_497 : am_i m_L_paints 497 = some (497, .iload 14, 2, [], 0) := (lk_pts_4 (Nat.le_of_ble_eq_true rfl)).trans rfl
theorem i_L_paints_499 : am_i m_L_paints 499 = some (499, .iadd, 1, [], 0) := (lk_pts_4 (Nat.le_of_ble_eq_true rfl)).trans rfl
theorem i_L_paints_500 : am_i m_L_paints 500 = some (500, .iload 19, 2, [], 0) := (lk_pts_4 (Nat.le_of_ble_eq_true rfl)).trans rfl
theorem i_L_paints_502 : am_i m_L_paints 502 = some (502, .iload 16, 2, [], 0) := (lk_pts_4 (Nat.le_of_ble_eq_true rfl)).trans rfl
theorem i_L_paints_504 : am_i m_L_paints 504 = some (504, .irem, 1, [], 0) := (lk_pts_4 (Nat.le_of_ble_eq_true rfl)).trans rfl
theorem i_L_paints_505 : am_i m_L_paints 505 = some (505, .iadd, 1, [], 0) := (lk_pts_4 (Nat.le_of_ble_eq_true rfl)).trans rfl
theorem i_L_paints_506 : am_i m_L_paints 506 = some (506, .istore 20, 2, [], 0) := (lk_pts_5 (Nat.le_of_ble_eq_true rfl)).trans rfl
theorem i_L_paints_508 : am_i m_L_paints 508 = some (508, .iload 5, 2, [], 0) := (lk_pts_5 (Nat.le_of_ble_eq_true rfl)).trans rfl
theorem i_L_paints_510 : am_i m_L_paints 510 = some (510, .aload_n 2, 1, [], 0) := (lk_pts_5 (Nat.le_of_ble_eq_true rfl)).trans rfl
theorem i_L_paints_511 : am_i m_L_paints 511 = some (511, .iload 20, 2, [], 0) := (lk_pts_5 (Nat.le_of_ble_eq_true rfl)).trans rfl
theorem i_L_paints_513 : am_i m_L_paints 513 = some (513, .iaload, 1, [], 0) := (lk_pts_5 (Nat.le_of_ble_eq_true rfl)).trans rfl
theorem i_L_paints_514 : am_i m_L_paints 514 = some (514, .iload 18, 2, [], 0) := (lk_pts_5 (Nat.le_of_ble_eq_true rfl)).trans rfl
theorem i_L_paints_516 : am_i m_L_paints 516 = some (516, .if_icmp .eq 7, 3, [], 0) := (lk_pts_5 (Nat.le_of_ble_eq_true rfl)).trans rfl
theorem i_L_paints_519 : am_i m_L_paints 519 = some (519, .iconst 1, 1, [], 1) := (lk_pts_5 (Nat.le_of_ble_eq_true rfl)).trans rfl
theorem i_L_paints_520 : am_i m_L_paints 520 = some (520, .goto 4, 3, [], 0) := (lk_pts_5 (Nat.le_of_ble_eq_true rfl)).trans rfl
theorem i_L_paints_523 : am_i m_L_paints 523 = some (523, .iconst 0, 1, [], 0) := (lk_pts_5 (Nat.le_of_ble_eq_true rfl)).trans rfl
theorem i_L_paints_524 : am_i m_L_paints 524 = some (524, .iadd, 1, [], 0) := (lk_pts_5 (Nat.le_of_ble_eq_true rfl)).trans rfl
theorem i_L_paints_525 : am_i m_L_paints 525 = some (525, .istore 5, 2, [], 0) := (lk_pts_5 (Nat.le_of_ble_eq_true rfl)).trans rfl
theorem i_L_paints_527 : am_i m_L_paints 527 = some (527, .aload_n 2, 1, [], 0) := (lk_pts_5 (Nat.le_of_ble_eq_true rfl)).trans rfl
theorem i_L_paints_528 : am_i m_L_paints 528 = some (528, .iload 20, 2, [], 0) := (lk_pts_5 (Nat.le_of_ble_eq_true rfl)).trans rfl
theorem i_L_paints_530 : am_i m_L_paints 530 = some (530, .iload 18, 2, [], 0) := (lk_pts_5 (Nat.le_of_ble_eq_true rfl)).trans rfl
theorem i_L_paints_532 : am_i m_L_paints 532 = some (532, .iastore, 1, [], 0) := (lk_pts_5 (Nat.le_of_ble_eq_true rfl)).trans rfl
theorem i_L_paints_533 : am_i m_L_paints 533 = some (533, .iinc 19 1, 3, [], 0) := (lk_pts_5 (Nat.le_of_ble_eq_true rfl)).trans rfl
theorem i_L_paints_536 : am_i m_L_paints 536 = some (536, .goto (-60), 3, [], 0) := (lk_pts_5 (Nat.le_of_ble_eq_true rfl)).trans rfl
theorem i_L_paints_539 : am_i m_L_paints 539 = some (539, .iload 5, 2, [], 0) := (lk_pts_5 (Nat.le_of_ble_eq_true rfl)).trans rfl
theorem i_L_paints_541 : am_i m_L_paints 541 = some (541, .istore 7, 2, [], 0) := (lk_pts_5 (Nat.le_of_ble_eq_true rfl)).trans rfl
theorem b_L_paints_476 {a0 a2 n_a2 : Nat} {v1 v3 v4 v7 v8 v9 v10 v11 v12 v13 v20 : Value} {x5 x6 x14 x15 x16 x17 x18 x19 x5' x6' x16' x18' x19' : Int} {h : am_H} (w5 : wr x5 = x5') (w6 : wr x6 = x6') (w16 : wr x16 = x16') (w18 : wr x18 = x18') (w19 : wr x19 = x19') (g1 : (¬ ((wr (x16 * x17)) ≤ x19')) → (x16' ≠ 0)) (n2 : gn h a2 = n_a2) (s3 : sh h a2 = (1, 0)) (g4 : (¬ ((wr (x16 * x17)) ≤ x19')) → (0 ≤ wr (((16 * (x15 + (Int.tdiv x19' x16'))) + x14) + (Int.tmod x19' x16')) ∧ wr (((16 * (x15 + (Int.tdiv x19' x16'))) + x14) + (Int.tmod x19' x16')) < (n_a2 : Int))) : rn m_L_paints 476 [.ref a0, v1, .ref a2, v3, v4, .int (mI x5), .int (mI x6), v7, v8, v9, v10, v11, v12, v13, .int (mI x14), .int (mI x15), .int (mI x16), .int (mI x17), .int (mI x18), .int (mI x19), v20] [] h = if (wr (x16 * x17)) ≤ x19' then if ¬ x6' = x5' then some (.inl (some (.int (mI 0))), h) else cl m_L_paints 555 [.ref a0, v1, .ref a2, v3, v4, .int (mI x5), .int (mI x6), .int (mI x5), v8, v9, v10, v11, v12, v13, .int (mI x14), .int (mI x15), .int (mI x16), .int (mI x17), .int (mI x18), .int (mI x19), v20] [] (rn m_L_isLike 0 [.ref a0, .ref a2, am_J] [] h) else rn m_L_paints 476 [.ref a0, v1, .ref a2, v3, (am_k1 v4), .int (mI (x5 + (bZ (¬ ((gZ h a2 (wr (((16 * (x15 + (Int.tdiv x19' x16'))) + x14) + (Int.tmod x19' x16')))) = x18'))))), .int (mI x6), v7, v8, v9, v10, v11, v12, v13, .int (mI x14), .int (mI x15), .int (mI x16), .int (mI x17), .int (mI x18), .int (mI (x19 + 1)), .int (mI (((16 * (x15 + (Int.tdiv x19' x16'))) + x14) + (Int.tmod x19' x16')))] [] (uZ h a2 (wr (((16 * (x15 + (Int.tdiv x19' x16'))) + x14) + (Int.tmod x19' x16'))) x18) := by
  refine (tq_iload i_L_paints_476 rfl rfl).trans ?_
  refine (tq_iload i_L_paints_478 rfl rfl).trans ?_
  refine (tq_iload i_L_paints_480 rfl rfl).trans ?_
  refine (tq_imul i_L_paints_482 rfl).trans ?_
  refine (tq_icmp_ge (pt := 539) i_L_paints_483 w19 rfl (by decide) rfl).trans ?_
  refine ite_congr rfl (fun c1 => ?_) (fun c1 => ?_)
  · refine (tq_iload i_L_paints_539 rfl rfl).trans ?_
    refine (tq_istore (L' := [.ref a0, v1, .ref a2, v3, v4, .int (mI x5), .int (mI x6), .int (mI x5), v8, v9, v10, v11, v12, v13, .int (mI x14), .int (mI x15), .int (mI x16), .int (mI x17), .int (mI x18), .int (mI x19), v20]) i_L_paints_541 rfl rfl).trans ?_
    refine (tq_iload i_L_paints_543 rfl rfl).trans ?_
    refine (tq_iload i_L_paints_545 rfl rfl).trans ?_
    refine (tq_icmp_ne (pt := 562) i_L_paints_547 w6 w5 (by decide) rfl).trans ?_
    refine ite_congr rfl (fun c2 => ?_) (fun c2 => ?_)
    · refine (tq_iconst i_L_paints_562 rfl).trans ?_
      exact tq_ireturn i_L_paints_563 r_L_paints (okB w_0 (by decide))
    · refine (tq_aload_n i_L_paints_550 rfl (isA_ref _) rfl).trans ?_
      refine (tq_aload_n i_L_paints_551 rfl (isA_ref _) rfl).trans ?_
      exact c_L_isLike i_L_paints_552 (ltd d_L_paints (by decide)) (isA_ref _) (isA_ref _) stOk_0 rfl
  · refine (tq_bipush i_L_paints_486 rfl).trans ?_
    refine (tq_iload i_L_paints_488 rfl rfl).trans ?_
    refine (tq_iload i_L_paints_490 rfl rfl).trans ?_
    refine (tq_iload i_L_paints_492 rfl rfl).trans ?_
    refine (tq_idiv i_L_paints_494 w19 w16 (g1 c1) rfl).trans ?_
    refine (tq_iadd i_L_paints_495 rfl).trans ?_
    refine (tq_imul i_L_paints_496 rfl).trans ?_
    refine (tq_iload i_L_paints_497 rfl rfl).trans ?_
    refine (tq_iadd i_L_paints_499 rfl).trans ?_
    refine (tq_iload i_L_paints_500 rfl rfl).trans ?_
    refine (tq_iload i_L_paints_502 rfl rfl).trans ?_
    refine (tq_irem i_L_paints_504 w19 w16 (g1 c1) rfl).trans ?_
    refine (tq_iadd i_L_paints_505 rfl).trans ?_
    refine (tq_istore (L' := [.ref a0, v1, .ref a2, v3, v4, .int (mI x5), .int (mI x6), v7, v8, v9, v10, v11, v12, v13, .int (mI x14), .int (mI x15), .int (mI x16), .int (mI x17), .int (mI x18), .int (mI x19), .int (mI (((16 * (x15 + (Int.tdiv x19' x16'))) + x14) + (Int.tmod x19' x16')))]) i_L_paints_506 rfl rfl).trans ?_
    refine (tq_iload i_L_paints_508 rfl rfl).trans ?_
    refine (tq_aload_n i_L_paints_510 rfl (isA_ref _) rfl).trans ?_
    refine (tq_iload i_L_paints_511 rfl rfl).trans ?_
    refine (tq_iaload i_L_paints_513 s3 (by decide) rfl (g4 c1).1 (lt_gn n2 (g4 c1).2) rfl).trans ?_
    refine (tq_iload i_L_paints_514 rfl rfl).trans ?_
    refine (tq_icmp_eq (pt := 523) i_L_paints_516 (wr_gZ _ _ _) w18 (by decide) rfl).trans ?_
    refine Eq.trans (b := if (gZ h a2 (wr (((16 * (x15 + (Int.tdiv x19' x16'))) + x14) + (Int.tmod x19' x16')))) = x18' then rn m_L_paints 524 [.ref a0, v1, .ref a2, v3, v4, .int (mI x5), .int (mI x6), v7, v8, v9, v10, v11, v12, v13, .int (mI x14), .int (mI x15), .int (mI x16), .int (mI x17), .int (mI x18), .int (mI x19), .int (mI (((16 * (x15 + (Int.tdiv x19' x16'))) + x14) + (Int.tmod x19' x16')))] [.int (mI 0), .int (mI x5)] h else rn m_L_paints 524 [.ref a0, v1, .ref a2, v3, v4, .int (mI x5), .int (mI x6), v7, v8, v9, v10, v11, v12, v13, .int (mI x14), .int (mI x15), .int (mI x16), .int (mI x17), .int (mI x18), .int (mI x19), .int (mI (((16 * (x15 + (Int.tdiv x19' x16'))) + x14) + (Int.tmod x19' x16')))] [.int (mI 1), .int (mI x5)] h) (ite_congr rfl (fun c3 => ?_) (fun c3 => ?_)) ?_
    · refine (tq_iconst i_L_paints_523 rfl).trans ?_
      rfl
    · refine (tq_iconst i_L_paints_519 rfl).trans ?_
      refine (tq_goto (pc' := 524) i_L_paints_520 (by decide)).trans ?_
      rfl
    refine Eq.trans ite_b01 ?_
    refine (tq_iadd i_L_paints_524 rfl).trans ?_
    refine (tq_istore (L' := [.ref a0, v1, .ref a2, v3, (am_k1 v4), .int (mI (x5 + (bZ (¬ ((gZ h a2 (wr (((16 * (x15 + (Int.tdiv x19' x16'))) + x14) + (Int.tmod x19' x16')))) = x18'))))), .int (mI x6), v7, v8, v9, v10, v11, v12, v13, .int (mI x14), .int (mI x15), .int (mI x16), .int (mI x17), .int (mI x18), .int (mI x19), .int (mI (((16 * (x15 + (Int.tdiv x19' x16'))) + x14) + (Int.tmod x19' x16')))]) i_L_paints_525 rfl rfl).trans ?_
    refine (tq_aload_n i_L_paints_527 rfl (isA_ref _) rfl).trans ?_
    refine (tq_iload i_L_paints_528 rfl rfl).trans ?_
    refine (tq_iload i_L_paints_530 rfl rfl).trans ?_
    refine (tq_iastore i_L_paints_532 s3 rfl (g4 c1).1 (lt_gn n2 (g4 c1).2) rfl).trans ?_
    refine (tq_iinc (L' := [.ref a0, v1, .ref a2, v3, (am_k1 v4), .int (mI (x5 + (bZ (¬ ((gZ h a2 (wr (((16 * (x15 + (Int.tdiv x19' x16'))) + x14) + (Int.tmod x19' x16')))) = x18'))))), .int (mI x6), v7, v8, v9, v10, v11, v12, v13, .int (mI x14), .int (mI x15), .int (mI x16), .int (mI x17), .int (mI x18), .int (mI (x19 + 1)), .int (mI (((16 * (x15 + (Int.tdiv x19' x16'))) + x14) + (Int.tmod x19' x16')))]) i_L_paints_533 rfl rfl rfl).trans ?_
    refine (tq_goto (pc' := 476) i_L_paints_536 (by decide)).trans ?_
    rfl
theorem i_L_paints_555 : am_i m_L_paints 555 = some (555, .ifCond .eq 7, 3, [], 0) := (lk_pts_5 (Nat.le_of_ble_eq_true rfl)).trans rfl
theorem i_L_paints_558 : am_i m_L_paints 558 = some (558, .iconst 1, 1, [], 1) := (lk_pts_5 (Nat.le_of_ble_eq_true rfl)).trans rfl
theorem i_L_paints_559 : am_i m_L_paints 559 = some (559, .goto 4, 3, [], 0) := (lk_pts_5 (Nat.le_of_ble_eq_true rfl)).trans rfl
theorem b_L_paints_555 {v0 v1 v2 v3 v4 v5 v6 v7 v8 v9 v10 v11 v12 v13 v14 v15 v16 v17 v18 v19 v20 : Value} {xs0 xs0' : Int} {h : am_H} (ws0 : wr xs0 = xs0') : rn m_L_paints 555 [v0, v1, v2, v3, v4, v5, v6, v7, v8, v9, v10, v11, v12, v13, v14, v15, v16, v17, v18, v19, v20] [.int (mI xs0)] h = some (.inl (some (.int (mI (bZ (¬ (xs0' = 0)))))), h) := by
  refine (tq_if_eq (pt := 562) i_L_paints_555 ws0 (by decide) rfl).trans ?_
  refine Eq.trans (b := if xs0' = 0 then rn m_L_paints 563 [v0, v1, v2, v3, v4, v5, v6, v7, v8, v9, v10, v11, v12, v13, v14, v15, v16, v17, v18, v19, v20] [.int (mI 0)] h else rn m_L_paints 563 [v0, v1, v2, v3, v4, v5, v6, v7, v8, v9, v10, v11, v12, v13, v14, v15, v16, v17, v18, v19, v20] [.int (mI 1)] h) (ite_congr rfl (fun c1 => ?_) (fun c1 => ?_)) ?_
  · refine (tq_iconst i_L_paints_562 rfl).trans ?_
    rfl
  · refine (tq_iconst i_L_paints_558 rfl).trans ?_
    refine (tq_goto (pc' := 563) i_L_paints_559 (by decide)).trans ?_
    rfl
  refine Eq.trans ite_b01 ?_
  exact tq_ireturn i_L_paints_563 r_L_paints (okB (wr_bZ _) (bZ_01 _))
theorem exg {α : Type} {r r2 : Option am_Rs} {V : Value} (Q : α → am_H → Prop) (e : r = r2) (k : ∃ a h', r2 = some (.inl (some V), h') ∧ Q a h') : ∃ a h', r = some (.inl (some V), h') ∧ Q a h' := e ▸ k
section PT
variable {σ : St} {h g h3 h4 : am_H} {D n : Nat} {xs T : Int → Int} {x w : Int} {A : Nat}
/-- the class has painted, the law's row not yet -/
theorem pt_mid (j : JL σ g D n xs) (md : Md (fun a _ => a = 3 ∨ a = 4) g h3) (z3 : gZ h3 3 = T) (pT : pixels T) : CJ (stc σ T) 0 h3 D ∧ (sh h3 51 = (1, 0) ∧ gn h3 51 = 256) ∧ (∀ i, 0 ≤ i → i < 256 → gZ h3 51 i = tc σ i) ∧ SR h3 n xs := by
  obtain ⟨⟨rc, wf, px⟩, sr, cv, sc⟩ := j
  obtain ⟨a1, a2, al⟩ := RC_al rc
  have r3 := RC_cv md rc
  rw [z3] at r3
  refine ⟨⟨r3, WfS_cv wf pT, ?_⟩, ⟨(md_sh md _).trans cv.1.1, (md_gn md _).trans cv.1.2⟩, fun i i0 i1 => (md_gZ md (by omega) i).trans (cv.2 i i0 i1), SR_fr (md_fr md) (by omega) (by omega) sr⟩
  rw [md_Z md (by omega)]
  exact px
theorem pt_fin (j3 : CJ (stc σ T) 0 h3 D) (s3 : sh h3 51 = (1, 0) ∧ gn h3 51 = 256) (m : Md (fun a _ => a = 51) h3 h4) (e : ∀ i, 0 ≤ i → i < 256 → gZ h4 51 i = T i) (v0 v1 v2 v3 v4 v5 v6 v7 v8 v9 v10 v11 v12 v13 v14 v15 v16 v17 v18 v19 v20 : Value) : cl m_L_paints 555 [v0, v1, v2, v3, v4, v5, v6, v7, v8, v9, v10, v11, v12, v13, v14, v15, v16, v17, v18, v19, v20] [] (rn m_L_isLike 0 [.ref 2, .ref 51, am_J] [] h4) = some (.inl (some (.int (mI 1))), h4) := by
  rw [like_ok (CJ_fr (md_fr m) (fun _ _ q => q) j3) ⟨⟨(md_sh m _).trans s3.1, (md_gn m _).trans s3.2⟩, e⟩, cl_v, b_L_paints_555 (xs0' := 1) (wr_id (by decide) (by decide))]
  rfl
theorem pt_end (j : JL σ g D n xs) (md : Md (fun a _ => a = 3 ∨ a = 4) g h3) (z3 : gZ h3 3 = T) (pT : pixels T) (m : Md (fun a _ => a = 51) h3 h4) (e : ∀ i, 0 ≤ i → i < 256 → gZ h4 51 i = T i) : JL (stc σ T) h4 D n xs ∧ Fr (fun _ _ => True) 0 0 g h4 := by
  obtain ⟨c3, s3, -, sr⟩ := pt_mid j md z3 pT
  obtain ⟨a1, a2, al⟩ := RC_al c3.1
  exact ⟨⟨CJ_fr (md_fr m) (fun _ _ q => q) c3, SR_fr (md_fr m) (by omega) (by omega) sr, ⟨⟨(md_sh m _).trans s3.1, (md_gn m _).trans s3.2⟩, e⟩, j.2.2.2⟩, Fr_tr (md_fr md) (md_fr m) (fun _ _ _ _ => trivial) (fun _ _ _ _ => trivial)⟩
theorem pt_up {k v : Int} {f : Int → Int} {q : am_H} (s3 : sh h3 51 = (1, 0)) (m : Md (fun a _ => a = 51) h3 q) (k0 : 0 ≤ k) (wv : wr v = v) (e : ∀ i, gZ q 51 i = if 0 ≤ i ∧ i < k then f i else gZ h3 51 i) (hv : v = f k) : Md (fun a _ => a = 51) h3 (uZ q 51 k v) ∧ ∀ i, gZ (uZ q 51 k v) 51 i = if 0 ≤ i ∧ i < k + 1 then f i else gZ h3 51 i := by
  have sq : (sh q 51).1 = 1 := sh1 ((md_sh m _).trans s3)
  refine ⟨Md_tr m (Md_uZ _ _ _ _), fun i => ?_⟩
  rw [gZ_uZ' sq, wv, e i]
  by_cases c : i = k
  · rw [if_pos c, if_pos (by omega), hv, c]
  · rw [if_neg c]
    by_cases c2 : 0 ≤ i ∧ i < k
    · rw [if_pos c2, if_pos (by omega)]
    · rw [if_neg c2, if_neg (by omega)]
theorem pt_slope (j : JL σ h D n xs) (hw : 0 ≤ w ∧ w ≤ 100000000) : ∃ σ' h', rn m_L_paints 44 [.ref 2, .int (mI x), .ref 51, .int (mI w), .ref A, .int (mI 0), am_J, am_J, am_J, am_J, am_J, am_J, am_J, am_J, am_J, am_J, am_J, am_J, am_J, am_J, am_J] [] h = some (.inl (some (.int (mI 1))), h') ∧ JL σ' h' D n xs ∧ tz σ' 7 = tz σ 7 ∧ Fr (fun _ _ => True) 1 3 h h' := by
  have px := j.1.2.1.2.2.1
  have ww : wr w = w := wr_id (by omega) (by omega)
  refine exg (fun σ' h' => JL σ' h' D n xs ∧ tz σ' 7 = tz σ 7 ∧ Fr (fun _ _ => True) 1 3 h h') (b_L_paints_44 ww) ?_
  rw [tmd hw.1, tdv hw.1, tdv hw.1, wr_id (z := w / 256) (by omega) (by omega), wr_id (z := w / 51200) (by omega) (by omega), tmd (x := w / 256) (by omega), tmd (x := w / 51200) (by omega)]
  have hf : 0 ≤ w % 256 ∧ w % 256 ≤ 255 := by omega
  have ha : -99 ≤ w / 256 % 199 - 99 ∧ w / 256 % 199 - 99 ≤ 99 := by omega
  have hb : -99 ≤ w / 51200 % 199 - 99 ∧ w / 51200 % 199 - 99 ≤ 99 := by omega
  generalize w % 256 = f at *
  generalize w / 256 % 199 - 99 = a at *
  generalize w / 51200 % 199 - 99 = b at *
  obtain ⟨⟨gn, gs, g0, g1, g2⟩, Fg⟩ := va3 (h := h) (x0 := f) (x1 := a) (x2 := b) (wr_id (by omega) (by omega)) (wr_id (by omega) (by omega)) (wr_id (by omega) (by omega))
  have jg := JL_fr Fg (fun _ _ q => q) j
  obtain ⟨h3, e, md, z3⟩ := slope_ok jg.1.1 (f := f) (a := a) (b := b) ⟨hf, ha, hb⟩
  have pT := px_sl (x := f) (a := a) (b := b) px
  obtain ⟨c3, s3, -, -⟩ := pt_mid jg md z3 pT
  refine exg (fun σ' h' => JL σ' h' D n xs ∧ tz σ' 7 = tz σ 7 ∧ Fr (fun _ _ => True) 1 3 h h') (b_L_paints_84 (n_as0 := 3) (gn_aI _ _ _) (sh_aI (by decide)) (by omega) (by omega) (by omega)) ?_
  rw [A_slope jg.1.1.1 gn gs g0 g1 g2 e, cl_v, b_L_paints_102]
  have T255 : slT (tc σ) f a b 256 255 = (f + 255 % 16 * a + 255 / 16 * b) % 256 := if_pos (by omega)
  suffices hs : ∃ h4, rn m_L_paints 107 [.ref 2, .int (mI x), .ref 51, .int (mI w), .ref A, am_k1 (.int (mI 0)), .int (mI (slT (tc σ) f a b 256 255)), am_k1 am_J, .int (mI f), .int (mI a), .int (mI b), .int (mI 0), am_J, am_J, am_J, am_J, am_J, am_J, am_J, am_J, am_J] [] h3 = some (.inl (some (.int (mI 1))), h4) ∧ Md (fun a _ => a = 51) h3 h4 ∧ ∀ i, 0 ≤ i → i < 256 → gZ h4 51 i = slT (tc σ) f a b 256 i by
    obtain ⟨h4, e4, m4, g4⟩ := hs
    obtain ⟨q1, q2⟩ := pt_end jg md z3 pT m4 g4
    exact ⟨_, h4, e4, q1, rfl, Fr_mono (Fr_tr (U := fun _ _ => True) Fg q2 (fun _ _ _ _ => trivial) (fun _ _ _ _ => trivial)) (fun _ _ _ q => q) (by omega) (by omega)⟩
  refine lp (m := m_L_paints) (pc := 107) (L := fun k (_ : Unit) => [.ref 2, .int (mI x), .ref 51, .int (mI w), .ref A, am_k1 (.int (mI 0)), .int (mI (slT (tc σ) f a b 256 255)), am_k1 am_J, .int (mI f), .int (mI a), .int (mI b), .int (mI k), am_J, am_J, am_J, am_J, am_J, am_J, am_J, am_J, am_J]) (N := 256) (P := fun r => ∃ h4, r = some (.inl (some (.int (mI 1))), h4) ∧ Md (fun a _ => a = 51) h3 h4 ∧ ∀ i, 0 ≤ i → i < 256 → gZ h4 51 i = slT (tc σ) f a b 256 i) (fun k _ q => 0 ≤ k ∧ Md (fun a _ => a = 51) h3 q ∧ ∀ i, gZ q 51 i = if 0 ≤ i ∧ i < k then (f + i % 16 * a + i / 16 * b) % 256 else gZ h3 51 i) ?_ ?_ 0 () h3 (by omega) ⟨by omega, Md_rf _ _, fun i => (if_neg (by omega)).symm⟩
  · rintro k _ q hk ⟨k0, m, eq⟩
    have wk : wr k = k := wr_id (by omega) (by omega)
    have p1 := mul99 (j := k % 16) (a := a) (by omega) ha
    have p2 := mul99 (j := k / 16) (a := b) (by omega) hb
    have wx : wr (slT (tc σ) f a b 256 255) = slT (tc σ) f a b 256 255 := by
      have := pT 255 (by decide) (by decide)
      exact wr_id (by omega) (by omega)
    obtain ⟨m2, e2⟩ := pt_up (f := fun i => (f + i % 16 * a + i / 16 * b) % 256) (v := (f + k % 16 * a + k / 16 * b) % 256) s3.1 m k0 (wr_id (by omega) (by omega)) eq rfl
    refine ⟨(), _, ?_, by omega, m2, e2⟩
    rw [b_L_paints_107 (n_a2 := 256) wx wk ((md_gn m _).trans s3.2) ((md_sh m _).trans s3.1) (fun q => by omega) (fun _ => by omega), if_neg (by omega), tmd k0, tdv k0, wr_id (z := f + k % 16 * a + k / 16 * b) (by omega) (by omega)]
    have t0 := dm256 (f + k % 16 * a + k / 16 * b)
    have tb : -256 < Int.tmod (f + k % 16 * a + k / 16 * b) 256 ∧ Int.tmod (f + k % 16 * a + k / 16 * b) 256 < 256 := by
      rw [tm_ite]
      split <;> omega
    rw [wr_id (z := Int.tmod (f + k % 16 * a + k / 16 * b) 256 + 256) (by omega) (by omega), t0]
  · rintro _ q ⟨-, m, eq⟩
    have wx : wr (slT (tc σ) f a b 256 255) = slT (tc σ) f a b 256 255 := by
      have := pT 255 (by decide) (by decide)
      exact wr_id (by omega) (by omega)
    have eT : ∀ i, 0 ≤ i → i < 256 → gZ q 51 i = slT (tc σ) f a b 256 i := fun i i0 i1 => by
      rw [eq i, if_pos ⟨i0, i1⟩]
      exact (if_pos (by omega)).symm
    rw [b_L_paints_107 (n_a2 := 256) wx (wr_id (z := 256) (by omega) (by omega)) ((md_gn m _).trans s3.2) ((md_sh m _).trans s3.1) (fun _ => by omega) (fun q => absurd q (by omega)), if_pos (by omega), if_neg (fun z => z (eT 255 (by decide) (by decide)).symm)]
    exact ⟨q, pt_fin c3 s3 m eT _ _ _ _ _ _ _ _ _ _ _ _ _ _ _ _ _ _ _ _ _, m, eT⟩
theorem wr_range (z : Int) : (-2147483648 ≤ wr z ∧ wr z ≤ 2147483647) ∧ (wr z = z % 4294967296 ∨ wr z = z % 4294967296 - 4294967296) := by
  rw [wr_bmod]
  unfold Int.bmod
  simp only
  split <;> omega
theorem up16 (z : Int) : wr (wr z / 2 ^ 16) % 2 ^ 16 = z % 4294967296 / 65536 := by
  have e : (2 : Int) ^ 16 = 65536 := by decide
  obtain ⟨r, b⟩ := wr_range z
  rw [e, wr_id (z := wr z / 65536) (by omega) (by omega)]
  omega
theorem pt_grain (j : JL σ h D n xs) (hw : 0 ≤ w ∧ w ≤ 100000000) : ∃ σ' h', rn m_L_paints 167 [.ref 2, .int (mI x), .ref 51, .int (mI w), .ref A, .int (mI 0), am_J, am_J, am_J, am_J, am_J, am_J, am_J, am_J, am_J, am_J, am_J, am_J, am_J, am_J, am_J] [] h = some (.inl (some (.int (mI 1))), h') ∧ JL σ' h' D n xs ∧ tz σ' 7 = tz σ 7 ∧ Fr (fun _ _ => True) 1 3 h h' := by
  have px := j.1.2.1.2.2.1
  have ww : wr w = w := wr_id (by omega) (by omega)
  refine exg (fun σ' h' => JL σ' h' D n xs ∧ tz σ' 7 = tz σ 7 ∧ Fr (fun _ _ => True) 1 3 h h') (b_L_paints_167 ww) ?_
  rw [tmd hw.1]
  have hz : 1 ≤ 1 + w % 99 ∧ 1 + w % 99 ≤ 99 := by omega
  generalize 1 + w % 99 = z at *
  obtain ⟨⟨gn, gs, g0, g1⟩, Fg⟩ := va2 (h := h) (x0 := w) (x1 := z) ww (wr_id (by omega) (by omega))
  have jg := JL_fr Fg (fun _ _ q => q) j
  obtain ⟨h3, e, md, z3⟩ := grain_ok jg.1.1 (s := w) (z := z) ww hz px
  have pT := px_gr (s := w) (z := z) px
  obtain ⟨c3, s3, g3, -⟩ := pt_mid jg md z3 pT
  refine exg (fun σ' h' => JL σ' h' D n xs ∧ tz σ' 7 = tz σ 7 ∧ Fr (fun _ _ => True) 1 3 h h') (b_L_paints_181 (n_as0 := 2) (gn_aI _ _ _) (sh_aI (by decide)) (by omega) (by omega)) ?_
  rw [A_grain jg.1.1.1 gn gs g0 g1 e, cl_v, b_L_paints_193]
  have gw := gsq_w ww
  suffices hs : ∃ h4, rn m_L_paints 201 [.ref 2, .int (mI x), .ref 51, .int (mI w), .ref A, am_k1 (.int (mI 0)), .int (mI (gsq w 256)), .int (mI w), am_J, am_J, am_k1 am_J, .int (mI z), .int (mI 0), am_J, am_J, am_J, am_J, am_J, am_J, am_J, am_J] [] h3 = some (.inl (some (.int (mI 1))), h4) ∧ Md (fun a _ => a = 51) h3 h4 ∧ ∀ i, 0 ≤ i → i < 256 → gZ h4 51 i = grT (tc σ) w z 256 i by
    obtain ⟨h4, e4, m4, g4⟩ := hs
    obtain ⟨q1, q2⟩ := pt_end jg md z3 pT m4 g4
    exact ⟨_, h4, e4, q1, rfl, Fr_mono (Fr_tr (U := fun _ _ => True) Fg q2 (fun _ _ _ _ => trivial) (fun _ _ _ _ => trivial)) (fun _ _ _ q => q) (by omega) (by omega)⟩
  have := lp (m := m_L_paints) (pc := 201) (L := fun k (u : Value) => [.ref 2, .int (mI x), .ref 51, .int (mI w), .ref A, am_k1 (.int (mI 0)), .int (mI (gsq w 256)), .int (mI (gsq w k.toNat)), am_J, am_J, am_k1 am_J, .int (mI z), .int (mI k), u, am_J, am_J, am_J, am_J, am_J, am_J, am_J]) (N := 256) (P := fun r => ∃ h4, r = some (.inl (some (.int (mI 1))), h4) ∧ Md (fun a _ => a = 51) h3 h4 ∧ ∀ i, 0 ≤ i → i < 256 → gZ h4 51 i = grT (tc σ) w z 256 i) (fun k _ q => 0 ≤ k ∧ Md (fun a _ => a = 51) h3 q ∧ ∀ i, gZ q 51 i = if 0 ≤ i ∧ i < k then clampv (tc σ i + grA w z i) else gZ h3 51 i) ?_ ?_ 0 am_J h3 (by omega) ⟨by omega, Md_rf _ _, fun i => (if_neg (by omega)).symm⟩
  · exact this
  · rintro k u q hk ⟨k0, m, eq⟩
    have wk : wr k = k := wr_id (by omega) (by omega)
    have cw : clampv (tc σ k + grA w z k) = clampv (tc σ k + grA w z k) := rfl
    obtain ⟨m2, e2⟩ := pt_up (f := fun i => clampv (tc σ i + grA w z i)) (v := clampv (tc σ k + grA w z k)) s3.1 m k0 (wr_clampv _) eq rfl
    have gk : gZ q 51 k = tc σ k := by rw [eq k, if_neg (by omega), g3 k k0 hk]
    have pk := px k k0 hk
    have nx : gsq w (k + 1).toNat = wr (1103515245 * gsq w k.toNat + 12345) := by
      rw [show (k + 1).toNat = k.toNat + 1 by omega]
      rfl
    refine ⟨.int (mI ((wr (wr (1103515245 * gsq w k.toNat + 12345) / 2 ^ 16)) % 2 ^ 16)), _, ?_, by omega, m2, e2⟩
    rw [b_L_paints_201 (n_a2 := 256) (gw 256) (gw _) wk ((md_gn m _).trans s3.2) ((md_sh m _).trans s3.1) (fun _ => by omega) (fun _ => by rw [wr_id (by omega) (by omega)]; omega), if_neg (by omega), nx, mI_wr, gk, up16, wr_id (z := 2 * z + 1) (by omega) (by omega)]
    have ub : 0 ≤ (1103515245 * gsq w k.toNat + 12345) % 4294967296 / 65536 ∧ (1103515245 * gsq w k.toNat + 12345) % 4294967296 / 65536 < 65536 := by omega
    have ga : grA w z k = (1103515245 * gsq w k.toNat + 12345) % 4294967296 / 65536 % (2 * z + 1) - z := rfl
    rw [tmd ub.1]
    have mb1 := Int.emod_nonneg ((1103515245 * gsq w k.toNat + 12345) % 4294967296 / 65536) (show 2 * z + 1 ≠ 0 by omega)
    have mb2 := Int.emod_lt_of_pos ((1103515245 * gsq w k.toNat + 12345) % 4294967296 / 65536) (show 0 < 2 * z + 1 by omega)
    generalize (1103515245 * gsq w k.toNat + 12345) % 4294967296 / 65536 % (2 * z + 1) = r at *
    rw [ga, wr_id (z := tc σ k + r - z) (by omega) (by omega), show max 0 (min 255 (tc σ k + r - z)) = clampv (tc σ k + (r - z)) by unfold clampv; repeat' split <;> omega]
  · rintro u q ⟨-, m, eq⟩
    have eT : ∀ i, 0 ≤ i → i < 256 → gZ q 51 i = grT (tc σ) w z 256 i := fun i i0 i1 => by
      rw [eq i, if_pos ⟨i0, i1⟩]
      exact (if_pos (by omega)).symm
    rw [b_L_paints_201 (n_a2 := 256) (gw 256) (gw _) (wr_id (z := 256) (by omega) (by omega)) ((md_gn m _).trans s3.2) ((md_sh m _).trans s3.1) (fun q => absurd q (by omega)) (fun q => absurd q (by omega)), if_pos (by omega), if_neg (fun z => z rfl)]
    exact ⟨q, pt_fin c3 s3 m eT _ _ _ _ _ _ _ _ _ _ _ _ _ _ _ _ _ _ _ _ _, m, eT⟩
theorem pt_move (j : JL σ h D n xs) (hw : 0 ≤ w ∧ w ≤ 100000000) (al : 51 < A ∧ A < hnx h) (sA : sh h A = (1, 0)) (nA : gn h A = 256) (eA : ∀ i, 0 ≤ i → i < 256 → gZ h A i = tc σ i) : ∃ σ' h', rn m_L_paints 270 [.ref 2, .int (mI x), .ref 51, .int (mI w), .ref A, .int (mI 0), am_J, am_J, am_J, am_J, am_J, am_J, am_J, am_J, am_J, am_J, am_J, am_J, am_J, am_J, am_J] [] h = some (.inl (some (.int (mI 1))), h') ∧ JL σ' h' D n xs ∧ tz σ' 7 = tz σ 7 ∧ Fr (fun _ _ => True) 1 3 h h' := by
  have px := j.1.2.1.2.2.1
  have ww : wr w = w := wr_id (by omega) (by omega)
  refine exg (fun σ' h' => JL σ' h' D n xs ∧ tz σ' 7 = tz σ 7 ∧ Fr (fun _ _ => True) 1 3 h h') (b_L_paints_270 ww) ?_
  rw [tmd hw.1, tdv hw.1, wr_id (z := w / 31) (by omega) (by omega), tmd (x := w / 31) (by omega)]
  have ha : -15 ≤ w % 31 - 15 ∧ w % 31 - 15 ≤ 15 := by omega
  have hb : -15 ≤ w / 31 % 31 - 15 ∧ w / 31 % 31 - 15 ≤ 15 := by omega
  generalize w % 31 - 15 = a at *
  generalize w / 31 % 31 - 15 = b at *
  obtain ⟨⟨gn, gs, g0, g1⟩, Fg⟩ := va2 (h := h) (x0 := a) (x1 := b) (wr_id (by omega) (by omega)) (wr_id (by omega) (by omega))
  have jg := JL_fr Fg (fun _ _ q => q) j
  have sAg := (Fg.1.sh1 al.2).trans sA
  have nAg := (Fg.1.gn1 al.2).trans nA
  have eAg : ∀ i, 0 ≤ i → i < 256 → gZ _ A i = tc σ i := fun i i0 i1 => (Fg.1.gZ1 i al.2 (fun q => q)).trans (eA i i0 i1)
  obtain ⟨h3, e, md, z3⟩ := move_ok jg.1.1 (a := a) (b := b) ⟨ha, hb⟩
  have pT := px_mv (a := a) (b := b) px
  obtain ⟨c3, s3, -, -⟩ := pt_mid jg md z3 pT
  have sA3 := (md_sh md A).trans sAg
  have nA3 := (md_gn md A).trans nAg
  have eA3 : ∀ i, 0 ≤ i → i < 256 → gZ h3 A i = tc σ i := fun i i0 i1 => (md_gZ md (by omega) i).trans (eAg i i0 i1)
  refine exg (fun σ' h' => JL σ' h' D n xs ∧ tz σ' 7 = tz σ 7 ∧ Fr (fun _ _ => True) 1 3 h h') (b_L_paints_297 (n_as0 := 2) (gn_aI _ _ _) (sh_aI (by decide)) (by omega) (by omega)) ?_
  rw [A_move jg.1.1.1 gn gs g0 g1 e, cl_v, b_L_paints_310]
  have wx : wr (mvT (tc σ) a b 0) = mvT (tc σ) a b 0 := by
    have := pT 0 (by decide) (by decide)
    exact wr_id (by omega) (by omega)
  suffices hs : ∃ h4, rn m_L_paints 315 [.ref 2, .int (mI x), .ref 51, .int (mI w), .ref A, am_k1 (.int (mI 0)), .int (mI (mvT (tc σ) a b 0)), am_J, am_J, am_J, am_J, am_k1 am_J, .int (mI a), .int (mI b), .int (mI 0), am_J, am_J, am_J, am_J, am_J, am_J] [] h3 = some (.inl (some (.int (mI 1))), h4) ∧ Md (fun a _ => a = 51) h3 h4 ∧ ∀ i, 0 ≤ i → i < 256 → gZ h4 51 i = mvT (tc σ) a b i by
    obtain ⟨h4, e4, m4, g4⟩ := hs
    obtain ⟨q1, q2⟩ := pt_end jg md z3 pT m4 g4
    exact ⟨_, h4, e4, q1, rfl, Fr_mono (Fr_tr (U := fun _ _ => True) Fg q2 (fun _ _ _ _ => trivial) (fun _ _ _ _ => trivial)) (fun _ _ _ q => q) (by omega) (by omega)⟩
  refine lp (m := m_L_paints) (pc := 315) (L := fun k (_ : Unit) => [.ref 2, .int (mI x), .ref 51, .int (mI w), .ref A, am_k1 (.int (mI 0)), .int (mI (mvT (tc σ) a b 0)), am_J, am_J, am_J, am_J, am_k1 am_J, .int (mI a), .int (mI b), .int (mI k), am_J, am_J, am_J, am_J, am_J, am_J]) (N := 256) (P := fun r => ∃ h4, r = some (.inl (some (.int (mI 1))), h4) ∧ Md (fun a _ => a = 51) h3 h4 ∧ ∀ i, 0 ≤ i → i < 256 → gZ h4 51 i = mvT (tc σ) a b i) (fun k _ q => 0 ≤ k ∧ Md (fun a _ => a = 51) h3 q ∧ ∀ i, gZ q 51 i = if 0 ≤ i ∧ i < k then tc σ (16 * ((i / 16 - b) % 16) + (i % 16 - a) % 16) else gZ h3 51 i) ?_ ?_ 0 () h3 (by omega) ⟨by omega, Md_rf _ _, fun i => (if_neg (by omega)).symm⟩
  · rintro k _ q hk ⟨k0, m, eq⟩
    have wk : wr k = k := wr_id (by omega) (by omega)
    have pc := px (16 * ((k / 16 - b) % 16) + (k % 16 - a) % 16) (by omega) (by omega)
    obtain ⟨m2, e2⟩ := pt_up (f := fun i => tc σ (16 * ((i / 16 - b) % 16) + (i % 16 - a) % 16)) (v := tc σ (16 * ((k / 16 - b) % 16) + (k % 16 - a) % 16)) s3.1 m k0 (wr_id (by omega) (by omega)) eq rfl
    refine ⟨(), _, ?_, by omega, m2, e2⟩
    have ix : wr ((Int.tmod (wr (Int.tmod (wr (Int.tdiv k 16 - b)) 16 + 16)) 16) * 16 + Int.tmod (wr (Int.tmod (wr (Int.tmod k 16 - a)) 16 + 16)) 16) = 16 * ((k / 16 - b) % 16) + (k % 16 - a) % 16 := by
      rw [tmd k0, tdv k0, wr_id (z := k / 16 - b) (by omega) (by omega), wr_id (z := k % 16 - a) (by omega) (by omega)]
      have t1 : -16 < Int.tmod (k / 16 - b) 16 ∧ Int.tmod (k / 16 - b) 16 < 16 := by
        rw [tm_ite]
        split <;> omega
      have t2 : -16 < Int.tmod (k % 16 - a) 16 ∧ Int.tmod (k % 16 - a) 16 < 16 := by
        rw [tm_ite]
        split <;> omega
      rw [wr_id (z := Int.tmod (k / 16 - b) 16 + 16) (by omega) (by omega), wr_id (z := Int.tmod (k % 16 - a) 16 + 16) (by omega) (by omega), dm16, dm16, wr_id (by omega) (by omega)]
      omega
    rw [b_L_paints_315 (n_a2 := 256) (n_a4 := 256) wx wk ((md_gn m _).trans s3.2) ((md_sh m _).trans s3.1) (fun q => by omega) ((md_gn m _).trans nA3) ((md_sh m _).trans sA3) (fun _ => by rw [ix]; omega) (fun _ => by omega), if_neg (by omega), ix, md_gZ m (by omega), eA3 _ (by omega) (by omega)]
  · rintro _ q ⟨-, m, eq⟩
    have eT : ∀ i, 0 ≤ i → i < 256 → gZ q 51 i = mvT (tc σ) a b i := fun i i0 i1 => by
      rw [eq i, if_pos ⟨i0, i1⟩]
      exact (if_pos (by omega)).symm
    rw [b_L_paints_315 (n_a2 := 256) (n_a4 := 256) wx (wr_id (z := 256) (by omega) (by omega)) ((md_gn m _).trans s3.2) ((md_sh m _).trans s3.1) (fun _ => by omega) ((md_gn m _).trans nA3) ((md_sh m _).trans sA3) (fun q => absurd q (by omega)) (fun q => absurd q (by omega)), if_pos (by omega), if_neg (fun z => z (eT 0 (by decide) (by decide)).symm)]
    exact ⟨q, pt_fin c3 s3 m eT _ _ _ _ _ _ _ _ _ _ _ _ _ _ _ _ _ _ _ _ _, m, eT⟩
/-- where the law stands in the rectangle -/
def fT (X Y W k : Int) : Int := 16 * (Y + k / W) + X + k % W
theorem fT_next {X Y W H k : Int} (hX : 0 ≤ X ∧ X < 16) (hY : 0 ≤ Y ∧ Y < 16) (hW : 1 ≤ W ∧ W ≤ 16 - X) (hH : 1 ≤ H ∧ H ≤ 16 - Y) (hk : 0 ≤ k ∧ k < W * H) : (0 ≤ k % W ∧ k % W < W) ∧ (0 ≤ k / W ∧ k / W < H) ∧ (0 ≤ fT X Y W k ∧ fT X Y W k < 256) ∧ fT X Y W k + 1 ≤ fT X Y W (k + 1) ∧ ∀ i, fT X Y W k + 1 ≤ i → i < fT X Y W (k + 1) → ¬ inF X Y W H i := by
  have m0 := Int.emod_nonneg k (show W ≠ 0 by omega)
  have m1 := Int.emod_lt_of_pos k (show 0 < W by omega)
  have d0 : 0 ≤ k / W := Int.ediv_nonneg hk.1 (by omega)
  have d1 : k / W < H := Int.ediv_lt_of_lt_mul (by omega) (by rw [Int.mul_comm]; exact hk.2)
  have e0 := Int.mul_ediv_add_emod k W
  have nx : ((k + 1) / W = k / W ∧ (k + 1) % W = k % W + 1 ∧ k % W + 1 < W) ∨ ((k + 1) / W = k / W + 1 ∧ (k + 1) % W = 0 ∧ k % W + 1 = W) := by
    by_cases q : k % W + 1 < W
    · have := (Int.ediv_emod_unique (a := k + 1) (b := W) (q := k / W) (r := k % W + 1) (by omega)).mpr ⟨by omega, by omega, q⟩
      exact Or.inl ⟨this.1, this.2, q⟩
    · have := (Int.ediv_emod_unique (a := k + 1) (b := W) (q := k / W + 1) (r := 0) (by omega)).mpr ⟨by rw [Int.mul_add]; omega, by omega, by omega⟩
      exact Or.inr ⟨this.1, this.2, by omega⟩
  unfold fT
  refine ⟨⟨m0, m1⟩, ⟨d0, d1⟩, by omega, ?_, fun i i0 i1 => ?_⟩
  · rcases nx with ⟨e1, e2, e3⟩ | ⟨e1, e2, e3⟩ <;> rw [e1, e2] <;> omega
  · unfold inF
    rcases nx with ⟨e1, e2, e3⟩ | ⟨e1, e2, e3⟩
    · rw [e1, e2] at i1
      omega
    · rw [e1, e2] at i1
      omega
theorem fT_end {X Y W H : Int} (hX : 0 ≤ X ∧ X < 16) (hY : 0 ≤ Y ∧ Y < 16) (hW : 1 ≤ W ∧ W ≤ 16 - X) (hH : 1 ≤ H ∧ H ≤ 16 - Y) : fT X Y W (W * H) = 16 * (Y + H) + X ∧ ∀ i, 16 * (Y + H) + X ≤ i → i < 256 → ¬ inF X Y W H i := by
  refine ⟨?_, fun i i0 i1 => ?_⟩
  · unfold fT
    rw [Int.mul_ediv_cancel_left _ (by omega), Int.mul_emod_right]
    omega
  · unfold inF
    omega
theorem flN_1 {c : Int → Int} {X Y W H b T : Int} (hT : 0 ≤ T) (q : inF X Y W H T) : flN c X Y W H b (T + 1) = flN c X Y W H b T + (if c T ≠ b then 1 else 0) := by
  unfold flN
  rw [show (T + 1).toNat = T.toNat + 1 by omega]
  unfold inF at q
  simp only [sm]
  rw [show ((T.toNat : Nat) : Int) = T by omega]
  by_cases e : c T ≠ b
  · rw [if_pos e, if_pos ⟨q, e⟩]
  · rw [if_neg e, if_neg (fun z => e z.2)]
theorem flT_1 {c : Int → Int} {X Y W H b T : Int} (hT : 0 ≤ T ∧ T < 256) (q : inF X Y W H T) (i : Int) : (if i = T then b else flT c X Y W H b T i) = flT c X Y W H b (T + 1) i := by
  unfold inF at q
  unfold flT
  by_cases e : i = T
  · rw [if_pos e, if_pos (by subst e; exact ⟨hT, q, by omega⟩)]
  · rw [if_neg e]
    by_cases z : (0 ≤ i ∧ i < 256) ∧ ((X ≤ i % 16 ∧ i % 16 < X + W) ∧ Y ≤ i / 16 ∧ i / 16 < Y + H) ∧ i < T
    · rw [if_pos z, if_pos ⟨z.1, z.2.1, by omega⟩]
    · rw [if_neg z, if_neg (fun y => z ⟨y.1, y.2.1, by omega⟩)]
theorem mul16 {W H : Int} (hW : 1 ≤ W ∧ W ≤ 16) (hH : 1 ≤ H ∧ H ≤ 16) : 1 ≤ W * H ∧ W * H ≤ 256 := by
  have h1 : W * 1 ≤ W * H := Int.mul_le_mul_of_nonneg_left hH.1 (by omega)
  have h2 : W * H ≤ W * 16 := Int.mul_le_mul_of_nonneg_left hH.2 (by omega)
  omega
theorem pt_fill (j : JL σ h D n xs) (hw : 0 ≤ w ∧ w ≤ 100000000) : ∃ σ' h', rn m_L_paints 382 [.ref 2, .int (mI x), .ref 51, .int (mI w), .ref A, .int (mI 0), am_J, am_J, am_J, am_J, am_J, am_J, am_J, am_J, am_J, am_J, am_J, am_J, am_J, am_J, am_J] [] h = some (.inl (some (.int (mI 1))), h') ∧ JL σ' h' D n xs ∧ tz σ' 7 = tz σ 7 ∧ Fr (fun _ _ => True) 1 5 h h' := by
  have px := j.1.2.1.2.2.1
  have ww : wr w = w := wr_id (by omega) (by omega)
  have t1 : Int.tmod w 16 = w % 16 := tmd hw.1
  have t2 : Int.tdiv w 16 = w / 16 := tdv hw.1
  have t3 : wr (w / 16) = w / 16 := wr_id (by omega) (by omega)
  have t4 : Int.tmod (w / 16) 16 = w / 16 % 16 := tmd (by omega)
  have t5 : wr (16 - w % 16) = 16 - w % 16 := wr_id (by omega) (by omega)
  have t6 : wr (16 - w / 16 % 16) = 16 - w / 16 % 16 := wr_id (by omega) (by omega)
  refine exg (fun σ' h' => JL σ' h' D n xs ∧ tz σ' 7 = tz σ 7 ∧ Fr (fun _ _ => True) 1 5 h h') (b_L_paints_382 ww (by rw [t1, t5]; omega) (by rw [t2, t3, t4, t6]; omega)) ?_
  rw [t1, t2, t3, t4, t5, t6, tdv hw.1, tdv hw.1, tdv hw.1, wr_id (z := w / 256) (by omega) (by omega), wr_id (z := w / 4096) (by omega) (by omega), wr_id (z := w / 70000) (by omega) (by omega), tmd (x := w / 256) (by omega), tmd (x := w / 4096) (by omega), tmd (x := w / 70000) (by omega)]
  have hX : 0 ≤ w % 16 ∧ w % 16 < 16 := by omega
  have hY : 0 ≤ w / 16 % 16 ∧ w / 16 % 16 < 16 := by omega
  have hW : 1 ≤ 1 + w / 256 % (16 - w % 16) ∧ 1 + w / 256 % (16 - w % 16) ≤ 16 - w % 16 := by
    have := Int.emod_nonneg (w / 256) (show 16 - w % 16 ≠ 0 by omega)
    have := Int.emod_lt_of_pos (w / 256) (show 0 < 16 - w % 16 by omega)
    omega
  have hH : 1 ≤ 1 + w / 4096 % (16 - w / 16 % 16) ∧ 1 + w / 4096 % (16 - w / 16 % 16) ≤ 16 - w / 16 % 16 := by
    have := Int.emod_nonneg (w / 4096) (show 16 - w / 16 % 16 ≠ 0 by omega)
    have := Int.emod_lt_of_pos (w / 4096) (show 0 < 16 - w / 16 % 16 by omega)
    omega
  have hb : 0 ≤ w / 70000 % 256 ∧ w / 70000 % 256 ≤ 255 := by omega
  generalize 1 + w / 256 % (16 - w % 16) = W at *
  generalize 1 + w / 4096 % (16 - w / 16 % 16) = H at *
  generalize w / 70000 % 256 = b at *
  generalize w % 16 = X at *
  generalize w / 16 % 16 = Y at *
  have f : isF X Y W H b := ⟨⟨hX, hY⟩, ⟨hW, hH⟩, hb⟩
  have hWH := mul16 (W := W) (H := H) (by omega) (by omega)
  obtain ⟨⟨gn, gs, g0, g1, g2, g3, g4⟩, Fg⟩ := va5 (h := h) (x0 := X) (x1 := Y) (x2 := W) (x3 := H) (x4 := b) (wr_id (by omega) (by omega)) (wr_id (by omega) (by omega)) (wr_id (by omega) (by omega)) (wr_id (by omega) (by omega)) (wr_id (by omega) (by omega))
  have jg := JL_fr Fg (fun _ _ q => q) j
  obtain ⟨h3, e, md, z3⟩ := fill_ok jg.1.1 f
  have pT := px_fl px f
  obtain ⟨c3, s3, e3, -⟩ := pt_mid jg md z3 pT
  refine exg (fun σ' h' => JL σ' h' D n xs ∧ tz σ' 7 = tz σ 7 ∧ Fr (fun _ _ => True) 1 5 h h') (b_L_paints_443 (n_as0 := 5) (gn_aI _ _ _) (sh_aI (by decide)) (by omega) (by omega) (by omega) (by omega) (by omega)) ?_
  have ea := A_fill jg.1.1.1 gn gs g0 g1 g2 g3 g4 e
  unfold v5 at ea
  rw [ea, cl_v, b_L_paints_471]
  have nb := flN_b (tc σ) X Y W H b 256
  have wx : wr (flN (tc σ) X Y W H b 256) = flN (tc σ) X Y W H b 256 := wr_id (by omega) (by omega)
  have wW : wr W = W := wr_id (by omega) (by omega)
  have wb : wr b = b := wr_id (by omega) (by omega)
  have wWH : wr (W * H) = W * H := wr_id (by omega) (by omega)
  suffices hs : ∃ h4, rn m_L_paints 476 [.ref 2, .int (mI x), .ref 51, .int (mI w), .ref A, .int (mI 0), .int (mI (flN (tc σ) X Y W H b 256)), am_J, am_J, am_J, am_J, am_J, am_J, am_k1 am_J, .int (mI X), .int (mI Y), .int (mI W), .int (mI H), .int (mI b), .int (mI 0), am_J] [] h3 = some (.inl (some (.int (mI 1))), h4) ∧ Md (fun a _ => a = 51) h3 h4 ∧ ∀ i, 0 ≤ i → i < 256 → gZ h4 51 i = flT (tc σ) X Y W H b 256 i by
    obtain ⟨h4, e4, m4, g4⟩ := hs
    obtain ⟨q1, q2⟩ := pt_end jg md z3 pT m4 g4
    exact ⟨_, h4, e4, q1, rfl, Fr_mono (Fr_tr (U := fun _ _ => True) Fg q2 (fun _ _ _ _ => trivial) (fun _ _ _ _ => trivial)) (fun _ _ _ q => q) (by omega) (by omega)⟩
  have T0 : fT X Y W 0 = 16 * Y + X := by
    unfold fT
    rw [Int.zero_ediv, Int.zero_emod]
    omega
  have z0 : flN (tc σ) X Y W H b (16 * Y + X) = 0 := by
    have : flN (tc σ) X Y W H b (16 * Y + X) = flN (tc σ) X Y W H b 0 := flN_gap (by omega) (by omega) (fun k k0 k1 q => by unfold inF at q; omega)
    rw [this]
    rfl
  have t0 : flT (tc σ) X Y W H b (16 * Y + X) = tc σ := by
    have : flT (tc σ) X Y W H b (16 * Y + X) = flT (tc σ) X Y W H b 0 := flT_gap (by omega) (fun k k0 k1 _ _ q => by unfold inF at q; omega)
    rw [this]
    funext i
    exact if_neg (by omega)
  have hlp := lp (m := m_L_paints) (pc := 476) (L := fun k (u : Value × Value) => [.ref 2, .int (mI x), .ref 51, .int (mI w), u.1, .int (mI (flN (tc σ) X Y W H b (fT X Y W k))), .int (mI (flN (tc σ) X Y W H b 256)), am_J, am_J, am_J, am_J, am_J, am_J, am_k1 am_J, .int (mI X), .int (mI Y), .int (mI W), .int (mI H), .int (mI b), .int (mI k), u.2]) (N := W * H) (P := fun r => ∃ h4, r = some (.inl (some (.int (mI 1))), h4) ∧ Md (fun a _ => a = 51) h3 h4 ∧ ∀ i, 0 ≤ i → i < 256 → gZ h4 51 i = flT (tc σ) X Y W H b 256 i) (fun k _ q => 0 ≤ k ∧ Md (fun a _ => a = 51) h3 q ∧ ∀ i, 0 ≤ i → i < 256 → gZ q 51 i = flT (tc σ) X Y W H b (fT X Y W k) i) ?_ ?_ 0 (.ref A, am_J) h3 (by omega) ⟨by omega, Md_rf _ _, fun i i0 i1 => by rw [T0, t0]; exact e3 i i0 i1⟩
  · rw [T0, z0] at hlp
    exact hlp
  · rintro k ⟨u1, u2⟩ q hk ⟨k0, m, eq⟩
    obtain ⟨⟨m0, m1⟩, ⟨d0, d1⟩, tb, tn, gap⟩ := fT_next hX hY hW hH ⟨k0, hk⟩
    have hin : inF X Y W H (fT X Y W k) := by
      unfold inF fT
      omega
    have wk : wr k = k := wr_id (by omega) (by omega)
    have ix : 16 * (Y + Int.tdiv k W) + X + Int.tmod k W = fT X Y W k := by
      rw [tdv k0, tmd k0]
      rfl
    have wix : wr (fT X Y W k) = fT X Y W k := wr_id (by omega) (by omega)
    have nb2 := flN_b (tc σ) X Y W H b (fT X Y W k)
    have wc : wr (flN (tc σ) X Y W H b (fT X Y W k)) = flN (tc σ) X Y W H b (fT X Y W k) := wr_id (by omega) (by omega)
    have sq : sh q 51 = (1, 0) := (md_sh m _).trans s3.1
    have gq : gZ q 51 (fT X Y W k) = tc σ (fT X Y W k) := by
      rw [eq _ tb.1 tb.2]
      exact if_neg (by omega)
    have st := b_L_paints_476 (a0 := 2) (a2 := 51) (n_a2 := 256) (v1 := .int (mI x)) (v3 := .int (mI w)) (v4 := u1) (v7 := am_J) (v8 := am_J) (v9 := am_J) (v10 := am_J) (v11 := am_J) (v12 := am_J) (v13 := am_k1 am_J) (v20 := u2) (x14 := X) (x15 := Y) (x17 := H) (h := q) wc wx wW wb wk (fun _ => by omega) ((md_gn m _).trans s3.2) sq (fun _ => by rw [ix, wix]; omega)
    rw [wWH, if_neg (by omega), ix, wix, gq] at st
    have eN : flN (tc σ) X Y W H b (fT X Y W k) + bZ (¬ tc σ (fT X Y W k) = b) = flN (tc σ) X Y W H b (fT X Y W (k + 1)) := by
      rw [flN_gap (T := fT X Y W k + 1) (T' := fT X Y W (k + 1)) (by omega) tn gap, flN_1 tb.1 hin]
      by_cases c : tc σ (fT X Y W k) = b
      · rw [bZ_f (fun z => z c), if_neg (fun z => z c)]
      · rw [bZ_t c, if_pos c]
    rw [eN] at st
    refine ⟨(_, _), _, st, by omega, Md_tr m (Md_uZ _ _ _ _), fun i i0 i1 => ?_⟩
    rw [gZ_uZ' (sh1 sq), wb, eq i i0 i1, flT_1 tb hin i, flT_gap (T := fT X Y W k + 1) (T' := fT X Y W (k + 1)) tn (fun i a1 a2 _ _ => gap i a1 a2)]
  · rintro ⟨u1, u2⟩ q ⟨-, m, eq⟩
    obtain ⟨te, tg⟩ := fT_end hX hY hW hH
    have eT : ∀ i, 0 ≤ i → i < 256 → gZ q 51 i = flT (tc σ) X Y W H b 256 i := fun i i0 i1 => by
      rw [eq i i0 i1, te]
      by_cases c : 16 * (Y + H) + X ≤ 256
      · rw [flT_gap (T := 16 * (Y + H) + X) (T' := 256) c (fun k k0 k1 _ _ => tg k k0 k1)]
      · rw [flT_gap (T := 256) (T' := 16 * (Y + H) + X) (by omega) (fun k k0 k1 _ k2 => by omega)]
    have eN : flN (tc σ) X Y W H b (fT X Y W (W * H)) = flN (tc σ) X Y W H b 256 := by
      rw [te]
      by_cases c : 16 * (Y + H) + X ≤ 256
      · exact (flN_gap (T := 16 * (Y + H) + X) (T' := 256) (by omega) c (fun k k0 k1 => tg k k0 k1)).symm
      · exact flN_gap (T := 256) (T' := 16 * (Y + H) + X) (by omega) (by omega) (fun k k0 k1 q => by unfold inF at q; omega)
    have st := b_L_paints_476 (a0 := 2) (a2 := 51) (n_a2 := 256) (v1 := .int (mI x)) (v3 := .int (mI w)) (v4 := u1) (v7 := am_J) (v8 := am_J) (v9 := am_J) (v10 := am_J) (v11 := am_J) (v12 := am_J) (v13 := am_k1 am_J) (v20 := u2) (x5 := flN (tc σ) X Y W H b 256) (x6 := flN (tc σ) X Y W H b 256) (x14 := X) (x15 := Y) (x16 := W) (x17 := H) (x18 := b) (x19 := W * H) (h := q) wx wx wW wb wWH (fun z => absurd z (by rw [wWH]; omega)) ((md_gn m _).trans s3.2) ((md_sh m _).trans s3.1) (fun z => absurd z (by rw [wWH]; omega))
    rw [wWH, if_pos (Int.le_refl _), if_neg (fun z => z rfl)] at st
    rw [eN, st]
    exact ⟨q, pt_fin c3 s3 m eT _ _ _ _ _ _ _ _ _ _ _ _ _ _ _ _ _ _ _ _ _, m, eT⟩
/-- the law paints, and finds the canvas as it should be -/
theorem paints_ok (j : JL σ h D n xs) (hx : 0 ≤ x ∧ x ≤ 100000000) : ∃ σ' h', rn m_L_paints 0 [.ref 2, .int (mI x), .ref 51, am_J, am_J, am_J, am_J, am_J, am_J, am_J, am_J, am_J, am_J, am_J, am_J, am_J, am_J, am_J, am_J, am_J, am_J] [] h = some (.inl (some (.int (mI 1))), h') ∧ JL σ' h' D n xs ∧ tz σ' 7 = tz σ 7 ∧ Fr (fun _ _ => True) 2 261 h h' := by
  have wx : wr x = x := wr_id (by omega) (by omega)
  obtain ⟨a1, a2, al⟩ := RC_al j.1.1
  have sc := j.2.2.1.1
  have F : Fr (fun _ _ => False) 1 256 h (aC 51 h) := by
    have := Fr_alc h (gn h 51) (.inl (0, gn h 51, .inl (gI h 51)))
    rw [sc.2] at this
    unfold aC
    rw [sc.2]
    exact this
  have j1 := JL_fr F (fun _ _ q => q) j
  have s1 : sh (aC 51 h) (hnx h) = (1, 0) := sh_aC (sh1 sc.1)
  have n1 : gn (aC 51 h) (hnx h) = 256 := (gn_aC _ _).trans sc.2
  have e1 : ∀ i, 0 ≤ i → i < 256 → gZ (aC 51 h) (hnx h) i = tc σ i := fun i i0 i1 => (gZ_aC _ _ _).trans (j.2.2.1.2 i i0 i1)
  have nx : hnx h < hnx (aC 51 h) := by rw [hnx_aC]; omega
  have st := (b_L_paints_0 (a0 := 2) (a2 := 51) (h := h) wx sc.1).trans (b_L_paints_8 (v4 := am_J) (v5 := am_J) (v6 := am_J) (v7 := am_J) (v8 := am_J) (v9 := am_J) (v10 := am_J) (v11 := am_J) (v12 := am_J) (v13 := am_J) (v14 := am_J) (v15 := am_J) (v16 := am_J) (v17 := am_J) (v18 := am_J) (v19 := am_J) (v20 := am_J) wx s1)
  rw [tdv hx.1, tmd hx.1, wr_id (z := x % 4) (by omega) (by omega)] at st
  have hw : 0 ≤ x / 4 ∧ x / 4 ≤ 100000000 := by omega
  have fin : ∀ {σ' : St} {h' : am_H} {k : Nat}, k ≤ 5 → JL σ' h' D n xs ∧ tz σ' 7 = tz σ 7 ∧ Fr (fun _ _ => True) 1 k (aC 51 h) h' → JL σ' h' D n xs ∧ tz σ' 7 = tz σ 7 ∧ Fr (fun _ _ => True) 2 261 h h' := fun {σ' h' k} hk q => ⟨q.1, q.2.1, Fr_mono (Fr_tr (U := fun _ _ => True) F q.2.2 (fun _ _ _ _ => trivial) (fun _ _ _ _ => trivial)) (fun _ _ _ q => q) (by omega) (by omega)⟩
  have c4 : x % 4 = 0 ∨ x % 4 = 1 ∨ x % 4 = 2 ∨ x % 4 = 3 := by omega
  rcases c4 with c | c | c | c
  · obtain ⟨σ', h', e, q⟩ := pt_slope (x := x) (A := hnx h) j1 hw
    rw [c] at st
    exact ⟨σ', h', st.trans ((sw_at (x := 0) _ _ _ _ 0 44 rfl rfl).trans e), fin (by decide) q⟩
  · obtain ⟨σ', h', e, q⟩ := pt_grain (x := x) (A := hnx h) j1 hw
    rw [c] at st
    exact ⟨σ', h', st.trans ((sw_at (x := 1) _ _ _ _ 1 167 rfl rfl).trans e), fin (by decide) q⟩
  · obtain ⟨σ', h', e, q⟩ := pt_move (x := x) (A := hnx h) j1 hw ⟨by omega, nx⟩ s1 n1 e1
    rw [c] at st
    exact ⟨σ', h', st.trans ((sw_at (x := 2) _ _ _ _ 2 270 rfl rfl).trans e), fin (by decide) q⟩
  · obtain ⟨σ', h', e, q⟩ := pt_fill (x := x) (A := hnx h) j1 hw
    rw [c] at st
    exact ⟨σ', h', st.trans ((sw_df (x := 3) _ _ _ _ (Or.inr (by decide))).trans e), fin (by decide) q⟩
end PT
