/-! ===== the model's canvas ===== -/
section MC
variable {σ : St} {h h' : am_H} {D c s : Nat}
theorem RM_cv {cc ss : Nat} (F : Fr (fun a k => (a = 51 ∧ k = 0) ∨ a = 52) cc ss h h') (r : RM σ h D) : RM (stc σ (gZ h' 52)) h' D := by
  obtain ⟨r1, al, r3, r4, r5, r6, r7⟩ := r
  have nx := F.1.nx
  have nd : ∀ a k, dyn h D a → ¬ ((a = 51 ∧ k = 0) ∨ a = 52) := fun a k q w => by
    unfold dyn at q
    omega
  exact ⟨K10_fr F (by omega) r1, by omega, rfl, RMs_fr (σ := σ) F al (fun k h1 h2 w => by omega) r4, RMk_fr (σ := σ) F al (by omega) r5, RMp_fr (σ := σ) F (dyn_fr F) nd al (fun a k a0 a1 w => by omega) r6, RMd_fr (σ := σ) F (dyn_fr F) nd al (fun k h1 w => by omega) (by omega) (by omega) r7⟩
theorem MRs_cv {cc ss : Nat} {r : Option am_Rs} {v : Value} {f : Int → Int} (rm : RM σ h D) (F : Fr (fun a k => (a = 51 ∧ k = 0) ∨ a = 52) cc ss h h') (e : gZ h' 52 = f) (t : fZ h' 51 0 = 0) (er : r = some (.inl (some v), h')) : MRs (stc σ f) h D r v 0 cc ss := by
  have m := RM_cv F rm
  rw [e] at m
  exact ⟨h', er, m, t, Fr_mono F (fun a k _ q => by unfold SMl2; omega) (Nat.le_refl _) (Nat.le_refl _)⟩
theorem i_X12_fill_0 : am_i m_X12_fill 0 = some (0, .iload_n 1, 1, [], 0) := rfl
theorem i_X12_fill_1 : am_i m_X12_fill 1 = some (1, .iconst 0, 1, [], 0) := rfl
theorem i_X12_fill_2 : am_i m_X12_fill 2 = some (2, .bipush 15, 2, [], 15) := rfl
theorem i_X12_fill_4 : am_i m_X12_fill 4 = some (4, .invokestatic 113, 3, [27], 0) := rfl
theorem i_X12_fill_7 : am_i m_X12_fill 7 = some (7, .ifCond .eq 54, 3, [], 0) := rfl
theorem i_X12_fill_10 : am_i m_X12_fill 10 = some (10, .iload_n 2, 1, [], 0) := rfl
theorem i_X12_fill_11 : am_i m_X12_fill 11 = some (11, .iconst 0, 1, [], 0) := rfl
theorem i_X12_fill_12 : am_i m_X12_fill 12 = some (12, .bipush 15, 2, [], 15) := rfl
theorem i_X12_fill_14 : am_i m_X12_fill 14 = some (14, .invokestatic 113, 3, [27], 0) := rfl
theorem i_X12_fill_17 : am_i m_X12_fill 17 = some (17, .ifCond .eq 44, 3, [], 0) := rfl
theorem i_X12_fill_20 : am_i m_X12_fill 20 = some (20, .iload_n 3, 1, [], 0) := rfl
theorem i_X12_fill_21 : am_i m_X12_fill 21 = some (21, .iconst 1, 1, [], 1) := rfl
theorem i_X12_fill_22 : am_i m_X12_fill 22 = some (22, .bipush 16, 2, [], 16) := rfl
theorem i_X12_fill_24 : am_i m_X12_fill 24 = some (24, .iload_n 1, 1, [], 0) := rfl
theorem i_X12_fill_25 : am_i m_X12_fill 25 = some (25, .isub, 1, [], 0) := rfl
theorem i_X12_fill_26 : am_i m_X12_fill 26 = some (26, .invokestatic 113, 3, [27], 0) := rfl
theorem i_X12_fill_29 : am_i m_X12_fill 29 = some (29, .ifCond .eq 32, 3, [], 0) := rfl
theorem i_X12_fill_32 : am_i m_X12_fill 32 = some (32, .iload 4, 2, [], 0) := rfl
theorem i_X12_fill_34 : am_i m_X12_fill 34 = some (34, .iconst 1, 1, [], 1) := rfl
theorem i_X12_fill_35 : am_i m_X12_fill 35 = some (35, .bipush 16, 2, [], 16) := rfl
theorem i_X12_fill_37 : am_i m_X12_fill 37 = some (37, .iload_n 2, 1, [], 0) := rfl
theorem i_X12_fill_38 : am_i m_X12_fill 38 = some (38, .isub, 1, [], 0) := rfl
theorem i_X12_fill_39 : am_i m_X12_fill 39 = some (39, .invokestatic 113, 3, [27], 0) := rfl
theorem i_X12_fill_42 : am_i m_X12_fill 42 = some (42, .ifCond .eq 19, 3, [], 0) := rfl
theorem i_X12_fill_45 : am_i m_X12_fill 45 = some (45, .iload 5, 2, [], 0) := rfl
theorem i_X12_fill_47 : am_i m_X12_fill 47 = some (47, .iconst 0, 1, [], 0) := rfl
theorem i_X12_fill_48 : am_i m_X12_fill 48 = some (48, .sipush 255, 3, [], 255) := rfl
theorem i_X12_fill_51 : am_i m_X12_fill 51 = some (51, .invokestatic 113, 3, [27], 0) := rfl
theorem i_X12_fill_54 : am_i m_X12_fill 54 = some (54, .ifCond .eq 7, 3, [], 0) := rfl
theorem i_X12_fill_57 : am_i m_X12_fill 57 = some (57, .iconst 1, 1, [], 1) := rfl
theorem i_X12_fill_58 : am_i m_X12_fill 58 = some (58, .goto 4, 3, [], 0) := rfl
theorem i_X12_fill_61 : am_i m_X12_fill 61 = some (61, .iconst 0, 1, [], 0) := rfl
theorem i_X12_fill_62 : am_i m_X12_fill 62 = some (62, .istore 6, 2, [], 0) := rfl
theorem i_X12_fill_64 : am_i m_X12_fill 64 = some (64, .aload_n 0, 1, [], 0) := rfl
theorem i_X12_fill_65 : am_i m_X12_fill 65 = some (65, .iload 6, 2, [], 0) := rfl
theorem i_X12_fill_67 : am_i m_X12_fill 67 = some (67, .ifCond .eq 7, 3, [], 0) := rfl
theorem i_X12_fill_70 : am_i m_X12_fill 70 = some (70, .iconst 0, 1, [], 0) := rfl
theorem i_X12_fill_71 : am_i m_X12_fill 71 = some (71, .goto 4, 3, [], 0) := rfl
theorem i_X12_fill_74 : am_i m_X12_fill 74 = some (74, .iconst 1, 1, [], 1) := rfl
theorem i_X12_fill_75 : am_i m_X12_fill 75 = some (75, .putfield 110, 3, [10, 0, 0], 0) := rfl
theorem i_X12_fill_78 : am_i m_X12_fill 78 = some (78, .iconst 0, 1, [], 0) := rfl
theorem i_X12_fill_79 : am_i m_X12_fill 79 = some (79, .istore 7, 2, [], 0) := rfl
theorem i_X12_fill_81 : am_i m_X12_fill 81 = some (81, .iconst 0, 1, [], 0) := rfl
theorem i_X12_fill_82 : am_i m_X12_fill 82 = some (82, .istore 8, 2, [], 0) := rfl
theorem b_X12_fill_0 {a0 : Nat} {x1 x2 x3 x4 x5 x1' x2' x3' x4' x5' : Int} {h : am_H} (w1 : wr x1 = x1') (w2 : wr x2 = x2') (w3 : wr x3 = x3') (w4 : wr x4 = x4') (w5 : wr x5 = x5') (k1 : K10 h a0) : rn m_X12_fill 0 [.ref a0, .int (mI x1), .int (mI x2), .int (mI x3), .int (mI x4), .int (mI x5), am_J, am_J, am_J, am_J] [] h = rn m_X12_fill 84 [.ref a0, .int (mI x1), .int (mI x2), .int (mI x3), .int (mI x4), .int (mI x5), .int (mI (bZ ((¬ (x1' < 0) ∧ (¬ (15 < x1'))) ∧ ((¬ (x2' < 0) ∧ (¬ (15 < x2'))) ∧ ((¬ (x3' < 1) ∧ (¬ ((wr (16 - x1)) < x3'))) ∧ ((¬ (x4' < 1) ∧ (¬ ((wr (16 - x2)) < x4'))) ∧ ((¬ (x5' < 0) ∧ (¬ (255 < x5')))))))))), .int (mI 0), .int (mI 0), am_J] [] (uF 10 h a0 0 (.int (mI (bZ (¬ ((¬ (x1' < 0) ∧ (¬ (15 < x1'))) ∧ ((¬ (x2' < 0) ∧ (¬ (15 < x2'))) ∧ ((¬ (x3' < 1) ∧ (¬ ((wr (16 - x1)) < x3'))) ∧ ((¬ (x4' < 1) ∧ (¬ ((wr (16 - x2)) < x4'))) ∧ ((¬ (x5' < 0) ∧ (¬ (255 < x5'))))))))))))) := by
  refine (tq_iload_n i_X12_fill_0 rfl rfl).trans ?_
  refine (tq_iconst i_X12_fill_1 rfl).trans ?_
  refine (tq_bipush i_X12_fill_2 rfl).trans ?_
  refine (c_X12_in i_X12_fill_4 (ltd d_X12_fill (by decide)) stOk_0 rfl).trans ?_
  refine (congrArg (cl _ _ _ _) (b_X12_in_0 w1 w_0 w_15)).trans ?_
  refine (cl_v _ _ _ _ _ _).trans ?_
  refine (tq_ifb_eq (pt := 61) i_X12_fill_7 (by decide) rfl).trans ?_
  refine Eq.trans (b := if (¬ (x1' < 0) ∧ (¬ (15 < x1'))) then rn m_X12_fill 62 [.ref a0, .int (mI x1), .int (mI x2), .int (mI x3), .int (mI x4), .int (mI x5), am_J, am_J, am_J, am_J] [.int (mI (bZ ((¬ (x2' < 0) ∧ (¬ (15 < x2'))) ∧ ((¬ (x3' < 1) ∧ (¬ ((wr (16 - x1)) < x3'))) ∧ ((¬ (x4' < 1) ∧ (¬ ((wr (16 - x2)) < x4'))) ∧ ((¬ (x5' < 0) ∧ (¬ (255 < x5')))))))))] h else rn m_X12_fill 62 [.ref a0, .int (mI x1), .int (mI x2), .int (mI x3), .int (mI x4), .int (mI x5), am_J, am_J, am_J, am_J] [.int (mI 0)] h) (ite_congr rfl (fun c1 => ?_) (fun c1 => ?_)) ?_
  · refine (tq_iload_n i_X12_fill_10 rfl rfl).trans ?_
    refine (tq_iconst i_X12_fill_11 rfl).trans ?_
    refine (tq_bipush i_X12_fill_12 rfl).trans ?_
    refine (c_X12_in i_X12_fill_14 (ltd d_X12_fill (by decide)) stOk_0 rfl).trans ?_
    refine (congrArg (cl _ _ _ _) (b_X12_in_0 w2 w_0 w_15)).trans ?_
    refine (cl_v _ _ _ _ _ _).trans ?_
    refine (tq_ifb_eq (pt := 61) i_X12_fill_17 (by decide) rfl).trans ?_
    refine Eq.trans (b := if (¬ (x2' < 0) ∧ (¬ (15 < x2'))) then rn m_X12_fill 62 [.ref a0, .int (mI x1), .int (mI x2), .int (mI x3), .int (mI x4), .int (mI x5), am_J, am_J, am_J, am_J] [.int (mI (bZ ((¬ (x3' < 1) ∧ (¬ ((wr (16 - x1)) < x3'))) ∧ ((¬ (x4' < 1) ∧ (¬ ((wr (16 - x2)) < x4'))) ∧ ((¬ (x5' < 0) ∧ (¬ (255 < x5'))))))))] h else rn m_X12_fill 62 [.ref a0, .int (mI x1), .int (mI x2), .int (mI x3), .int (mI x4), .int (mI x5), am_J, am_J, am_J, am_J] [.int (mI 0)] h) (ite_congr rfl (fun c2 => ?_) (fun c2 => ?_)) ?_
    · refine (tq_iload_n i_X12_fill_20 rfl rfl).trans ?_
      refine (tq_iconst i_X12_fill_21 rfl).trans ?_
      refine (tq_bipush i_X12_fill_22 rfl).trans ?_
      refine (tq_iload_n i_X12_fill_24 rfl rfl).trans ?_
      refine (tq_isub i_X12_fill_25 rfl).trans ?_
      refine (c_X12_in i_X12_fill_26 (ltd d_X12_fill (by decide)) stOk_0 rfl).trans ?_
      refine (congrArg (cl _ _ _ _) (b_X12_in_0 w3 w_1 rfl)).trans ?_
      refine (cl_v _ _ _ _ _ _).trans ?_
      refine (tq_ifb_eq (pt := 61) i_X12_fill_29 (by decide) rfl).trans ?_
      refine Eq.trans (b := if (¬ (x3' < 1) ∧ (¬ ((wr (16 - x1)) < x3'))) then rn m_X12_fill 62 [.ref a0, .int (mI x1), .int (mI x2), .int (mI x3), .int (mI x4), .int (mI x5), am_J, am_J, am_J, am_J] [.int (mI (bZ ((¬ (x4' < 1) ∧ (¬ ((wr (16 - x2)) < x4'))) ∧ ((¬ (x5' < 0) ∧ (¬ (255 < x5')))))))] h else rn m_X12_fill 62 [.ref a0, .int (mI x1), .int (mI x2), .int (mI x3), .int (mI x4), .int (mI x5), am_J, am_J, am_J, am_J] [.int (mI 0)] h) (ite_congr rfl (fun c3 => ?_) (fun c3 => ?_)) ?_
      · refine (tq_iload i_X12_fill_32 rfl rfl).trans ?_
        refine (tq_iconst i_X12_fill_34 rfl).trans ?_
        refine (tq_bipush i_X12_fill_35 rfl).trans ?_
        refine (tq_iload_n i_X12_fill_37 rfl rfl).trans ?_
        refine (tq_isub i_X12_fill_38 rfl).trans ?_
        refine (c_X12_in i_X12_fill_39 (ltd d_X12_fill (by decide)) stOk_0 rfl).trans ?_
        refine (congrArg (cl _ _ _ _) (b_X12_in_0 w4 w_1 rfl)).trans ?_
        refine (cl_v _ _ _ _ _ _).trans ?_
        refine (tq_ifb_eq (pt := 61) i_X12_fill_42 (by decide) rfl).trans ?_
        refine Eq.trans (b := if (¬ (x4' < 1) ∧ (¬ ((wr (16 - x2)) < x4'))) then rn m_X12_fill 62 [.ref a0, .int (mI x1), .int (mI x2), .int (mI x3), .int (mI x4), .int (mI x5), am_J, am_J, am_J, am_J] [.int (mI (bZ ((¬ (x5' < 0) ∧ (¬ (255 < x5'))))))] h else rn m_X12_fill 62 [.ref a0, .int (mI x1), .int (mI x2), .int (mI x3), .int (mI x4), .int (mI x5), am_J, am_J, am_J, am_J] [.int (mI 0)] h) (ite_congr rfl (fun c4 => ?_) (fun c4 => ?_)) ?_
        · refine (tq_iload i_X12_fill_45 rfl rfl).trans ?_
          refine (tq_iconst i_X12_fill_47 rfl).trans ?_
          refine (tq_sipush i_X12_fill_48 rfl).trans ?_
          refine (c_X12_in i_X12_fill_51 (ltd d_X12_fill (by decide)) stOk_0 rfl).trans ?_
          refine (congrArg (cl _ _ _ _) (b_X12_in_0 w5 w_0 w_255)).trans ?_
          refine (cl_v _ _ _ _ _ _).trans ?_
          refine (tq_ifb_eq (pt := 61) i_X12_fill_54 (by decide) rfl).trans ?_
          refine Eq.trans (b := if (¬ (x5' < 0) ∧ (¬ (255 < x5'))) then rn m_X12_fill 62 [.ref a0, .int (mI x1), .int (mI x2), .int (mI x3), .int (mI x4), .int (mI x5), am_J, am_J, am_J, am_J] [.int (mI 1)] h else rn m_X12_fill 62 [.ref a0, .int (mI x1), .int (mI x2), .int (mI x3), .int (mI x4), .int (mI x5), am_J, am_J, am_J, am_J] [.int (mI 0)] h) (ite_congr rfl (fun c5 => ?_) (fun c5 => ?_)) ?_
          · refine (tq_iconst i_X12_fill_57 rfl).trans ?_
            refine (tq_goto (pc' := 62) i_X12_fill_58 (by decide)).trans ?_
            rfl
          · refine (tq_iconst i_X12_fill_61 rfl).trans ?_
            rfl
          exact ite_b10
        · refine (tq_iconst i_X12_fill_61 rfl).trans ?_
          rfl
        exact ite_bp0
      · refine (tq_iconst i_X12_fill_61 rfl).trans ?_
        rfl
      exact ite_bp0
    · refine (tq_iconst i_X12_fill_61 rfl).trans ?_
      rfl
    exact ite_bp0
  · refine (tq_iconst i_X12_fill_61 rfl).trans ?_
    rfl
  refine Eq.trans ite_bp0 ?_
  refine (tq_istore (L' := [.ref a0, .int (mI x1), .int (mI x2), .int (mI x3), .int (mI x4), .int (mI x5), .int (mI (bZ ((¬ (x1' < 0) ∧ (¬ (15 < x1'))) ∧ ((¬ (x2' < 0) ∧ (¬ (15 < x2'))) ∧ ((¬ (x3' < 1) ∧ (¬ ((wr (16 - x1)) < x3'))) ∧ ((¬ (x4' < 1) ∧ (¬ ((wr (16 - x2)) < x4'))) ∧ ((¬ (x5' < 0) ∧ (¬ (255 < x5')))))))))), am_J, am_J, am_J]) i_X12_fill_62 rfl rfl).trans ?_
  refine (tq_aload_n i_X12_fill_64 rfl (isA_ref _) rfl).trans ?_
  refine (tq_iload i_X12_fill_65 rfl rfl).trans ?_
  refine (tq_ifb_eq (pt := 74) i_X12_fill_67 (by decide) rfl).trans ?_
  refine Eq.trans (b := if ((¬ (x1' < 0) ∧ (¬ (15 < x1'))) ∧ ((¬ (x2' < 0) ∧ (¬ (15 < x2'))) ∧ ((¬ (x3' < 1) ∧ (¬ ((wr (16 - x1)) < x3'))) ∧ ((¬ (x4' < 1) ∧ (¬ ((wr (16 - x2)) < x4'))) ∧ ((¬ (x5' < 0) ∧ (¬ (255 < x5')))))))) then rn m_X12_fill 75 [.ref a0, .int (mI x1), .int (mI x2), .int (mI x3), .int (mI x4), .int (mI x5), .int (mI (bZ ((¬ (x1' < 0) ∧ (¬ (15 < x1'))) ∧ ((¬ (x2' < 0) ∧ (¬ (15 < x2'))) ∧ ((¬ (x3' < 1) ∧ (¬ ((wr (16 - x1)) < x3'))) ∧ ((¬ (x4' < 1) ∧ (¬ ((wr (16 - x2)) < x4'))) ∧ ((¬ (x5' < 0) ∧ (¬ (255 < x5')))))))))), am_J, am_J, am_J] [.int (mI 0), .ref a0] h else rn m_X12_fill 75 [.ref a0, .int (mI x1), .int (mI x2), .int (mI x3), .int (mI x4), .int (mI x5), .int (mI (bZ ((¬ (x1' < 0) ∧ (¬ (15 < x1'))) ∧ ((¬ (x2' < 0) ∧ (¬ (15 < x2'))) ∧ ((¬ (x3' < 1) ∧ (¬ ((wr (16 - x1)) < x3'))) ∧ ((¬ (x4' < 1) ∧ (¬ ((wr (16 - x2)) < x4'))) ∧ ((¬ (x5' < 0) ∧ (¬ (255 < x5')))))))))), am_J, am_J, am_J] [.int (mI 1), .ref a0] h) (ite_congr rfl (fun c6 => ?_) (fun c6 => ?_)) ?_
  · refine (tq_iconst i_X12_fill_70 rfl).trans ?_
    refine (tq_goto (pc' := 75) i_X12_fill_71 (by decide)).trans ?_
    rfl
  · refine (tq_iconst i_X12_fill_74 rfl).trans ?_
    rfl
  refine Eq.trans ite_b01 ?_
  refine (tq_putfield i_X12_fill_75 (K10_s k1) (okf_10_0 _) rfl).trans ?_
  refine (tq_iconst i_X12_fill_78 rfl).trans ?_
  refine (tq_istore (L' := [.ref a0, .int (mI x1), .int (mI x2), .int (mI x3), .int (mI x4), .int (mI x5), .int (mI (bZ ((¬ (x1' < 0) ∧ (¬ (15 < x1'))) ∧ ((¬ (x2' < 0) ∧ (¬ (15 < x2'))) ∧ ((¬ (x3' < 1) ∧ (¬ ((wr (16 - x1)) < x3'))) ∧ ((¬ (x4' < 1) ∧ (¬ ((wr (16 - x2)) < x4'))) ∧ ((¬ (x5' < 0) ∧ (¬ (255 < x5')))))))))), .int (mI 0), am_J, am_J]) i_X12_fill_79 rfl rfl).trans ?_
  refine (tq_iconst i_X12_fill_81 rfl).trans ?_
  refine (tq_istore (L' := [.ref a0, .int (mI x1), .int (mI x2), .int (mI x3), .int (mI x4), .int (mI x5), .int (mI (bZ ((¬ (x1' < 0) ∧ (¬ (15 < x1'))) ∧ ((¬ (x2' < 0) ∧ (¬ (15 < x2'))) ∧ ((¬ (x3' < 1) ∧ (¬ ((wr (16 - x1)) < x3'))) ∧ ((¬ (x4' < 1) ∧ (¬ ((wr (16 - x2)) < x4'))) ∧ ((¬ (x5' < 0) ∧ (¬ (255 < x5')))))))))), .int (mI 0), .int (mI 0), am_J]) i_X12_fill_82 rfl rfl).trans ?_
  rfl
theorem i_X12_fill_84 : am_i m_X12_fill 84 = some (84, .iload 8, 2, [], 0) := rfl
theorem i_X12_fill_86 : am_i m_X12_fill 86 = some (86, .sipush 256, 3, [], 256) := rfl
theorem i_X12_fill_89 : am_i m_X12_fill 89 = some (89, .if_icmp .ge 107, 3, [], 0) := rfl
theorem i_X12_fill_92 : am_i m_X12_fill 92 = some (92, .iload 6, 2, [], 0) := rfl
theorem i_X12_fill_94 : am_i m_X12_fill 94 = some (94, .ifCond .eq 102, 3, [], 0) := rfl
theorem i_X12_fill_97 : am_i m_X12_fill 97 = some (97, .iload 8, 2, [], 0) := rfl
theorem i_X12_fill_99 : am_i m_X12_fill 99 = some (99, .bipush 16, 2, [], 16) := rfl
theorem i_X12_fill_101 : am_i m_X12_fill 101 = some (101, .irem, 1, [], 0) := rfl
theorem i_X12_fill_102 : am_i m_X12_fill 102 = some (102, .iload_n 1, 1, [], 0) := rfl
theorem i_X12_fill_103 : am_i m_X12_fill 103 = some (103, .iload_n 1, 1, [], 0) := rfl
theorem i_X12_fill_104 : am_i m_X12_fill 104 = some (104, .iload_n 3, 1, [], 0) := rfl
theorem i_X12_fill_105 : am_i m_X12_fill 105 = some (105, .iadd, 1, [], 0) := rfl
theorem i_X12_fill_106 : am_i m_X12_fill 106 = some (106, .iconst 1, 1, [], 1) := rfl
theorem i_X12_fill_107 : am_i m_X12_fill 107 = some (107, .isub, 1, [], 0) := rfl
theorem i_X12_fill_108 : am_i m_X12_fill 108 = some (108, .invokestatic 113, 3, [27], 0) := rfl
theorem i_X12_fill_111 : am_i m_X12_fill 111 = some (111, .ifCond .eq 25, 3, [], 0) := rfl
theorem i_X12_fill_114 : am_i m_X12_fill 114 = some (114, .iload 8, 2, [], 0) := rfl
theorem i_X12_fill_116 : am_i m_X12_fill 116 = some (116, .bipush 16, 2, [], 16) := rfl
theorem i_X12_fill_118 : am_i m_X12_fill 118 = some (118, .idiv, 1, [], 0) := rfl
theorem i_X12_fill_119 : am_i m_X12_fill 119 = some (119, .iload_n 2, 1, [], 0) := rfl
theorem i_X12_fill_120 : am_i m_X12_fill 120 = some (120, .iload_n 2, 1, [], 0) := rfl
theorem i_X12_fill_121 : am_i m_X12_fill 121 = some (121, .iload 4, 2, [], 0) := rfl
theorem i_X12_fill_123 : am_i m_X12_fill 123 = some (123, .iadd, 1, [], 0) := rfl
theorem i_X12_fill_124 : am_i m_X12_fill 124 = some (124, .iconst 1, 1, [], 1) := rfl
theorem i_X12_fill_125 : am_i m_X12_fill 125 = some (125, .isub, 1, [], 0) := rfl
theorem i_X12_fill_126 : am_i m_X12_fill 126 = some (126, .invokestatic 113, 3, [27], 0) := rfl
theorem i_X12_fill_129 : am_i m_X12_fill 129 = some (129, .ifCond .eq 7, 3, [], 0) := rfl
theorem i_X12_fill_132 : am_i m_X12_fill 132 = some (132, .iconst 1, 1, [], 1) := rfl
theorem i_X12_fill_133 : am_i m_X12_fill 133 = some (133, .goto 4, 3, [], 0) := rfl
theorem i_X12_fill_136 : am_i m_X12_fill 136 = some (136, .iconst 0, 1, [], 0) := rfl
theorem i_X12_fill_137 : am_i m_X12_fill 137 = some (137, .istore 9, 2, [], 0) := rfl
theorem i_X12_fill_139 : am_i m_X12_fill 139 = some (139, .iload 7, 2, [], 0) := rfl
theorem i_X12_fill_141 : am_i m_X12_fill 141 = some (141, .iload 9, 2, [], 0) := rfl
theorem i_X12_fill_143 : am_i m_X12_fill 143 = some (143, .ifCond .eq 19, 3, [], 0) := rfl
theorem i_X12_fill_146 : am_i m_X12_fill 146 = some (146, .aload_n 0, 1, [], 0) := rfl
theorem i_X12_fill_147 : am_i m_X12_fill 147 = some (147, .getfield 18, 3, [10, 1, 0], 0) := rfl
theorem i_X12_fill_150 : am_i m_X12_fill 150 = some (150, .iload 8, 2, [], 0) := rfl
theorem i_X12_fill_152 : am_i m_X12_fill 152 = some (152, .iaload, 1, [], 0) := rfl
theorem i_X12_fill_153 : am_i m_X12_fill 153 = some (153, .iload 5, 2, [], 0) := rfl
theorem i_X12_fill_155 : am_i m_X12_fill 155 = some (155, .if_icmp .eq 7, 3, [], 0) := rfl
theorem i_X12_fill_158 : am_i m_X12_fill 158 = some (158, .iconst 1, 1, [], 1) := rfl
theorem i_X12_fill_159 : am_i m_X12_fill 159 = some (159, .goto 4, 3, [], 0) := rfl
theorem i_X12_fill_162 : am_i m_X12_fill 162 = some (162, .iconst 0, 1, [], 0) := rfl
theorem i_X12_fill_163 : am_i m_X12_fill 163 = some (163, .iadd, 1, [], 0) := rfl
theorem i_X12_fill_164 : am_i m_X12_fill 164 = some (164, .istore 7, 2, [], 0) := rfl
theorem i_X12_fill_166 : am_i m_X12_fill 166 = some (166, .aload_n 0, 1, [], 0) := rfl
theorem i_X12_fill_167 : am_i m_X12_fill 167 = some (167, .getfield 18, 3, [10, 1, 0], 0) := rfl
theorem i_X12_fill_170 : am_i m_X12_fill 170 = some (170, .iload 8, 2, [], 0) := rfl
theorem i_X12_fill_172 : am_i m_X12_fill 172 = some (172, .iload 9, 2, [], 0) := rfl
theorem i_X12_fill_174 : am_i m_X12_fill 174 = some (174, .ifCond .eq 8, 3, [], 0) := rfl
theorem i_X12_fill_177 : am_i m_X12_fill 177 = some (177, .iload 5, 2, [], 0) := rfl
theorem i_X12_fill_179 : am_i m_X12_fill 179 = some (179, .goto 10, 3, [], 0) := rfl
theorem i_X12_fill_182 : am_i m_X12_fill 182 = some (182, .aload_n 0, 1, [], 0) := rfl
theorem i_X12_fill_183 : am_i m_X12_fill 183 = some (183, .getfield 18, 3, [10, 1, 0], 0) := rfl
theorem i_X12_fill_186 : am_i m_X12_fill 186 = some (186, .iload 8, 2, [], 0) := rfl
theorem i_X12_fill_188 : am_i m_X12_fill 188 = some (188, .iaload, 1, [], 0) := rfl
theorem i_X12_fill_189 : am_i m_X12_fill 189 = some (189, .iastore, 1, [], 0) := rfl
theorem i_X12_fill_190 : am_i m_X12_fill 190 = some (190, .iinc 8 1, 3, [], 0) := rfl
theorem i_X12_fill_193 : am_i m_X12_fill 193 = some (193, .goto (-109), 3, [], 0) := rfl
theorem i_X12_fill_196 : am_i m_X12_fill 196 = some (196, .iload 7, 2, [], 0) := rfl
theorem i_X12_fill_198 : am_i m_X12_fill 198 = some (198, .ireturn, 1, [], 0) := rfl
theorem b_X12_fill_84 {a0 : Nat} {x1 x2 x3 x4 x5 x6 x7 x8 x1' x2' x5' x6' x8' : Int} {v9 : Value} {h : am_H} (w1 : wr x1 = x1') (w2 : wr x2 = x2') (w5 : wr x5 = x5') (w6 : wr x6 = x6') (w8 : wr x8 = x8') (k1 : K10 h a0) (g2 : (¬ (256 ≤ x8')) → (¬ (x6' = 0)) → (((¬ ((wr (Int.tmod x8' 16)) < x1') ∧ (¬ ((wr ((x1 + x3) - 1)) < (wr (Int.tmod x8' 16))))) ∧ ((¬ ((wr (Int.tdiv x8' 16)) < x2') ∧ (¬ ((wr ((x2 + x4) - 1)) < (wr (Int.tdiv x8' 16)))))))) → (0 ≤ x8' ∧ x8' < (256 : Int))) (g3 : (¬ (256 ≤ x8')) → (¬ (x6' = 0)) → (¬ (((¬ ((wr (Int.tmod x8' 16)) < x1') ∧ (¬ ((wr ((x1 + x3) - 1)) < (wr (Int.tmod x8' 16))))) ∧ ((¬ ((wr (Int.tdiv x8' 16)) < x2') ∧ (¬ ((wr ((x2 + x4) - 1)) < (wr (Int.tdiv x8' 16))))))))) → (0 ≤ x8' ∧ x8' < (256 : Int))) (g4 : (¬ (256 ≤ x8')) → (¬ (x6' = 0)) → (0 ≤ x8' ∧ x8' < (256 : Int))) : rn m_X12_fill 84 [.ref a0, .int (mI x1), .int (mI x2), .int (mI x3), .int (mI x4), .int (mI x5), .int (mI x6), .int (mI x7), .int (mI x8), v9] [] h = if 256 ≤ x8' then some (.inl (some (.int (mI x7))), h) else if x6' = 0 then some (.inl (some (.int (mI x7))), h) else rn m_X12_fill 84 [.ref a0, .int (mI x1), .int (mI x2), .int (mI x3), .int (mI x4), .int (mI x5), .int (mI x6), .int (mI (x7 + (bZ (((¬ ((wr (Int.tmod x8' 16)) < x1') ∧ (¬ ((wr ((x1 + x3) - 1)) < (wr (Int.tmod x8' 16))))) ∧ ((¬ ((wr (Int.tdiv x8' 16)) < x2') ∧ (¬ ((wr ((x2 + x4) - 1)) < (wr (Int.tdiv x8' 16))))))) ∧ (¬ ((gZ h (a0 + 1) x8') = x5')))))), .int (mI (x8 + 1)), .int (mI (bZ ((¬ ((wr (Int.tmod x8' 16)) < x1') ∧ (¬ ((wr ((x1 + x3) - 1)) < (wr (Int.tmod x8' 16))))) ∧ ((¬ ((wr (Int.tdiv x8' 16)) < x2') ∧ (¬ ((wr ((x2 + x4) - 1)) < (wr (Int.tdiv x8' 16)))))))))] [] (uZ h (a0 + 1) x8' (if ((¬ ((wr (Int.tmod x8' 16)) < x1') ∧ (¬ ((wr ((x1 + x3) - 1)) < (wr (Int.tmod x8' 16))))) ∧ ((¬ ((wr (Int.tdiv x8' 16)) < x2') ∧ (¬ ((wr ((x2 + x4) - 1)) < (wr (Int.tdiv x8' 16))))))) then (x5 : Int) else gZ h (a0 + 1) x8')) := by
  refine (tq_iload i_X12_fill_84 rfl rfl).trans ?_
  refine (tq_sipush i_X12_fill_86 rfl).trans ?_
  refine (tq_icmp_ge (pt := 196) i_X12_fill_89 w8 w_256 (by decide) rfl).trans ?_
  refine ite_congr rfl (fun c1 => ?_) (fun c1 => ?_)
  · refine (tq_iload i_X12_fill_196 rfl rfl).trans ?_
    exact tq_ireturn i_X12_fill_198 r_X12_fill rfl
  · refine (tq_iload i_X12_fill_92 rfl rfl).trans ?_
    refine (tq_if_eq (pt := 196) i_X12_fill_94 w6 (by decide) rfl).trans ?_
    refine ite_congr rfl (fun c2 => ?_) (fun c2 => ?_)
    · refine (tq_iload i_X12_fill_196 rfl rfl).trans ?_
      exact tq_ireturn i_X12_fill_198 r_X12_fill rfl
    · refine (tq_iload i_X12_fill_97 rfl rfl).trans ?_
      refine (tq_bipush i_X12_fill_99 rfl).trans ?_
      refine (tq_irem i_X12_fill_101 w8 w_16 (by decide) rfl).trans ?_
      refine (tq_iload_n i_X12_fill_102 rfl rfl).trans ?_
      refine (tq_iload_n i_X12_fill_103 rfl rfl).trans ?_
      refine (tq_iload_n i_X12_fill_104 rfl rfl).trans ?_
      refine (tq_iadd i_X12_fill_105 rfl).trans ?_
      refine (tq_iconst i_X12_fill_106 rfl).trans ?_
      refine (tq_isub i_X12_fill_107 rfl).trans ?_
      refine (c_X12_in i_X12_fill_108 (ltd d_X12_fill (by decide)) stOk_0 rfl).trans ?_
      refine (congrArg (cl _ _ _ _) (b_X12_in_0 rfl w1 rfl)).trans ?_
      refine (cl_v _ _ _ _ _ _).trans ?_
      refine (tq_ifb_eq (pt := 136) i_X12_fill_111 (by decide) rfl).trans ?_
      refine Eq.trans (b := if (¬ ((wr (Int.tmod x8' 16)) < x1') ∧ (¬ ((wr ((x1 + x3) - 1)) < (wr (Int.tmod x8' 16))))) then rn m_X12_fill 137 [.ref a0, .int (mI x1), .int (mI x2), .int (mI x3), .int (mI x4), .int (mI x5), .int (mI x6), .int (mI x7), .int (mI x8), v9] [.int (mI (bZ ((¬ ((wr (Int.tdiv x8' 16)) < x2') ∧ (¬ ((wr ((x2 + x4) - 1)) < (wr (Int.tdiv x8' 16))))))))] h else rn m_X12_fill 137 [.ref a0, .int (mI x1), .int (mI x2), .int (mI x3), .int (mI x4), .int (mI x5), .int (mI x6), .int (mI x7), .int (mI x8), v9] [.int (mI 0)] h) (ite_congr rfl (fun c3 => ?_) (fun c3 => ?_)) ?_
      · refine (tq_iload i_X12_fill_114 rfl rfl).trans ?_
        refine (tq_bipush i_X12_fill_116 rfl).trans ?_
        refine (tq_idiv i_X12_fill_118 w8 w_16 (by decide) rfl).trans ?_
        refine (tq_iload_n i_X12_fill_119 rfl rfl).trans ?_
        refine (tq_iload_n i_X12_fill_120 rfl rfl).trans ?_
        refine (tq_iload i_X12_fill_121 rfl rfl).trans ?_
        refine (tq_iadd i_X12_fill_123 rfl).trans ?_
        refine (tq_iconst i_X12_fill_124 rfl).trans ?_
        refine (tq_isub i_X12_fill_125 rfl).trans ?_
        refine (c_X12_in i_X12_fill_126 (ltd d_X12_fill (by decide)) stOk_0 rfl).trans ?_
        refine (congrArg (cl _ _ _ _) (b_X12_in_0 rfl w2 rfl)).trans ?_
        refine (cl_v _ _ _ _ _ _).trans ?_
        refine (tq_ifb_eq (pt := 136) i_X12_fill_129 (by decide) rfl).trans ?_
        refine Eq.trans (b := if (¬ ((wr (Int.tdiv x8' 16)) < x2') ∧ (¬ ((wr ((x2 + x4) - 1)) < (wr (Int.tdiv x8' 16))))) then rn m_X12_fill 137 [.ref a0, .int (mI x1), .int (mI x2), .int (mI x3), .int (mI x4), .int (mI x5), .int (mI x6), .int (mI x7), .int (mI x8), v9] [.int (mI 1)] h else rn m_X12_fill 137 [.ref a0, .int (mI x1), .int (mI x2), .int (mI x3), .int (mI x4), .int (mI x5), .int (mI x6), .int (mI x7), .int (mI x8), v9] [.int (mI 0)] h) (ite_congr rfl (fun c4 => ?_) (fun c4 => ?_)) ?_
        · refine (tq_iconst i_X12_fill_132 rfl).trans ?_
          refine (tq_goto (pc' := 137) i_X12_fill_133 (by decide)).trans ?_
          rfl
        · refine (tq_iconst i_X12_fill_136 rfl).trans ?_
          rfl
        exact ite_b10
      · refine (tq_iconst i_X12_fill_136 rfl).trans ?_
        rfl
      refine Eq.trans ite_bp0 ?_
      refine (tq_istore (L' := [.ref a0, .int (mI x1), .int (mI x2), .int (mI x3), .int (mI x4), .int (mI x5), .int (mI x6), .int (mI x7), .int (mI x8), .int (mI (bZ ((¬ ((wr (Int.tmod x8' 16)) < x1') ∧ (¬ ((wr ((x1 + x3) - 1)) < (wr (Int.tmod x8' 16))))) ∧ ((¬ ((wr (Int.tdiv x8' 16)) < x2') ∧ (¬ ((wr ((x2 + x4) - 1)) < (wr (Int.tdiv x8' 16)))))))))]) i_X12_fill_137 rfl rfl).trans ?_
      refine (tq_iload i_X12_fill_139 rfl rfl).trans ?_
      refine (tq_iload i_X12_fill_141 rfl rfl).trans ?_
      refine (tq_ifb_eq (pt := 162) i_X12_fill_143 (by decide) rfl).trans ?_
      refine Eq.trans (b := if ((¬ ((wr (Int.tmod x8' 16)) < x1') ∧ (¬ ((wr ((x1 + x3) - 1)) < (wr (Int.tmod x8' 16))))) ∧ ((¬ ((wr (Int.tdiv x8' 16)) < x2') ∧ (¬ ((wr ((x2 + x4) - 1)) < (wr (Int.tdiv x8' 16))))))) then rn m_X12_fill 163 [.ref a0, .int (mI x1), .int (mI x2), .int (mI x3), .int (mI x4), .int (mI x5), .int (mI x6), .int (mI x7), .int (mI x8), .int (mI (bZ ((¬ ((wr (Int.tmod x8' 16)) < x1') ∧ (¬ ((wr ((x1 + x3) - 1)) < (wr (Int.tmod x8' 16))))) ∧ ((¬ ((wr (Int.tdiv x8' 16)) < x2') ∧ (¬ ((wr ((x2 + x4) - 1)) < (wr (Int.tdiv x8' 16)))))))))] [.int (mI (bZ (¬ ((gZ h (a0 + 1) x8') = x5')))), .int (mI x7)] h else rn m_X12_fill 163 [.ref a0, .int (mI x1), .int (mI x2), .int (mI x3), .int (mI x4), .int (mI x5), .int (mI x6), .int (mI x7), .int (mI x8), .int (mI (bZ ((¬ ((wr (Int.tmod x8' 16)) < x1') ∧ (¬ ((wr ((x1 + x3) - 1)) < (wr (Int.tmod x8' 16))))) ∧ ((¬ ((wr (Int.tdiv x8' 16)) < x2') ∧ (¬ ((wr ((x2 + x4) - 1)) < (wr (Int.tdiv x8' 16)))))))))] [.int (mI 0), .int (mI x7)] h) (ite_congr rfl (fun c5 => ?_) (fun c5 => ?_)) ?_
      · refine (tq_aload_n i_X12_fill_146 rfl (isA_ref _) rfl).trans ?_
        refine (tq_getfield i_X12_fill_147 (K10_s k1) (gR (g_10_1 (K10_s k1)) (K10_e1 k1)) (isV_ref _) rfl).trans ?_
        refine (tq_iload i_X12_fill_150 rfl rfl).trans ?_
        refine (tq_iaload i_X12_fill_152 (K10_s1 k1) (by decide) w8 (g2 c1 c2 c5).1 (lt_gn (K10_n1 k1) (g2 c1 c2 c5).2) rfl).trans ?_
        refine (tq_iload i_X12_fill_153 rfl rfl).trans ?_
        refine (tq_icmp_eq (pt := 162) i_X12_fill_155 (wr_gZ _ _ _) w5 (by decide) rfl).trans ?_
        refine Eq.trans (b := if (gZ h (a0 + 1) x8') = x5' then rn m_X12_fill 163 [.ref a0, .int (mI x1), .int (mI x2), .int (mI x3), .int (mI x4), .int (mI x5), .int (mI x6), .int (mI x7), .int (mI x8), .int (mI (bZ ((¬ ((wr (Int.tmod x8' 16)) < x1') ∧ (¬ ((wr ((x1 + x3) - 1)) < (wr (Int.tmod x8' 16))))) ∧ ((¬ ((wr (Int.tdiv x8' 16)) < x2') ∧ (¬ ((wr ((x2 + x4) - 1)) < (wr (Int.tdiv x8' 16)))))))))] [.int (mI 0), .int (mI x7)] h else rn m_X12_fill 163 [.ref a0, .int (mI x1), .int (mI x2), .int (mI x3), .int (mI x4), .int (mI x5), .int (mI x6), .int (mI x7), .int (mI x8), .int (mI (bZ ((¬ ((wr (Int.tmod x8' 16)) < x1') ∧ (¬ ((wr ((x1 + x3) - 1)) < (wr (Int.tmod x8' 16))))) ∧ ((¬ ((wr (Int.tdiv x8' 16)) < x2') ∧ (¬ ((wr ((x2 + x4) - 1)) < (wr (Int.tdiv x8' 16)))))))))] [.int (mI 1), .int (mI x7)] h) (ite_congr rfl (fun c6 => ?_) (fun c6 => ?_)) ?_
        · refine (tq_iconst i_X12_fill_162 rfl).trans ?_
          rfl
        · refine (tq_iconst i_X12_fill_158 rfl).trans ?_
          refine (tq_goto (pc' := 163) i_X12_fill_159 (by decide)).trans ?_
          rfl
        exact ite_b01
      · refine (tq_iconst i_X12_fill_162 rfl).trans ?_
        rfl
      refine Eq.trans ite_bp0 ?_
      refine (tq_iadd i_X12_fill_163 rfl).trans ?_
      refine (tq_istore (L' := [.ref a0, .int (mI x1), .int (mI x2), .int (mI x3), .int (mI x4), .int (mI x5), .int (mI x6), .int (mI (x7 + (bZ (((¬ ((wr (Int.tmod x8' 16)) < x1') ∧ (¬ ((wr ((x1 + x3) - 1)) < (wr (Int.tmod x8' 16))))) ∧ ((¬ ((wr (Int.tdiv x8' 16)) < x2') ∧ (¬ ((wr ((x2 + x4) - 1)) < (wr (Int.tdiv x8' 16))))))) ∧ (¬ ((gZ h (a0 + 1) x8') = x5')))))), .int (mI x8), .int (mI (bZ ((¬ ((wr (Int.tmod x8' 16)) < x1') ∧ (¬ ((wr ((x1 + x3) - 1)) < (wr (Int.tmod x8' 16))))) ∧ ((¬ ((wr (Int.tdiv x8' 16)) < x2') ∧ (¬ ((wr ((x2 + x4) - 1)) < (wr (Int.tdiv x8' 16)))))))))]) i_X12_fill_164 rfl rfl).trans ?_
      refine (tq_aload_n i_X12_fill_166 rfl (isA_ref _) rfl).trans ?_
      refine (tq_getfield i_X12_fill_167 (K10_s k1) (gR (g_10_1 (K10_s k1)) (K10_e1 k1)) (isV_ref _) rfl).trans ?_
      refine (tq_iload i_X12_fill_170 rfl rfl).trans ?_
      refine (tq_iload i_X12_fill_172 rfl rfl).trans ?_
      refine (tq_ifb_eq (pt := 182) i_X12_fill_174 (by decide) rfl).trans ?_
      refine Eq.trans (b := if ((¬ ((wr (Int.tmod x8' 16)) < x1') ∧ (¬ ((wr ((x1 + x3) - 1)) < (wr (Int.tmod x8' 16))))) ∧ ((¬ ((wr (Int.tdiv x8' 16)) < x2') ∧ (¬ ((wr ((x2 + x4) - 1)) < (wr (Int.tdiv x8' 16))))))) then rn m_X12_fill 189 [.ref a0, .int (mI x1), .int (mI x2), .int (mI x3), .int (mI x4), .int (mI x5), .int (mI x6), .int (mI (x7 + (bZ (((¬ ((wr (Int.tmod x8' 16)) < x1') ∧ (¬ ((wr ((x1 + x3) - 1)) < (wr (Int.tmod x8' 16))))) ∧ ((¬ ((wr (Int.tdiv x8' 16)) < x2') ∧ (¬ ((wr ((x2 + x4) - 1)) < (wr (Int.tdiv x8' 16))))))) ∧ (¬ ((gZ h (a0 + 1) x8') = x5')))))), .int (mI x8), .int (mI (bZ ((¬ ((wr (Int.tmod x8' 16)) < x1') ∧ (¬ ((wr ((x1 + x3) - 1)) < (wr (Int.tmod x8' 16))))) ∧ ((¬ ((wr (Int.tdiv x8' 16)) < x2') ∧ (¬ ((wr ((x2 + x4) - 1)) < (wr (Int.tdiv x8' 16)))))))))] [.int (mI x5), .int (mI x8), .ref (a0 + 1)] h else rn m_X12_fill 189 [.ref a0, .int (mI x1), .int (mI x2), .int (mI x3), .int (mI x4), .int (mI x5), .int (mI x6), .int (mI (x7 + (bZ (((¬ ((wr (Int.tmod x8' 16)) < x1') ∧ (¬ ((wr ((x1 + x3) - 1)) < (wr (Int.tmod x8' 16))))) ∧ ((¬ ((wr (Int.tdiv x8' 16)) < x2') ∧ (¬ ((wr ((x2 + x4) - 1)) < (wr (Int.tdiv x8' 16))))))) ∧ (¬ ((gZ h (a0 + 1) x8') = x5')))))), .int (mI x8), .int (mI (bZ ((¬ ((wr (Int.tmod x8' 16)) < x1') ∧ (¬ ((wr ((x1 + x3) - 1)) < (wr (Int.tmod x8' 16))))) ∧ ((¬ ((wr (Int.tdiv x8' 16)) < x2') ∧ (¬ ((wr ((x2 + x4) - 1)) < (wr (Int.tdiv x8' 16)))))))))] [.int (mI (gZ h (a0 + 1) x8')), .int (mI x8), .ref (a0 + 1)] h) (ite_congr rfl (fun c7 => ?_) (fun c7 => ?_)) ?_
      · refine (tq_iload i_X12_fill_177 rfl rfl).trans ?_
        refine (tq_goto (pc' := 189) i_X12_fill_179 (by decide)).trans ?_
        rfl
      · refine (tq_aload_n i_X12_fill_182 rfl (isA_ref _) rfl).trans ?_
        refine (tq_getfield i_X12_fill_183 (K10_s k1) (gR (g_10_1 (K10_s k1)) (K10_e1 k1)) (isV_ref _) rfl).trans ?_
        refine (tq_iload i_X12_fill_186 rfl rfl).trans ?_
        refine (tq_iaload i_X12_fill_188 (K10_s1 k1) (by decide) w8 (g3 c1 c2 c7).1 (lt_gn (K10_n1 k1) (g3 c1 c2 c7).2) rfl).trans ?_
        rfl
      refine Eq.trans ite_I ?_
      refine (tq_iastore i_X12_fill_189 (K10_s1 k1) w8 (g4 c1 c2).1 (lt_gn (K10_n1 k1) (g4 c1 c2).2) rfl).trans ?_
      refine (tq_iinc (L' := [.ref a0, .int (mI x1), .int (mI x2), .int (mI x3), .int (mI x4), .int (mI x5), .int (mI x6), .int (mI (x7 + (bZ (((¬ ((wr (Int.tmod x8' 16)) < x1') ∧ (¬ ((wr ((x1 + x3) - 1)) < (wr (Int.tmod x8' 16))))) ∧ ((¬ ((wr (Int.tdiv x8' 16)) < x2') ∧ (¬ ((wr ((x2 + x4) - 1)) < (wr (Int.tdiv x8' 16))))))) ∧ (¬ ((gZ h (a0 + 1) x8') = x5')))))), .int (mI (x8 + 1)), .int (mI (bZ ((¬ ((wr (Int.tmod x8' 16)) < x1') ∧ (¬ ((wr ((x1 + x3) - 1)) < (wr (Int.tmod x8' 16))))) ∧ ((¬ ((wr (Int.tdiv x8' 16)) < x2') ∧ (¬ ((wr ((x2 + x4) - 1)) < (wr (Int.tdiv x8' 16)))))))))]) i_X12_fill_190 rfl rfl rfl).trans ?_
      refine (tq_goto (pc' := 84) i_X12_fill_193 (by decide)).trans ?_
      rfl
theorem m_fill (rm : RM σ h D) {x y w v b : Int} (wx : wr x = x) (wy : wr y = y) (ww : wr w = w) (wv : wr v = v) (wb : wr b = b) : (isF x y w v b → MRs (stc σ (flT (tc σ) x y w v b 256)) h D (rn m_X12_fill 0 [.ref 51, .int (mI x), .int (mI y), .int (mI w), .int (mI v), .int (mI b), am_J, am_J, am_J, am_J] [] h) (.int (mI (flN (tc σ) x y w v b 256))) 0 0 0) ∧ (¬ isF x y w v b → MRs σ h D (rn m_X12_fill 0 [.ref 51, .int (mI x), .int (mI y), .int (mI w), .int (mI v), .int (mI b), am_J, am_J, am_J, am_J] [] h) (.int (mI 0)) 1 0 0) := by
  have st := b_X12_fill_0 (a0 := 51) (x1 := x) (x2 := y) (x3 := w) (x4 := v) (x5 := b) (h := h) wx wy ww wv wb rm.1
  have cg : ((¬ (x < 0) ∧ (¬ (15 < x))) ∧ ((¬ (y < 0) ∧ (¬ (15 < y))) ∧ ((¬ (w < 1) ∧ (¬ ((wr (16 - x)) < w))) ∧ ((¬ (v < 1) ∧ (¬ ((wr (16 - y)) < v))) ∧ ((¬ (b < 0) ∧ (¬ (255 < b)))))))) ↔ (((0 ≤ x ∧ x < 16) ∧ 0 ≤ y ∧ y < 16) ∧ ((1 ≤ w ∧ w ≤ 16 - x) ∧ 1 ≤ v ∧ v ≤ 16 - y) ∧ 0 ≤ b ∧ b ≤ 255) := by
    by_cases c1 : (0 ≤ x ∧ x < 16) ∧ 0 ≤ y ∧ y < 16
    · rw [wr_id (z := 16 - x) (by omega) (by omega), wr_id (z := 16 - y) (by omega) (by omega)]
      omega
    · exact ⟨fun q => absurd (by omega) c1, fun q => absurd q.1 c1⟩
  rw [bZ_congr cg, bZ_congr (not_congr cg)] at st
  clear cg
  refine ⟨fun f => ?_, fun f => ?_⟩
  · unfold isF at f
    rw [bZ_t f, bZ_f (fun q => q f)] at st
    obtain ⟨⟨fx, fy⟩, ⟨fw, fv⟩, fb⟩ := f
    obtain ⟨t1, t2, t3, tm⟩ := thr_ok (z := 0) rm (wr_id (by decide) (by decide))
    have e0 : gZ (uF 10 h 51 0 (.int (mI 0))) 52 = tc σ := t1.2.2.1
    generalize uF 10 h 51 0 (.int (mI 0)) = h1 at *
    generalize hc : tc σ = cv at *
    have g0 : flT cv x y w v b 0 = cv := by
      funext k
      unfold flT
      exact if_neg (by omega)
    rw [st]
    refine lp (m := m_X12_fill) (pc := 84) (L := fun i (z : Int × Value) => [.ref 51, .int (mI x), .int (mI y), .int (mI w), .int (mI v), .int (mI b), .int (mI 1), .int (mI z.1), .int (mI i), z.2]) (N := 256) (P := fun r => MRs (stc σ (flT cv x y w v b 256)) h D r (.int (mI (flN cv x y w v b 256))) 0 0 0) (fun i z h' => 0 ≤ i ∧ Md (fun a k => (a = 51 ∧ k = 0) ∨ a = 52) h h' ∧ fZ h' 51 0 = 0 ∧ gZ h' 52 = flT cv x y w v b i ∧ z.1 = flN cv x y w v b i) ?_ ?_ 0 (0, am_J) h1 (by omega) ⟨by omega, Md_mono tm (fun a k q => Or.inl q), t2, by rw [g0]; exact e0, rfl⟩
    · intro i z h' hi ⟨i0, md, th, hz, hn⟩
      obtain ⟨u, v9⟩ := z
      simp only at hn
      have k2 := K10_sm md.1 rm.1
      have st2 := b_X12_fill_84 (a0 := 51) (x1 := x) (x2 := y) (x3 := w) (x4 := v) (x5 := b) (x6 := 1) (x7 := u) (v9 := v9) (h := h') wx wy wb (wr_id (by decide) (by decide)) (wr_id (z := i) (by omega) (by omega)) k2 (fun _ _ _ => ⟨i0, hi⟩) (fun _ _ _ => ⟨i0, hi⟩) (fun _ _ => ⟨i0, hi⟩)
      simp only [Nat.reduceAdd] at st2
      have gk : gZ h' 52 i = cv i := by
        rw [hz]
        unfold flT
        exact if_neg (by omega)
      rw [if_neg (by omega), if_neg (by decide), tmd i0, tdv i0, wr_id (z := i % 16) (by omega) (by omega), wr_id (z := i / 16) (by omega) (by omega), wr_id (z := x + w - 1) (by omega) (by omega), wr_id (z := y + v - 1) (by omega) (by omega), gk] at st2
      have nn : flN cv x y w v b (i + 1) = u + (if ((x ≤ i % 16 ∧ i % 16 < x + w) ∧ y ≤ i / 16 ∧ i / 16 < y + v) ∧ cv i ≠ b then 1 else 0) := by
        rw [hn]
        unfold flN
        rw [sm_succ i0]
      have s3 := K10_s1 k2
      by_cases q : (x ≤ i % 16 ∧ i % 16 < x + w) ∧ y ≤ i / 16 ∧ i / 16 < y + v
      · have q' : ((¬ (i % 16 < x) ∧ (¬ (x + w - 1 < i % 16))) ∧ ((¬ (i / 16 < y) ∧ (¬ (y + v - 1 < i / 16))))) := by omega
        rw [if_pos q'] at st2
        refine ⟨(u + bZ (((¬ (i % 16 < x) ∧ (¬ (x + w - 1 < i % 16))) ∧ ((¬ (i / 16 < y) ∧ (¬ (y + v - 1 < i / 16))))) ∧ (¬ (cv i = b))), _), _, st2, by omega, Md_tr md (Md_mono (Md_uZ _ _ _ _) fun a k w => Or.inr w), by rw [md_fZ (Md_uZ _ _ _ _) (by omega)]; exact th, ?_, ?_⟩
        · funext k
          rw [gZ_uZ' (sh1 s3), hz, wb]
          unfold flT
          by_cases e : k = i
          · subst e
            rw [if_pos rfl, if_pos (by omega)]
          · rw [if_neg e]
            by_cases c1 : (0 ≤ k ∧ k < 256) ∧ ((x ≤ k % 16 ∧ k % 16 < x + w) ∧ y ≤ k / 16 ∧ k / 16 < y + v) ∧ k < i
            · rw [if_pos c1, if_pos ⟨c1.1, c1.2.1, by omega⟩]
            · rw [if_neg c1, if_neg fun w => c1 ⟨w.1, w.2.1, by omega⟩]
        · rw [nn]
          show u + _ = _
          by_cases qb : cv i = b
          · rw [bZ_f (fun w => w.2 qb), if_neg (fun w => w.2 qb)]
          · rw [bZ_t ⟨q', qb⟩, if_pos ⟨q, qb⟩]
      · have q' : ¬ ((¬ (i % 16 < x) ∧ (¬ (x + w - 1 < i % 16))) ∧ ((¬ (i / 16 < y) ∧ (¬ (y + v - 1 < i / 16))))) := by omega
        rw [if_neg q'] at st2
        refine ⟨(u + bZ (((¬ (i % 16 < x) ∧ (¬ (x + w - 1 < i % 16))) ∧ ((¬ (i / 16 < y) ∧ (¬ (y + v - 1 < i / 16))))) ∧ (¬ (cv i = b))), _), _, st2, by omega, Md_tr md (Md_mono (Md_uZ _ _ _ _) fun a k w => Or.inr w), by rw [md_fZ (Md_uZ _ _ _ _) (by omega)]; exact th, ?_, ?_⟩
        · funext k
          rw [gZ_uZ' (sh1 s3), hz, ← gk, wr_gZ, hz]
          unfold flT
          by_cases e : k = i
          · subst e
            rw [if_pos rfl, if_neg (by omega), if_neg (fun w => q w.2.1)]
          · rw [if_neg e]
            by_cases c1 : (0 ≤ k ∧ k < 256) ∧ ((x ≤ k % 16 ∧ k % 16 < x + w) ∧ y ≤ k / 16 ∧ k / 16 < y + v) ∧ k < i
            · rw [if_pos c1, if_pos ⟨c1.1, c1.2.1, by omega⟩]
            · rw [if_neg c1, if_neg fun w => c1 ⟨w.1, w.2.1, by omega⟩]
        · rw [nn]
          show u + _ = _
          rw [bZ_f (fun w => q' w.1), if_neg (fun w => q w.1)]
    · intro z h' ⟨i0, md, th, hz, hn⟩
      obtain ⟨u, v9⟩ := z
      simp only at hn
      have st2 := b_X12_fill_84 (a0 := 51) (x1 := x) (x2 := y) (x3 := w) (x4 := v) (x5 := b) (x6 := 1) (x7 := u) (v9 := v9) (h := h') wx wy wb (wr_id (by decide) (by decide)) (wr_id (z := 256) (by omega) (by omega)) (K10_sm md.1 rm.1) (fun q => absurd (by decide) q) (fun q => absurd (by decide) q) (fun q => absurd (by decide) q)
      rw [if_pos (by decide)] at st2
      rw [← hn]
      exact MRs_cv rm (md_fr md) hz th st2
  · unfold isF at f
    rw [bZ_f f, bZ_t f] at st
    obtain ⟨t1, t2, t3, tm⟩ := thr_ok (z := 1) rm (wr_id (by decide) (by decide))
    have st2 := b_X12_fill_84 (a0 := 51) (x1 := x) (x2 := y) (x3 := w) (x4 := v) (x5 := b) (x6 := 0) (x7 := 0) (x8 := 0) (v9 := am_J) (h := uF 10 h 51 0 (.int (mI 1))) wx wy wb (wr_id (by decide) (by decide)) (wr_id (by decide) (by decide)) t1.1 (fun _ q => absurd rfl q) (fun _ q => absurd rfl q) (fun _ q => absurd rfl q)
    rw [if_neg (by decide), if_pos rfl] at st2
    exact ⟨_, st.trans st2, t1, t2, t3⟩
theorem i_X12_slope_0 : am_i m_X12_slope 0 = some (0, .iload_n 1, 1, [], 0) := rfl
theorem i_X12_slope_1 : am_i m_X12_slope 1 = some (1, .iconst 0, 1, [], 0) := rfl
theorem i_X12_slope_2 : am_i m_X12_slope 2 = some (2, .sipush 255, 3, [], 255) := rfl
theorem i_X12_slope_5 : am_i m_X12_slope 5 = some (5, .invokestatic 113, 3, [27], 0) := rfl
theorem i_X12_slope_8 : am_i m_X12_slope 8 = some (8, .ifCond .eq 29, 3, [], 0) := rfl
theorem i_X12_slope_11 : am_i m_X12_slope 11 = some (11, .iload_n 2, 1, [], 0) := rfl
theorem i_X12_slope_12 : am_i m_X12_slope 12 = some (12, .bipush (-99), 2, [], -99) := rfl
theorem i_X12_slope_14 : am_i m_X12_slope 14 = some (14, .bipush 99, 2, [], 99) := rfl
theorem i_X12_slope_16 : am_i m_X12_slope 16 = some (16, .invokestatic 113, 3, [27], 0) := rfl
theorem i_X12_slope_19 : am_i m_X12_slope 19 = some (19, .ifCond .eq 18, 3, [], 0) := rfl
theorem i_X12_slope_22 : am_i m_X12_slope 22 = some (22, .iload_n 3, 1, [], 0) := rfl
theorem i_X12_slope_23 : am_i m_X12_slope 23 = some (23, .bipush (-99), 2, [], -99) := rfl
theorem i_X12_slope_25 : am_i m_X12_slope 25 = some (25, .bipush 99, 2, [], 99) := rfl
theorem i_X12_slope_27 : am_i m_X12_slope 27 = some (27, .invokestatic 113, 3, [27], 0) := rfl
theorem i_X12_slope_30 : am_i m_X12_slope 30 = some (30, .ifCond .eq 7, 3, [], 0) := rfl
theorem i_X12_slope_33 : am_i m_X12_slope 33 = some (33, .iconst 1, 1, [], 1) := rfl
theorem i_X12_slope_34 : am_i m_X12_slope 34 = some (34, .goto 4, 3, [], 0) := rfl
theorem i_X12_slope_37 : am_i m_X12_slope 37 = some (37, .iconst 0, 1, [], 0) := rfl
theorem i_X12_slope_38 : am_i m_X12_slope 38 = some (38, .istore 4, 2, [], 0) := rfl
theorem i_X12_slope_40 : am_i m_X12_slope 40 = some (40, .aload_n 0, 1, [], 0) := rfl
theorem i_X12_slope_41 : am_i m_X12_slope 41 = some (41, .iload 4, 2, [], 0) := rfl
theorem i_X12_slope_43 : am_i m_X12_slope 43 = some (43, .ifCond .eq 7, 3, [], 0) := rfl
theorem i_X12_slope_46 : am_i m_X12_slope 46 = some (46, .iconst 0, 1, [], 0) := rfl
theorem i_X12_slope_47 : am_i m_X12_slope 47 = some (47, .goto 4, 3, [], 0) := rfl
theorem i_X12_slope_50 : am_i m_X12_slope 50 = some (50, .iconst 1, 1, [], 1) := rfl
theorem i_X12_slope_51 : am_i m_X12_slope 51 = some (51, .putfield 110, 3, [10, 0, 0], 0) := rfl
theorem i_X12_slope_54 : am_i m_X12_slope 54 = some (54, .iconst 0, 1, [], 0) := rfl
theorem i_X12_slope_55 : am_i m_X12_slope 55 = some (55, .istore 5, 2, [], 0) := rfl
theorem b_X12_slope_0 {a0 : Nat} {x1 x2 x3 x1' x2' x3' : Int} {h : am_H} (w1 : wr x1 = x1') (w2 : wr x2 = x2') (w3 : wr x3 = x3') (k1 : K10 h a0) : rn m_X12_slope 0 [.ref a0, .int (mI x1), .int (mI x2), .int (mI x3), am_J, am_J] [] h = rn m_X12_slope 57 [.ref a0, .int (mI x1), .int (mI x2), .int (mI x3), .int (mI (bZ ((¬ (x1' < 0) ∧ (¬ (255 < x1'))) ∧ ((¬ (x2' < (-99)) ∧ (¬ (99 < x2'))) ∧ ((¬ (x3' < (-99)) ∧ (¬ (99 < x3')))))))), .int (mI 0)] [] (uF 10 h a0 0 (.int (mI (bZ (¬ ((¬ (x1' < 0) ∧ (¬ (255 < x1'))) ∧ ((¬ (x2' < (-99)) ∧ (¬ (99 < x2'))) ∧ ((¬ (x3' < (-99)) ∧ (¬ (99 < x3'))))))))))) := by
  refine (tq_iload_n i_X12_slope_0 rfl rfl).trans ?_
  refine (tq_iconst i_X12_slope_1 rfl).trans ?_
  refine (tq_sipush i_X12_slope_2 rfl).trans ?_
  refine (c_X12_in i_X12_slope_5 (ltd d_X12_slope (by decide)) stOk_0 rfl).trans ?_
  refine (congrArg (cl _ _ _ _) (b_X12_in_0 w1 w_0 w_255)).trans ?_
  refine (cl_v _ _ _ _ _ _).trans ?_
  refine (tq_ifb_eq (pt := 37) i_X12_slope_8 (by decide) rfl).trans ?_
  refine Eq.trans (b := if (¬ (x1' < 0) ∧ (¬ (255 < x1'))) then rn m_X12_slope 38 [.ref a0, .int (mI x1), .int (mI x2), .int (mI x3), am_J, am_J] [.int (mI (bZ ((¬ (x2' < (-99)) ∧ (¬ (99 < x2'))) ∧ ((¬ (x3' < (-99)) ∧ (¬ (99 < x3')))))))] h else rn m_X12_slope 38 [.ref a0, .int (mI x1), .int (mI x2), .int (mI x3), am_J, am_J] [.int (mI 0)] h) (ite_congr rfl (fun c1 => ?_) (fun c1 => ?_)) ?_
  · refine (tq_iload_n i_X12_slope_11 rfl rfl).trans ?_
    refine (tq_bipush i_X12_slope_12 rfl).trans ?_
    refine (tq_bipush i_X12_slope_14 rfl).trans ?_
    refine (c_X12_in i_X12_slope_16 (ltd d_X12_slope (by decide)) stOk_0 rfl).trans ?_
    refine (congrArg (cl _ _ _ _) (b_X12_in_0 w2 w_m99 w_99)).trans ?_
    refine (cl_v _ _ _ _ _ _).trans ?_
    refine (tq_ifb_eq (pt := 37) i_X12_slope_19 (by decide) rfl).trans ?_
    refine Eq.trans (b := if (¬ (x2' < (-99)) ∧ (¬ (99 < x2'))) then rn m_X12_slope 38 [.ref a0, .int (mI x1), .int (mI x2), .int (mI x3), am_J, am_J] [.int (mI (bZ ((¬ (x3' < (-99)) ∧ (¬ (99 < x3'))))))] h else rn m_X12_slope 38 [.ref a0, .int (mI x1), .int (mI x2), .int (mI x3), am_J, am_J] [.int (mI 0)] h) (ite_congr rfl (fun c2 => ?_) (fun c2 => ?_)) ?_
    · refine (tq_iload_n i_X12_slope_22 rfl rfl).trans ?_
      refine (tq_bipush i_X12_slope_23 rfl).trans ?_
      refine (tq_bipush i_X12_slope_25 rfl).trans ?_
      refine (c_X12_in i_X12_slope_27 (ltd d_X12_slope (by decide)) stOk_0 rfl).trans ?_
      refine (congrArg (cl _ _ _ _) (b_X12_in_0 w3 w_m99 w_99)).trans ?_
      refine (cl_v _ _ _ _ _ _).trans ?_
      refine (tq_ifb_eq (pt := 37) i_X12_slope_30 (by decide) rfl).trans ?_
      refine Eq.trans (b := if (¬ (x3' < (-99)) ∧ (¬ (99 < x3'))) then rn m_X12_slope 38 [.ref a0, .int (mI x1), .int (mI x2), .int (mI x3), am_J, am_J] [.int (mI 1)] h else rn m_X12_slope 38 [.ref a0, .int (mI x1), .int (mI x2), .int (mI x3), am_J, am_J] [.int (mI 0)] h) (ite_congr rfl (fun c3 => ?_) (fun c3 => ?_)) ?_
      · refine (tq_iconst i_X12_slope_33 rfl).trans ?_
        refine (tq_goto (pc' := 38) i_X12_slope_34 (by decide)).trans ?_
        rfl
      · refine (tq_iconst i_X12_slope_37 rfl).trans ?_
        rfl
      exact ite_b10
    · refine (tq_iconst i_X12_slope_37 rfl).trans ?_
      rfl
    exact ite_bp0
  · refine (tq_iconst i_X12_slope_37 rfl).trans ?_
    rfl
  refine Eq.trans ite_bp0 ?_
  refine (tq_istore (L' := [.ref a0, .int (mI x1), .int (mI x2), .int (mI x3), .int (mI (bZ ((¬ (x1' < 0) ∧ (¬ (255 < x1'))) ∧ ((¬ (x2' < (-99)) ∧ (¬ (99 < x2'))) ∧ ((¬ (x3' < (-99)) ∧ (¬ (99 < x3')))))))), am_J]) i_X12_slope_38 rfl rfl).trans ?_
  refine (tq_aload_n i_X12_slope_40 rfl (isA_ref _) rfl).trans ?_
  refine (tq_iload i_X12_slope_41 rfl rfl).trans ?_
  refine (tq_ifb_eq (pt := 50) i_X12_slope_43 (by decide) rfl).trans ?_
  refine Eq.trans (b := if ((¬ (x1' < 0) ∧ (¬ (255 < x1'))) ∧ ((¬ (x2' < (-99)) ∧ (¬ (99 < x2'))) ∧ ((¬ (x3' < (-99)) ∧ (¬ (99 < x3')))))) then rn m_X12_slope 51 [.ref a0, .int (mI x1), .int (mI x2), .int (mI x3), .int (mI (bZ ((¬ (x1' < 0) ∧ (¬ (255 < x1'))) ∧ ((¬ (x2' < (-99)) ∧ (¬ (99 < x2'))) ∧ ((¬ (x3' < (-99)) ∧ (¬ (99 < x3')))))))), am_J] [.int (mI 0), .ref a0] h else rn m_X12_slope 51 [.ref a0, .int (mI x1), .int (mI x2), .int (mI x3), .int (mI (bZ ((¬ (x1' < 0) ∧ (¬ (255 < x1'))) ∧ ((¬ (x2' < (-99)) ∧ (¬ (99 < x2'))) ∧ ((¬ (x3' < (-99)) ∧ (¬ (99 < x3')))))))), am_J] [.int (mI 1), .ref a0] h) (ite_congr rfl (fun c4 => ?_) (fun c4 => ?_)) ?_
  · refine (tq_iconst i_X12_slope_46 rfl).trans ?_
    refine (tq_goto (pc' := 51) i_X12_slope_47 (by decide)).trans ?_
    rfl
  · refine (tq_iconst i_X12_slope_50 rfl).trans ?_
    rfl
  refine Eq.trans ite_b01 ?_
  refine (tq_putfield i_X12_slope_51 (K10_s k1) (okf_10_0 _) rfl).trans ?_
  refine (tq_iconst i_X12_slope_54 rfl).trans ?_
  refine (tq_istore (L' := [.ref a0, .int (mI x1), .int (mI x2), .int (mI x3), .int (mI (bZ ((¬ (x1' < 0) ∧ (¬ (255 < x1'))) ∧ ((¬ (x2' < (-99)) ∧ (¬ (99 < x2'))) ∧ ((¬ (x3' < (-99)) ∧ (¬ (99 < x3')))))))), .int (mI 0)]) i_X12_slope_55 rfl rfl).trans ?_
  rfl
theorem i_X12_slope_57 : am_i m_X12_slope 57 = some (57, .iload 5, 2, [], 0) := rfl
theorem i_X12_slope_59 : am_i m_X12_slope 59 = some (59, .sipush 256, 3, [], 256) := rfl
theorem i_X12_slope_62 : am_i m_X12_slope 62 = some (62, .if_icmp .ge 42, 3, [], 0) := rfl
theorem i_X12_slope_65 : am_i m_X12_slope 65 = some (65, .iload 4, 2, [], 0) := rfl
theorem i_X12_slope_67 : am_i m_X12_slope 67 = some (67, .ifCond .eq 37, 3, [], 0) := rfl
theorem i_X12_slope_70 : am_i m_X12_slope 70 = some (70, .aload_n 0, 1, [], 0) := rfl
theorem i_X12_slope_71 : am_i m_X12_slope 71 = some (71, .getfield 18, 3, [10, 1, 0], 0) := rfl
theorem i_X12_slope_74 : am_i m_X12_slope 74 = some (74, .iload 5, 2, [], 0) := rfl
theorem i_X12_slope_76 : am_i m_X12_slope 76 = some (76, .iload_n 1, 1, [], 0) := rfl
theorem i_X12_slope_77 : am_i m_X12_slope 77 = some (77, .iload 5, 2, [], 0) := rfl
theorem i_X12_slope_79 : am_i m_X12_slope 79 = some (79, .bipush 16, 2, [], 16) := rfl
theorem i_X12_slope_81 : am_i m_X12_slope 81 = some (81, .irem, 1, [], 0) := rfl
theorem i_X12_slope_82 : am_i m_X12_slope 82 = some (82, .iload_n 2, 1, [], 0) := rfl
theorem i_X12_slope_83 : am_i m_X12_slope 83 = some (83, .imul, 1, [], 0) := rfl
theorem i_X12_slope_84 : am_i m_X12_slope 84 = some (84, .iadd, 1, [], 0) := rfl
theorem i_X12_slope_85 : am_i m_X12_slope 85 = some (85, .iload 5, 2, [], 0) := rfl
theorem i_X12_slope_87 : am_i m_X12_slope 87 = some (87, .bipush 16, 2, [], 16) := rfl
theorem i_X12_slope_89 : am_i m_X12_slope 89 = some (89, .idiv, 1, [], 0) := rfl
theorem i_X12_slope_90 : am_i m_X12_slope 90 = some (90, .iload_n 3, 1, [], 0) := rfl
theorem i_X12_slope_91 : am_i m_X12_slope 91 = some (91, .imul, 1, [], 0) := rfl
theorem i_X12_slope_92 : am_i m_X12_slope 92 = some (92, .iadd, 1, [], 0) := rfl
theorem i_X12_slope_93 : am_i m_X12_slope 93 = some (93, .sipush 255, 3, [], 255) := rfl
theorem i_X12_slope_96 : am_i m_X12_slope 96 = some (96, .iand, 1, [], 0) := rfl
theorem i_X12_slope_97 : am_i m_X12_slope 97 = some (97, .iastore, 1, [], 0) := rfl
theorem i_X12_slope_98 : am_i m_X12_slope 98 = some (98, .iinc 5 1, 3, [], 0) := rfl
theorem i_X12_slope_101 : am_i m_X12_slope 101 = some (101, .goto (-44), 3, [], 0) := rfl
theorem i_X12_slope_104 : am_i m_X12_slope 104 = some (104, .iload 4, 2, [], 0) := rfl
theorem i_X12_slope_106 : am_i m_X12_slope 106 = some (106, .ifCond .eq 14, 3, [], 0) := rfl
theorem i_X12_slope_109 : am_i m_X12_slope 109 = some (109, .aload_n 0, 1, [], 0) := rfl
theorem i_X12_slope_110 : am_i m_X12_slope 110 = some (110, .getfield 18, 3, [10, 1, 0], 0) := rfl
theorem i_X12_slope_113 : am_i m_X12_slope 113 = some (113, .sipush 255, 3, [], 255) := rfl
theorem i_X12_slope_116 : am_i m_X12_slope 116 = some (116, .iaload, 1, [], 0) := rfl
theorem i_X12_slope_117 : am_i m_X12_slope 117 = some (117, .goto 4, 3, [], 0) := rfl
theorem i_X12_slope_120 : am_i m_X12_slope 120 = some (120, .iconst 0, 1, [], 0) := rfl
theorem i_X12_slope_121 : am_i m_X12_slope 121 = some (121, .ireturn, 1, [], 0) := rfl
theorem b_X12_slope_57 {a0 : Nat} {x1 x2 x3 x4 x5 x4' x5' : Int} {h : am_H} (w4 : wr x4 = x4') (w5 : wr x5 = x5') (k1 : K10 h a0) (g2 : (256 ≤ x5') → (¬ (x4' = 0)) → ((0 : Int) ≤ 255 ∧ 255 < (256 : Int))) (g3 : (¬ (256 ≤ x5')) → (x4' = 0) → (¬ (x4' = 0)) → ((0 : Int) ≤ 255 ∧ 255 < (256 : Int))) (g4 : (¬ (256 ≤ x5')) → (¬ (x4' = 0)) → (0 ≤ x5' ∧ x5' < (256 : Int))) : rn m_X12_slope 57 [.ref a0, .int (mI x1), .int (mI x2), .int (mI x3), .int (mI x4), .int (mI x5)] [] h = if 256 ≤ x5' then some (.inl (some (.int (mI (if x4' = 0 then (0 : Int) else gZ h (a0 + 1) 255)))), h) else if x4' = 0 then some (.inl (some (.int (mI (if x4' = 0 then (0 : Int) else gZ h (a0 + 1) 255)))), h) else rn m_X12_slope 57 [.ref a0, .int (mI x1), .int (mI x2), .int (mI x3), .int (mI x4), .int (mI (x5 + 1))] [] (uZ h (a0 + 1) x5' ((wr ((x1 + ((Int.tmod x5' 16) * x2)) + ((Int.tdiv x5' 16) * x3))) % 2 ^ 8)) := by
  refine (tq_iload i_X12_slope_57 rfl rfl).trans ?_
  refine (tq_sipush i_X12_slope_59 rfl).trans ?_
  refine (tq_icmp_ge (pt := 104) i_X12_slope_62 w5 w_256 (by decide) rfl).trans ?_
  refine ite_congr rfl (fun c1 => ?_) (fun c1 => ?_)
  · refine (tq_iload i_X12_slope_104 rfl rfl).trans ?_
    refine (tq_if_eq (pt := 120) i_X12_slope_106 w4 (by decide) rfl).trans ?_
    refine Eq.trans (b := if x4' = 0 then rn m_X12_slope 121 [.ref a0, .int (mI x1), .int (mI x2), .int (mI x3), .int (mI x4), .int (mI x5)] [.int (mI 0)] h else rn m_X12_slope 121 [.ref a0, .int (mI x1), .int (mI x2), .int (mI x3), .int (mI x4), .int (mI x5)] [.int (mI (gZ h (a0 + 1) 255))] h) (ite_congr rfl (fun c2 => ?_) (fun c2 => ?_)) ?_
    · refine (tq_iconst i_X12_slope_120 rfl).trans ?_
      rfl
    · refine (tq_aload_n i_X12_slope_109 rfl (isA_ref _) rfl).trans ?_
      refine (tq_getfield i_X12_slope_110 (K10_s k1) (gR (g_10_1 (K10_s k1)) (K10_e1 k1)) (isV_ref _) rfl).trans ?_
      refine (tq_sipush i_X12_slope_113 rfl).trans ?_
      refine (tq_iaload i_X12_slope_116 (K10_s1 k1) (by decide) w_255 (g2 c1 c2).1 (lt_gn (K10_n1 k1) (g2 c1 c2).2) rfl).trans ?_
      refine (tq_goto (pc' := 121) i_X12_slope_117 (by decide)).trans ?_
      rfl
    refine Eq.trans ite_I ?_
    exact tq_ireturn i_X12_slope_121 r_X12_slope rfl
  · refine (tq_iload i_X12_slope_65 rfl rfl).trans ?_
    refine (tq_if_eq (pt := 104) i_X12_slope_67 w4 (by decide) rfl).trans ?_
    refine ite_congr rfl (fun c3 => ?_) (fun c3 => ?_)
    · refine (tq_iload i_X12_slope_104 rfl rfl).trans ?_
      refine (tq_if_eq (pt := 120) i_X12_slope_106 w4 (by decide) rfl).trans ?_
      refine Eq.trans (b := if x4' = 0 then rn m_X12_slope 121 [.ref a0, .int (mI x1), .int (mI x2), .int (mI x3), .int (mI x4), .int (mI x5)] [.int (mI 0)] h else rn m_X12_slope 121 [.ref a0, .int (mI x1), .int (mI x2), .int (mI x3), .int (mI x4), .int (mI x5)] [.int (mI (gZ h (a0 + 1) 255))] h) (ite_congr rfl (fun c4 => ?_) (fun c4 => ?_)) ?_
      · refine (tq_iconst i_X12_slope_120 rfl).trans ?_
        rfl
      · refine (tq_aload_n i_X12_slope_109 rfl (isA_ref _) rfl).trans ?_
        refine (tq_getfield i_X12_slope_110 (K10_s k1) (gR (g_10_1 (K10_s k1)) (K10_e1 k1)) (isV_ref _) rfl).trans ?_
        refine (tq_sipush i_X12_slope_113 rfl).trans ?_
        refine (tq_iaload i_X12_slope_116 (K10_s1 k1) (by decide) w_255 (g3 c1 c3 c4).1 (lt_gn (K10_n1 k1) (g3 c1 c3 c4).2) rfl).trans ?_
        refine (tq_goto (pc' := 121) i_X12_slope_117 (by decide)).trans ?_
        rfl
      refine Eq.trans ite_I ?_
      exact tq_ireturn i_X12_slope_121 r_X12_slope rfl
    · refine (tq_aload_n i_X12_slope_70 rfl (isA_ref _) rfl).trans ?_
      refine (tq_getfield i_X12_slope_71 (K10_s k1) (gR (g_10_1 (K10_s k1)) (K10_e1 k1)) (isV_ref _) rfl).trans ?_
      refine (tq_iload i_X12_slope_74 rfl rfl).trans ?_
      refine (tq_iload_n i_X12_slope_76 rfl rfl).trans ?_
      refine (tq_iload i_X12_slope_77 rfl rfl).trans ?_
      refine (tq_bipush i_X12_slope_79 rfl).trans ?_
      refine (tq_irem i_X12_slope_81 w5 w_16 (by decide) rfl).trans ?_
      refine (tq_iload_n i_X12_slope_82 rfl rfl).trans ?_
      refine (tq_imul i_X12_slope_83 rfl).trans ?_
      refine (tq_iadd i_X12_slope_84 rfl).trans ?_
      refine (tq_iload i_X12_slope_85 rfl rfl).trans ?_
      refine (tq_bipush i_X12_slope_87 rfl).trans ?_
      refine (tq_idiv i_X12_slope_89 w5 w_16 (by decide) rfl).trans ?_
      refine (tq_iload_n i_X12_slope_90 rfl rfl).trans ?_
      refine (tq_imul i_X12_slope_91 rfl).trans ?_
      refine (tq_iadd i_X12_slope_92 rfl).trans ?_
      refine (tq_sipush i_X12_slope_93 rfl).trans ?_
      refine (tq_imask 8 i_X12_slope_96 rfl (by decide) (by decide) rfl).trans ?_
      refine (tq_iastore i_X12_slope_97 (K10_s1 k1) w5 (g4 c1 c3).1 (lt_gn (K10_n1 k1) (g4 c1 c3).2) rfl).trans ?_
      refine (tq_iinc (L' := [.ref a0, .int (mI x1), .int (mI x2), .int (mI x3), .int (mI x4), .int (mI (x5 + 1))]) i_X12_slope_98 rfl rfl rfl).trans ?_
      refine (tq_goto (pc' := 57) i_X12_slope_101 (by decide)).trans ?_
      rfl
theorem m_slope (rm : RM σ h D) {f a b : Int} (w1 : wr f = f) (w2 : wr a = a) (w3 : wr b = b) : (isS f a b → MRs (stc σ (slT (tc σ) f a b 256)) h D (rn m_X12_slope 0 [.ref 51, .int (mI f), .int (mI a), .int (mI b), am_J, am_J] [] h) (.int (mI (slT (tc σ) f a b 256 255))) 0 0 0) ∧ (¬ isS f a b → MRs σ h D (rn m_X12_slope 0 [.ref 51, .int (mI f), .int (mI a), .int (mI b), am_J, am_J] [] h) (.int (mI 0)) 1 0 0) := by
  have st := b_X12_slope_0 (a0 := 51) (x1 := f) (x2 := a) (x3 := b) (h := h) w1 w2 w3 rm.1
  have cg : ((¬ (f < 0) ∧ (¬ (255 < f))) ∧ ((¬ (a < (-99)) ∧ (¬ (99 < a))) ∧ ((¬ (b < (-99)) ∧ (¬ (99 < b)))))) ↔ ((0 ≤ f ∧ f ≤ 255) ∧ (-99 ≤ a ∧ a ≤ 99) ∧ -99 ≤ b ∧ b ≤ 99) := by omega
  rw [bZ_congr cg, bZ_congr (not_congr cg)] at st
  clear cg
  refine ⟨fun g => ?_, fun g => ?_⟩
  · unfold isS at g
    rw [bZ_t g, bZ_f (fun q => q g)] at st
    obtain ⟨gf, ga, gb⟩ := g
    obtain ⟨t1, t2, t3, tm⟩ := thr_ok (z := 0) rm (wr_id (by decide) (by decide))
    have e0 : gZ (uF 10 h 51 0 (.int (mI 0))) 52 = tc σ := t1.2.2.1
    generalize uF 10 h 51 0 (.int (mI 0)) = h1 at *
    generalize hc : tc σ = cv at *
    have g0 : slT cv f a b 0 = cv := by
      funext k
      unfold slT
      exact if_neg (by omega)
    rw [st]
    refine lp (m := m_X12_slope) (pc := 57) (L := fun i (_ : Unit) => [.ref 51, .int (mI f), .int (mI a), .int (mI b), .int (mI 1), .int (mI i)]) (N := 256) (P := fun r => MRs (stc σ (slT cv f a b 256)) h D r (.int (mI (slT cv f a b 256 255))) 0 0 0) (fun i _ h' => 0 ≤ i ∧ Md (fun a k => (a = 51 ∧ k = 0) ∨ a = 52) h h' ∧ fZ h' 51 0 = 0 ∧ gZ h' 52 = slT cv f a b i) ?_ ?_ 0 () h1 (by omega) ⟨by omega, Md_mono tm (fun a k q => Or.inl q), t2, by rw [g0]; exact e0⟩
    · intro i _ h' hi ⟨i0, md, th, hz⟩
      have k2 := K10_sm md.1 rm.1
      have st2 := b_X12_slope_57 (a0 := 51) (x1 := f) (x2 := a) (x3 := b) (x4 := 1) (h := h') (wr_id (by decide) (by decide)) (wr_id (z := i) (by omega) (by omega)) k2 (fun _ _ => by decide) (fun _ _ _ => by decide) (fun _ _ => ⟨i0, hi⟩)
      simp only [Nat.reduceAdd] at st2
      have m1 := mul99 (j := i % 16) (a := a) (by omega) ga
      have m2 := mul99 (j := i / 16) (a := b) (by omega) gb
      rw [if_neg (by omega), if_neg (by decide), tmd i0, tdv i0, wr_id (z := (f + (i % 16 * a)) + (i / 16 * b)) (by omega) (by omega), show (2 : Int) ^ 8 = 256 by decide] at st2
      refine ⟨(), _, st2, by omega, Md_tr md (Md_mono (Md_uZ _ _ _ _) fun a k w => Or.inr w), by rw [md_fZ (Md_uZ _ _ _ _) (by omega)]; exact th, ?_⟩
      funext k
      rw [gZ_uZ' (sh1 (K10_s1 k2)), hz, wr_id (by omega) (by omega)]
      unfold slT
      by_cases e : k = i
      · subst e
        rw [if_pos rfl, if_pos (by omega)]
      · rw [if_neg e]
        by_cases c1 : (0 ≤ k ∧ k < 256) ∧ k < i
        · rw [if_pos c1, if_pos (by omega)]
        · rw [if_neg c1, if_neg (by omega)]
    · intro _ h' ⟨i0, md, th, hz⟩
      have st2 := b_X12_slope_57 (a0 := 51) (x1 := f) (x2 := a) (x3 := b) (x4 := 1) (x5 := 256) (h := h') (wr_id (by decide) (by decide)) (wr_id (by decide) (by decide)) (K10_sm md.1 rm.1) (fun _ _ => by decide) (fun q => absurd (by decide) q) (fun q => absurd (by decide) q)
      simp only [Nat.reduceAdd] at st2
      rw [if_pos (by decide), if_neg (by decide), hz] at st2
      exact MRs_cv rm (md_fr md) hz th st2
  · unfold isS at g
    rw [bZ_f g, bZ_t g] at st
    obtain ⟨t1, t2, t3, tm⟩ := thr_ok (z := 1) rm (wr_id (by decide) (by decide))
    have st2 := b_X12_slope_57 (a0 := 51) (x1 := f) (x2 := a) (x3 := b) (x4 := 0) (x5 := 0) (h := uF 10 h 51 0 (.int (mI 1))) (wr_id (by decide) (by decide)) (wr_id (by decide) (by decide)) t1.1 (fun _ q => absurd rfl q) (fun _ _ q => absurd rfl q) (fun _ q => absurd rfl q)
    rw [if_neg (by decide), if_pos rfl, if_pos rfl] at st2
    exact ⟨_, st.trans st2, t1, t2, t3⟩
theorem i_X12_grain_0 : am_i m_X12_grain 0 = some (0, .aload_n 0, 1, [], 0) := rfl
theorem i_X12_grain_1 : am_i m_X12_grain 1 = some (1, .iload_n 2, 1, [], 0) := rfl
theorem i_X12_grain_2 : am_i m_X12_grain 2 = some (2, .iconst 1, 1, [], 1) := rfl
theorem i_X12_grain_3 : am_i m_X12_grain 3 = some (3, .bipush 99, 2, [], 99) := rfl
theorem i_X12_grain_5 : am_i m_X12_grain 5 = some (5, .invokestatic 113, 3, [27], 0) := rfl
theorem i_X12_grain_8 : am_i m_X12_grain 8 = some (8, .ifCond .eq 7, 3, [], 0) := rfl
theorem i_X12_grain_11 : am_i m_X12_grain 11 = some (11, .iconst 0, 1, [], 0) := rfl
theorem i_X12_grain_12 : am_i m_X12_grain 12 = some (12, .goto 4, 3, [], 0) := rfl
theorem i_X12_grain_15 : am_i m_X12_grain 15 = some (15, .iconst 1, 1, [], 1) := rfl
theorem i_X12_grain_16 : am_i m_X12_grain 16 = some (16, .putfield 110, 3, [10, 0, 0], 0) := rfl
theorem i_X12_grain_19 : am_i m_X12_grain 19 = some (19, .iload_n 1, 1, [], 0) := rfl
theorem i_X12_grain_20 : am_i m_X12_grain 20 = some (20, .istore_n 3, 1, [], 0) := rfl
theorem i_X12_grain_21 : am_i m_X12_grain 21 = some (21, .iconst 0, 1, [], 0) := rfl
theorem i_X12_grain_22 : am_i m_X12_grain 22 = some (22, .istore 4, 2, [], 0) := rfl
theorem b_X12_grain_0 {a0 : Nat} {x1 x2 x2' : Int} {h : am_H} (w2 : wr x2 = x2') (k1 : K10 h a0) : rn m_X12_grain 0 [.ref a0, .int (mI x1), .int (mI x2), am_J, am_J] [] h = rn m_X12_grain 24 [.ref a0, .int (mI x1), .int (mI x2), .int (mI x1), .int (mI 0)] [] (uF 10 h a0 0 (.int (mI (bZ (¬ (¬ (x2' < 1) ∧ (¬ (99 < x2')))))))) := by
  refine (tq_aload_n i_X12_grain_0 rfl (isA_ref _) rfl).trans ?_
  refine (tq_iload_n i_X12_grain_1 rfl rfl).trans ?_
  refine (tq_iconst i_X12_grain_2 rfl).trans ?_
  refine (tq_bipush i_X12_grain_3 rfl).trans ?_
  refine (c_X12_in i_X12_grain_5 (ltd d_X12_grain (by decide)) (stOk_1 _) rfl).trans ?_
  refine (congrArg (cl _ _ _ _) (b_X12_in_0 w2 w_1 w_99)).trans ?_
  refine (cl_v _ _ _ _ _ _).trans ?_
  refine (tq_ifb_eq (pt := 15) i_X12_grain_8 (by decide) rfl).trans ?_
  refine Eq.trans (b := if (¬ (x2' < 1) ∧ (¬ (99 < x2'))) then rn m_X12_grain 16 [.ref a0, .int (mI x1), .int (mI x2), am_J, am_J] [.int (mI 0), .ref a0] h else rn m_X12_grain 16 [.ref a0, .int (mI x1), .int (mI x2), am_J, am_J] [.int (mI 1), .ref a0] h) (ite_congr rfl (fun c1 => ?_) (fun c1 => ?_)) ?_
  · refine (tq_iconst i_X12_grain_11 rfl).trans ?_
    refine (tq_goto (pc' := 16) i_X12_grain_12 (by decide)).trans ?_
    rfl
  · refine (tq_iconst i_X12_grain_15 rfl).trans ?_
    rfl
  refine Eq.trans ite_b01 ?_
  refine (tq_putfield i_X12_grain_16 (K10_s k1) (okf_10_0 _) rfl).trans ?_
  refine (tq_iload_n i_X12_grain_19 rfl rfl).trans ?_
  refine (tq_istore_n (L' := [.ref a0, .int (mI x1), .int (mI x2), .int (mI x1), am_J]) i_X12_grain_20 rfl rfl).trans ?_
  refine (tq_iconst i_X12_grain_21 rfl).trans ?_
  refine (tq_istore (L' := [.ref a0, .int (mI x1), .int (mI x2), .int (mI x1), .int (mI 0)]) i_X12_grain_22 rfl rfl).trans ?_
  rfl
theorem i_X12_grain_24 : am_i m_X12_grain 24 = some (24, .iload 4, 2, [], 0) := rfl
theorem i_X12_grain_26 : am_i m_X12_grain 26 = some (26, .sipush 256, 3, [], 256) := rfl
theorem i_X12_grain_29 : am_i m_X12_grain 29 = some (29, .if_icmp .ge 55, 3, [], 0) := rfl
theorem i_X12_grain_32 : am_i m_X12_grain 32 = some (32, .aload_n 0, 1, [], 0) := rfl
theorem i_X12_grain_33 : am_i m_X12_grain 33 = some (33, .getfield 110, 3, [10, 0, 0], 0) := rfl
theorem i_X12_grain_36 : am_i m_X12_grain 36 = some (36, .ifCond .ne 48, 3, [], 0) := rfl
theorem i_X12_grain_39 : am_i m_X12_grain 39 = some (39, .ldc 117, 2, [], 1103515245) := rfl
theorem i_X12_grain_41 : am_i m_X12_grain 41 = some (41, .iload_n 3, 1, [], 0) := rfl
theorem i_X12_grain_42 : am_i m_X12_grain 42 = some (42, .imul, 1, [], 0) := rfl
theorem i_X12_grain_43 : am_i m_X12_grain 43 = some (43, .sipush 12345, 3, [], 12345) := rfl
theorem i_X12_grain_46 : am_i m_X12_grain 46 = some (46, .iadd, 1, [], 0) := rfl
theorem i_X12_grain_47 : am_i m_X12_grain 47 = some (47, .istore_n 3, 1, [], 0) := rfl
theorem i_X12_grain_48 : am_i m_X12_grain 48 = some (48, .aload_n 0, 1, [], 0) := rfl
theorem i_X12_grain_49 : am_i m_X12_grain 49 = some (49, .getfield 18, 3, [10, 1, 0], 0) := rfl
theorem i_X12_grain_52 : am_i m_X12_grain 52 = some (52, .iload 4, 2, [], 0) := rfl
theorem i_X12_grain_54 : am_i m_X12_grain 54 = some (54, .aload_n 0, 1, [], 0) := rfl
theorem i_X12_grain_55 : am_i m_X12_grain 55 = some (55, .getfield 18, 3, [10, 1, 0], 0) := rfl
theorem i_X12_grain_58 : am_i m_X12_grain 58 = some (58, .iload 4, 2, [], 0) := rfl
theorem i_X12_grain_60 : am_i m_X12_grain 60 = some (60, .iaload, 1, [], 0) := rfl
theorem i_X12_grain_61 : am_i m_X12_grain 61 = some (61, .iload_n 3, 1, [], 0) := rfl
theorem i_X12_grain_62 : am_i m_X12_grain 62 = some (62, .bipush 16, 2, [], 16) := rfl
theorem i_X12_grain_64 : am_i m_X12_grain 64 = some (64, .iushr, 1, [], 0) := rfl
theorem i_X12_grain_65 : am_i m_X12_grain 65 = some (65, .iconst 2, 1, [], 2) := rfl
theorem i_X12_grain_66 : am_i m_X12_grain 66 = some (66, .iload_n 2, 1, [], 0) := rfl
theorem i_X12_grain_67 : am_i m_X12_grain 67 = some (67, .imul, 1, [], 0) := rfl
theorem i_X12_grain_68 : am_i m_X12_grain 68 = some (68, .iconst 1, 1, [], 1) := rfl
theorem i_X12_grain_69 : am_i m_X12_grain 69 = some (69, .iadd, 1, [], 0) := rfl
theorem i_X12_grain_70 : am_i m_X12_grain 70 = some (70, .irem, 1, [], 0) := rfl
theorem i_X12_grain_71 : am_i m_X12_grain 71 = some (71, .iadd, 1, [], 0) := rfl
theorem i_X12_grain_72 : am_i m_X12_grain 72 = some (72, .iload_n 2, 1, [], 0) := rfl
theorem i_X12_grain_73 : am_i m_X12_grain 73 = some (73, .isub, 1, [], 0) := rfl
theorem i_X12_grain_74 : am_i m_X12_grain 74 = some (74, .invokestatic 118, 3, [76], 0) := rfl
theorem i_X12_grain_77 : am_i m_X12_grain 77 = some (77, .iastore, 1, [], 0) := rfl
theorem i_X12_grain_78 : am_i m_X12_grain 78 = some (78, .iinc 4 1, 3, [], 0) := rfl
theorem i_X12_grain_81 : am_i m_X12_grain 81 = some (81, .goto (-57), 3, [], 0) := rfl
theorem i_X12_grain_84 : am_i m_X12_grain 84 = some (84, .aload_n 0, 1, [], 0) := rfl
theorem i_X12_grain_85 : am_i m_X12_grain 85 = some (85, .getfield 110, 3, [10, 0, 0], 0) := rfl
theorem i_X12_grain_88 : am_i m_X12_grain 88 = some (88, .ifCond .ne 7, 3, [], 0) := rfl
theorem i_X12_grain_91 : am_i m_X12_grain 91 = some (91, .iload_n 3, 1, [], 0) := rfl
theorem i_X12_grain_92 : am_i m_X12_grain 92 = some (92, .goto 4, 3, [], 0) := rfl
theorem i_X12_grain_95 : am_i m_X12_grain 95 = some (95, .iconst 0, 1, [], 0) := rfl
theorem i_X12_grain_96 : am_i m_X12_grain 96 = some (96, .ireturn, 1, [], 0) := rfl
theorem b_X12_grain_24 {a0 : Nat} {v1 : Value} {x2 x3 x4 x4' : Int} {h : am_H} (w4 : wr x4 = x4') (k1 : K10 h a0) (g2 : (¬ (256 ≤ x4')) → (¬ (¬ (fZ h a0 0) = 0)) → (0 ≤ x4' ∧ x4' < (256 : Int))) (g3 : (¬ (256 ≤ x4')) → (¬ (¬ (fZ h a0 0) = 0)) → (wr ((2 * x2) + 1) ≠ 0)) : rn m_X12_grain 24 [.ref a0, v1, .int (mI x2), .int (mI x3), .int (mI x4)] [] h = if 256 ≤ x4' then some (.inl (some (.int (mI (if ¬ (fZ h a0 0) = 0 then (0 : Int) else x3)))), h) else if ¬ (fZ h a0 0) = 0 then some (.inl (some (.int (mI (if ¬ (fZ h a0 0) = 0 then (0 : Int) else x3)))), h) else rn m_X12_grain 24 [.ref a0, v1, .int (mI x2), .int (mI ((1103515245 * x3) + 12345)), .int (mI (x4 + 1))] [] (uZ h (a0 + 1) x4' (clampv (wr (((gZ h (a0 + 1) x4') + (Int.tmod (wr (((1103515245 * x3) + 12345) % 4294967296 / 2 ^ 16)) (wr ((2 * x2) + 1)))) - x2)))) := by
  refine (tq_iload i_X12_grain_24 rfl rfl).trans ?_
  refine (tq_sipush i_X12_grain_26 rfl).trans ?_
  refine (tq_icmp_ge (pt := 84) i_X12_grain_29 w4 w_256 (by decide) rfl).trans ?_
  refine ite_congr rfl (fun c1 => ?_) (fun c1 => ?_)
  · refine (tq_aload_n i_X12_grain_84 rfl (isA_ref _) rfl).trans ?_
    refine (tq_getfield i_X12_grain_85 (K10_s k1) (g_10_0 (K10_s k1)) (isV_I _) rfl).trans ?_
    refine (tq_if_ne (pt := 95) i_X12_grain_88 (wr_fZ _ _ _) (by decide) rfl).trans ?_
    refine Eq.trans (b := if ¬ (fZ h a0 0) = 0 then rn m_X12_grain 96 [.ref a0, v1, .int (mI x2), .int (mI x3), .int (mI x4)] [.int (mI 0)] h else rn m_X12_grain 96 [.ref a0, v1, .int (mI x2), .int (mI x3), .int (mI x4)] [.int (mI x3)] h) (ite_congr rfl (fun c2 => ?_) (fun c2 => ?_)) ?_
    · refine (tq_iconst i_X12_grain_95 rfl).trans ?_
      rfl
    · refine (tq_iload_n i_X12_grain_91 rfl rfl).trans ?_
      refine (tq_goto (pc' := 96) i_X12_grain_92 (by decide)).trans ?_
      rfl
    refine Eq.trans ite_I ?_
    exact tq_ireturn i_X12_grain_96 r_X12_grain rfl
  · refine (tq_aload_n i_X12_grain_32 rfl (isA_ref _) rfl).trans ?_
    refine (tq_getfield i_X12_grain_33 (K10_s k1) (g_10_0 (K10_s k1)) (isV_I _) rfl).trans ?_
    refine (tq_if_ne (pt := 84) i_X12_grain_36 (wr_fZ _ _ _) (by decide) rfl).trans ?_
    refine ite_congr rfl (fun c3 => ?_) (fun c3 => ?_)
    · refine (tq_aload_n i_X12_grain_84 rfl (isA_ref _) rfl).trans ?_
      refine (tq_getfield i_X12_grain_85 (K10_s k1) (g_10_0 (K10_s k1)) (isV_I _) rfl).trans ?_
      refine (tq_if_ne (pt := 95) i_X12_grain_88 (wr_fZ _ _ _) (by decide) rfl).trans ?_
      refine Eq.trans (b := if ¬ (fZ h a0 0) = 0 then rn m_X12_grain 96 [.ref a0, v1, .int (mI x2), .int (mI x3), .int (mI x4)] [.int (mI 0)] h else rn m_X12_grain 96 [.ref a0, v1, .int (mI x2), .int (mI x3), .int (mI x4)] [.int (mI x3)] h) (ite_congr rfl (fun c4 => ?_) (fun c4 => ?_)) ?_
      · refine (tq_iconst i_X12_grain_95 rfl).trans ?_
        rfl
      · refine (tq_iload_n i_X12_grain_91 rfl rfl).trans ?_
        refine (tq_goto (pc' := 96) i_X12_grain_92 (by decide)).trans ?_
        rfl
      refine Eq.trans ite_I ?_
      exact tq_ireturn i_X12_grain_96 r_X12_grain rfl
    · refine (tq_ldc i_X12_grain_39 rfl).trans ?_
      refine (tq_iload_n i_X12_grain_41 rfl rfl).trans ?_
      refine (tq_imul i_X12_grain_42 rfl).trans ?_
      refine (tq_sipush i_X12_grain_43 rfl).trans ?_
      refine (tq_iadd i_X12_grain_46 rfl).trans ?_
      refine (tq_istore_n (L' := [.ref a0, v1, .int (mI x2), .int (mI ((1103515245 * x3) + 12345)), .int (mI x4)]) i_X12_grain_47 rfl rfl).trans ?_
      refine (tq_aload_n i_X12_grain_48 rfl (isA_ref _) rfl).trans ?_
      refine (tq_getfield i_X12_grain_49 (K10_s k1) (gR (g_10_1 (K10_s k1)) (K10_e1 k1)) (isV_ref _) rfl).trans ?_
      refine (tq_iload i_X12_grain_52 rfl rfl).trans ?_
      refine (tq_aload_n i_X12_grain_54 rfl (isA_ref _) rfl).trans ?_
      refine (tq_getfield i_X12_grain_55 (K10_s k1) (gR (g_10_1 (K10_s k1)) (K10_e1 k1)) (isV_ref _) rfl).trans ?_
      refine (tq_iload i_X12_grain_58 rfl rfl).trans ?_
      refine (tq_iaload i_X12_grain_60 (K10_s1 k1) (by decide) w4 (g2 c1 c3).1 (lt_gn (K10_n1 k1) (g2 c1 c3).2) rfl).trans ?_
      refine (tq_iload_n i_X12_grain_61 rfl rfl).trans ?_
      refine (tq_bipush i_X12_grain_62 rfl).trans ?_
      refine (tq_iushr (k := 16) i_X12_grain_64 w_16 (by decide) (by decide) rfl).trans ?_
      refine (tq_iconst i_X12_grain_65 rfl).trans ?_
      refine (tq_iload_n i_X12_grain_66 rfl rfl).trans ?_
      refine (tq_imul i_X12_grain_67 rfl).trans ?_
      refine (tq_iconst i_X12_grain_68 rfl).trans ?_
      refine (tq_iadd i_X12_grain_69 rfl).trans ?_
      refine (tq_irem i_X12_grain_70 rfl rfl (g3 c1 c3) rfl).trans ?_
      refine (tq_iadd i_X12_grain_71 rfl).trans ?_
      refine (tq_iload_n i_X12_grain_72 rfl rfl).trans ?_
      refine (tq_isub i_X12_grain_73 rfl).trans ?_
      refine (c_X12_held i_X12_grain_74 (ltd d_X12_grain (by decide)) (stOk_2 _ _) rfl).trans ?_
      refine (congrArg (cl _ _ _ _) (held_ok rfl)).trans ?_
      refine (cl_v _ _ _ _ _ _).trans ?_
      refine (tq_iastore i_X12_grain_77 (K10_s1 k1) w4 (g2 c1 c3).1 (lt_gn (K10_n1 k1) (g2 c1 c3).2) rfl).trans ?_
      refine (tq_iinc (L' := [.ref a0, v1, .int (mI x2), .int (mI ((1103515245 * x3) + 12345)), .int (mI (x4 + 1))]) i_X12_grain_78 rfl rfl rfl).trans ?_
      refine (tq_goto (pc' := 24) i_X12_grain_81 (by decide)).trans ?_
      rfl
theorem m_grain (rm : RM σ h D) (pc : pixels (tc σ)) {s z : Int} (w1 : wr s = s) (w : wr z = z) : (1 ≤ z ∧ z ≤ 99 → MRs (stc σ (grT (tc σ) s z 256)) h D (rn m_X12_grain 0 [.ref 51, .int (mI s), .int (mI z), am_J, am_J] [] h) (.int (mI (gsq s 256))) 0 0 0) ∧ (¬ (1 ≤ z ∧ z ≤ 99) → MRs σ h D (rn m_X12_grain 0 [.ref 51, .int (mI s), .int (mI z), am_J, am_J] [] h) (.int (mI 0)) 1 0 0) := by
  have st := b_X12_grain_0 (a0 := 51) (x1 := s) (x2 := z) (h := h) w rm.1
  have cg : (¬ (¬ (z < 1) ∧ (¬ (99 < z)))) ↔ ¬ (1 ≤ z ∧ z ≤ 99) := by omega
  rw [bZ_congr cg] at st
  clear cg
  refine ⟨fun g => ?_, fun g => ?_⟩
  · rw [bZ_f (fun q => q g)] at st
    obtain ⟨t1, t2, t3, tm⟩ := thr_ok (z := 0) rm (wr_id (by decide) (by decide))
    have e0 : gZ (uF 10 h 51 0 (.int (mI 0))) 52 = tc σ := t1.2.2.1
    generalize uF 10 h 51 0 (.int (mI 0)) = h1 at *
    generalize hc : tc σ = cv at *
    have g0 : grT cv s z 0 = cv := by
      funext k
      unfold grT
      exact if_neg (by omega)
    rw [st]
    refine lp (m := m_X12_grain) (pc := 24) (L := fun i (_ : Unit) => [.ref 51, .int (mI s), .int (mI z), .int (mI (gsq s i.toNat)), .int (mI i)]) (N := 256) (P := fun r => MRs (stc σ (grT cv s z 256)) h D r (.int (mI (gsq s 256))) 0 0 0) (fun i _ h' => 0 ≤ i ∧ Md (fun a k => (a = 51 ∧ k = 0) ∨ a = 52) h h' ∧ fZ h' 51 0 = 0 ∧ gZ h' 52 = grT cv s z i) ?_ ?_ 0 () h1 (by omega) ⟨by omega, Md_mono tm (fun a k q => Or.inl q), t2, by rw [g0]; exact e0⟩
    · intro i _ h' hi ⟨i0, md, th, hz2⟩
      have k2 := K10_sm md.1 rm.1
      have st2 := b_X12_grain_24 (a0 := 51) (v1 := .int (mI s)) (x2 := z) (x3 := gsq s i.toNat) (h := h') (wr_id (z := i) (by omega) (by omega)) k2 (fun _ _ => ⟨i0, hi⟩) (fun _ _ => by rw [wr_id (by omega) (by omega)]; omega)
      simp only [Nat.reduceAdd] at st2
      have gi : gZ h' 52 i = cv i := by
        rw [hz2]
        unfold grT
        exact if_neg (by omega)
      have pi := pc i i0 hi
      have e16 : (2 : Int) ^ 16 = 65536 := by decide
      have nb : 0 ≤ (1103515245 * gsq s i.toNat + 12345) % 4294967296 / 65536 ∧ (1103515245 * gsq s i.toNat + 12345) % 4294967296 / 65536 < 65536 := by omega
      have mb : 0 ≤ (1103515245 * gsq s i.toNat + 12345) % 4294967296 / 65536 % (2 * z + 1) ∧ (1103515245 * gsq s i.toNat + 12345) % 4294967296 / 65536 % (2 * z + 1) < 2 * z + 1 := ⟨Int.emod_nonneg _ (by omega), Int.emod_lt_of_pos _ (by omega)⟩
      have ea : cv i + (1103515245 * gsq s i.toNat + 12345) % 4294967296 / 65536 % (2 * z + 1) - z = cv i + grA s z i := by unfold grA; omega
      rw [if_neg (by omega), th, if_neg (by decide), gi, e16, wr_id (z := (1103515245 * gsq s i.toNat + 12345) % 4294967296 / 65536) (by omega) (by omega), wr_id (z := 2 * z + 1) (by omega) (by omega), tmd nb.1, wr_id (z := cv i + (1103515245 * gsq s i.toNat + 12345) % 4294967296 / 65536 % (2 * z + 1) - z) (by omega) (by omega), ea] at st2
      have em : (Value.int (mI ((1103515245 * gsq s i.toNat) + 12345))) = .int (mI (gsq s (i + 1).toNat)) := by
        rw [show (i + 1).toNat = i.toNat + 1 by omega]
        show _ = Value.int (mI (wr _))
        rw [mI_wr]
      rw [em] at st2
      refine ⟨(), _, st2, by omega, Md_tr md (Md_mono (Md_uZ _ _ _ _) fun a k w => Or.inr w), by rw [md_fZ (Md_uZ _ _ _ _) (by omega)]; exact th, ?_⟩
      funext k
      rw [gZ_uZ' (sh1 (K10_s1 k2)), hz2, wr_clampv]
      unfold grT
      by_cases e : k = i
      · subst e
        rw [if_pos rfl, if_pos (by omega)]
      · rw [if_neg e]
        by_cases c1 : (0 ≤ k ∧ k < 256) ∧ k < i
        · rw [if_pos c1, if_pos (by omega)]
        · rw [if_neg c1, if_neg (by omega)]
    · intro _ h' ⟨i0, md, th, hz2⟩
      have st2 := b_X12_grain_24 (a0 := 51) (v1 := .int (mI s)) (x2 := z) (x3 := gsq s (256 : Int).toNat) (x4 := 256) (h := h') (wr_id (by decide) (by decide)) (K10_sm md.1 rm.1) (fun q => absurd (by decide) q) (fun q => absurd (by decide) q)
      rw [if_pos (by decide), th, if_neg (by decide), show (256 : Int).toNat = 256 by decide] at st2
      exact MRs_cv rm (md_fr md) hz2 th st2
  · rw [bZ_t g] at st
    obtain ⟨t1, t2, t3, tm⟩ := thr_ok (z := 1) rm (wr_id (by decide) (by decide))
    have st2 := b_X12_grain_24 (a0 := 51) (v1 := .int (mI s)) (x2 := z) (x3 := s) (x4 := 0) (h := uF 10 h 51 0 (.int (mI 1))) (wr_id (by decide) (by decide)) t1.1 (fun _ q => absurd (by rw [t2]; decide) q) (fun _ q => absurd (by rw [t2]; decide) q)
    rw [if_neg (by decide), t2, if_pos (by decide), if_pos (by decide)] at st2
    exact ⟨_, st.trans st2, t1, t2, t3⟩
theorem i_X12_move_0 : am_i m_X12_move 0 = some (0, .aload_n 0, 1, [], 0) := rfl
theorem i_X12_move_1 : am_i m_X12_move 1 = some (1, .iload_n 1, 1, [], 0) := rfl
theorem i_X12_move_2 : am_i m_X12_move 2 = some (2, .bipush (-15), 2, [], -15) := rfl
theorem i_X12_move_4 : am_i m_X12_move 4 = some (4, .bipush 15, 2, [], 15) := rfl
theorem i_X12_move_6 : am_i m_X12_move 6 = some (6, .invokestatic 113, 3, [27], 0) := rfl
theorem i_X12_move_9 : am_i m_X12_move 9 = some (9, .ifCond .eq 18, 3, [], 0) := rfl
theorem i_X12_move_12 : am_i m_X12_move 12 = some (12, .iload_n 2, 1, [], 0) := rfl
theorem i_X12_move_13 : am_i m_X12_move 13 = some (13, .bipush (-15), 2, [], -15) := rfl
theorem i_X12_move_15 : am_i m_X12_move 15 = some (15, .bipush 15, 2, [], 15) := rfl
theorem i_X12_move_17 : am_i m_X12_move 17 = some (17, .invokestatic 113, 3, [27], 0) := rfl
theorem i_X12_move_20 : am_i m_X12_move 20 = some (20, .ifCond .eq 7, 3, [], 0) := rfl
theorem i_X12_move_23 : am_i m_X12_move 23 = some (23, .iconst 0, 1, [], 0) := rfl
theorem i_X12_move_24 : am_i m_X12_move 24 = some (24, .goto 4, 3, [], 0) := rfl
theorem i_X12_move_27 : am_i m_X12_move 27 = some (27, .iconst 1, 1, [], 1) := rfl
theorem i_X12_move_28 : am_i m_X12_move 28 = some (28, .putfield 110, 3, [10, 0, 0], 0) := rfl
theorem i_X12_move_31 : am_i m_X12_move 31 = some (31, .aload_n 0, 1, [], 0) := rfl
theorem i_X12_move_32 : am_i m_X12_move 32 = some (32, .getfield 110, 3, [10, 0, 0], 0) := rfl
theorem i_X12_move_35 : am_i m_X12_move 35 = some (35, .ifCond .le 5, 3, [], 0) := rfl
theorem i_X12_move_38 : am_i m_X12_move 38 = some (38, .iconst 0, 1, [], 0) := rfl
theorem i_X12_move_39 : am_i m_X12_move 39 = some (39, .ireturn, 1, [], 0) := rfl
theorem i_X12_move_40 : am_i m_X12_move 40 = some (40, .aload_n 0, 1, [], 0) := rfl
theorem i_X12_move_41 : am_i m_X12_move 41 = some (41, .getfield 18, 3, [10, 1, 0], 0) := rfl
theorem i_X12_move_44 : am_i m_X12_move 44 = some (44, .invokevirtual 122, 3, [], 0) := rfl
theorem b_X12_move_0 {a0 : Nat} {x1 x2 x1' x2' : Int} {h : am_H} (w1 : wr x1 = x1') (w2 : wr x2 = x2') (k1 : K10 h a0) : rn m_X12_move 0 [.ref a0, .int (mI x1), .int (mI x2), am_J, am_J, am_J, am_J] [] h = if (bZ (¬ (¬ (x1' < (-15)) ∧ (¬ (15 < x1'))) ∨ (¬ (¬ (x2' < (-15)) ∧ (¬ (15 < x2')))))) ≤ 0 then rn m_X12_move 47 [.ref a0, .int (mI x1), .int (mI x2), am_J, am_J, am_J, am_J] [.ref (hnx (uF 10 h a0 0 (.int (mI (bZ (¬ (¬ (x1' < (-15)) ∧ (¬ (15 < x1'))) ∨ (¬ (¬ (x2' < (-15)) ∧ (¬ (15 < x2'))))))))))] (aC (a0 + 1) (uF 10 h a0 0 (.int (mI (bZ (¬ (¬ (x1' < (-15)) ∧ (¬ (15 < x1'))) ∨ (¬ (¬ (x2' < (-15)) ∧ (¬ (15 < x2')))))))))) else some (.inl (some (.int (mI 0))), uF 10 h a0 0 (.int (mI (bZ (¬ (¬ (x1' < (-15)) ∧ (¬ (15 < x1'))) ∨ (¬ (¬ (x2' < (-15)) ∧ (¬ (15 < x2'))))))))) := by
  refine (tq_aload_n i_X12_move_0 rfl (isA_ref _) rfl).trans ?_
  refine (tq_iload_n i_X12_move_1 rfl rfl).trans ?_
  refine (tq_bipush i_X12_move_2 rfl).trans ?_
  refine (tq_bipush i_X12_move_4 rfl).trans ?_
  refine (c_X12_in i_X12_move_6 (ltd d_X12_move (by decide)) (stOk_1 _) rfl).trans ?_
  refine (congrArg (cl _ _ _ _) (b_X12_in_0 w1 w_m15 w_15)).trans ?_
  refine (cl_v _ _ _ _ _ _).trans ?_
  refine (tq_ifb_eq (pt := 27) i_X12_move_9 (by decide) rfl).trans ?_
  refine Eq.trans (b := if (¬ (x1' < (-15)) ∧ (¬ (15 < x1'))) then rn m_X12_move 28 [.ref a0, .int (mI x1), .int (mI x2), am_J, am_J, am_J, am_J] [.int (mI (bZ (¬ (¬ (x2' < (-15)) ∧ (¬ (15 < x2')))))), .ref a0] h else rn m_X12_move 28 [.ref a0, .int (mI x1), .int (mI x2), am_J, am_J, am_J, am_J] [.int (mI 1), .ref a0] h) (ite_congr rfl (fun c1 => ?_) (fun c1 => ?_)) ?_
  · refine (tq_iload_n i_X12_move_12 rfl rfl).trans ?_
    refine (tq_bipush i_X12_move_13 rfl).trans ?_
    refine (tq_bipush i_X12_move_15 rfl).trans ?_
    refine (c_X12_in i_X12_move_17 (ltd d_X12_move (by decide)) (stOk_1 _) rfl).trans ?_
    refine (congrArg (cl _ _ _ _) (b_X12_in_0 w2 w_m15 w_15)).trans ?_
    refine (cl_v _ _ _ _ _ _).trans ?_
    refine (tq_ifb_eq (pt := 27) i_X12_move_20 (by decide) rfl).trans ?_
    refine Eq.trans (b := if (¬ (x2' < (-15)) ∧ (¬ (15 < x2'))) then rn m_X12_move 28 [.ref a0, .int (mI x1), .int (mI x2), am_J, am_J, am_J, am_J] [.int (mI 0), .ref a0] h else rn m_X12_move 28 [.ref a0, .int (mI x1), .int (mI x2), am_J, am_J, am_J, am_J] [.int (mI 1), .ref a0] h) (ite_congr rfl (fun c2 => ?_) (fun c2 => ?_)) ?_
    · refine (tq_iconst i_X12_move_23 rfl).trans ?_
      refine (tq_goto (pc' := 28) i_X12_move_24 (by decide)).trans ?_
      rfl
    · refine (tq_iconst i_X12_move_27 rfl).trans ?_
      rfl
    exact ite_b01
  · refine (tq_iconst i_X12_move_27 rfl).trans ?_
    rfl
  refine Eq.trans ite_bp1 ?_
  refine (tq_putfield i_X12_move_28 (K10_s k1) (okf_10_0 _) rfl).trans ?_
  refine (tq_aload_n i_X12_move_31 rfl (isA_ref _) rfl).trans ?_
  refine (tq_getfield i_X12_move_32 ((sh_uF _ _ _ _ _ _).trans (K10_s k1)) (gV_uF_eq (K10_s k1) (okf_10_0 _)) (isV_I _) rfl).trans ?_
  refine (tq_if_le (pt := 40) i_X12_move_35 (wr_bZ _) (by decide) rfl).trans ?_
  refine ite_congr rfl (fun c3 => ?_) (fun c3 => ?_)
  · refine (tq_aload_n i_X12_move_40 rfl (isA_ref _) rfl).trans ?_
    refine (tq_getfield i_X12_move_41 ((sh_uF _ _ _ _ _ _).trans (K10_s k1)) (gR ((g_10_1 ((sh_uF _ _ _ _ _ _).trans (K10_s k1))).trans (congrArg am_rv (fA_uF_nk (K10_s k1) (okf_10_0 _) (by decide)))) (K10_e1 k1)) (isV_ref _) rfl).trans ?_
    exact tq_clone i_X12_move_44 ((sh_uF _ _ _ _ _ _).trans (K10_s1 k1)) (Nat.le_of_ble_eq_true rfl) rfl
  · refine (tq_iconst i_X12_move_38 rfl).trans ?_
    exact tq_ireturn i_X12_move_39 r_X12_move rfl
theorem i_X12_move_47 : am_i m_X12_move 47 = some (47, .checkcast 69, 3, [], 0) := rfl
theorem i_X12_move_50 : am_i m_X12_move 50 = some (50, .astore_n 3, 1, [], 0) := rfl
theorem i_X12_move_51 : am_i m_X12_move 51 = some (51, .iconst 0, 1, [], 0) := rfl
theorem i_X12_move_52 : am_i m_X12_move 52 = some (52, .istore 4, 2, [], 0) := rfl
theorem b_X12_move_47 {a0 as0 : Nat} {x1 x2 : Int} {v3 v4 v5 v6 : Value} {h : am_H} (s1 : sh h as0 = (1, 0)) : rn m_X12_move 47 [.ref a0, .int (mI x1), .int (mI x2), v3, v4, v5, v6] [.ref as0] h = rn m_X12_move 54 [.ref a0, .int (mI x1), .int (mI x2), .ref as0, .int (mI 0), v5, v6] [] h := by
  refine (tq_checkcast i_X12_move_47 s1 rfl).trans ?_
  refine (tq_astore_n (L' := [.ref a0, .int (mI x1), .int (mI x2), .ref as0, v4, v5, v6]) i_X12_move_50 (isA_ref _) rfl rfl).trans ?_
  refine (tq_iconst i_X12_move_51 rfl).trans ?_
  refine (tq_istore (L' := [.ref a0, .int (mI x1), .int (mI x2), .ref as0, .int (mI 0), v5, v6]) i_X12_move_52 rfl rfl).trans ?_
  rfl
theorem i_X12_move_54 : am_i m_X12_move 54 = some (54, .iload 4, 2, [], 0) := rfl
theorem i_X12_move_56 : am_i m_X12_move 56 = some (56, .sipush 256, 3, [], 256) := rfl
theorem i_X12_move_59 : am_i m_X12_move 59 = some (59, .if_icmp .ge 56, 3, [], 0) := rfl
theorem i_X12_move_62 : am_i m_X12_move 62 = some (62, .iload 4, 2, [], 0) := rfl
theorem i_X12_move_64 : am_i m_X12_move 64 = some (64, .bipush 16, 2, [], 16) := rfl
theorem i_X12_move_66 : am_i m_X12_move 66 = some (66, .irem, 1, [], 0) := rfl
theorem i_X12_move_67 : am_i m_X12_move 67 = some (67, .iload_n 1, 1, [], 0) := rfl
theorem i_X12_move_68 : am_i m_X12_move 68 = some (68, .iadd, 1, [], 0) := rfl
theorem i_X12_move_69 : am_i m_X12_move 69 = some (69, .bipush 16, 2, [], 16) := rfl
theorem i_X12_move_71 : am_i m_X12_move 71 = some (71, .iadd, 1, [], 0) := rfl
theorem i_X12_move_72 : am_i m_X12_move 72 = some (72, .bipush 15, 2, [], 15) := rfl
theorem i_X12_move_74 : am_i m_X12_move 74 = some (74, .iand, 1, [], 0) := rfl
theorem i_X12_move_75 : am_i m_X12_move 75 = some (75, .istore 5, 2, [], 0) := rfl
theorem i_X12_move_77 : am_i m_X12_move 77 = some (77, .iload 4, 2, [], 0) := rfl
theorem i_X12_move_79 : am_i m_X12_move 79 = some (79, .bipush 16, 2, [], 16) := rfl
theorem i_X12_move_81 : am_i m_X12_move 81 = some (81, .idiv, 1, [], 0) := rfl
theorem i_X12_move_82 : am_i m_X12_move 82 = some (82, .iload_n 2, 1, [], 0) := rfl
theorem i_X12_move_83 : am_i m_X12_move 83 = some (83, .iadd, 1, [], 0) := rfl
theorem i_X12_move_84 : am_i m_X12_move 84 = some (84, .bipush 16, 2, [], 16) := rfl
theorem i_X12_move_86 : am_i m_X12_move 86 = some (86, .iadd, 1, [], 0) := rfl
theorem i_X12_move_87 : am_i m_X12_move 87 = some (87, .bipush 15, 2, [], 15) := rfl
theorem i_X12_move_89 : am_i m_X12_move 89 = some (89, .iand, 1, [], 0) := rfl
theorem i_X12_move_90 : am_i m_X12_move 90 = some (90, .istore 6, 2, [], 0) := rfl
theorem i_X12_move_92 : am_i m_X12_move 92 = some (92, .aload_n 0, 1, [], 0) := rfl
theorem i_X12_move_93 : am_i m_X12_move 93 = some (93, .getfield 18, 3, [10, 1, 0], 0) := rfl
theorem i_X12_move_96 : am_i m_X12_move 96 = some (96, .bipush 16, 2, [], 16) := rfl
theorem i_X12_move_98 : am_i m_X12_move 98 = some (98, .iload 6, 2, [], 0) := rfl
theorem i_X12_move_100 : am_i m_X12_move 100 = some (100, .imul, 1, [], 0) := rfl
theorem i_X12_move_101 : am_i m_X12_move 101 = some (101, .iload 5, 2, [], 0) := rfl
theorem i_X12_move_103 : am_i m_X12_move 103 = some (103, .iadd, 1, [], 0) := rfl
theorem i_X12_move_104 : am_i m_X12_move 104 = some (104, .aload_n 3, 1, [], 0) := rfl
theorem i_X12_move_105 : am_i m_X12_move 105 = some (105, .iload 4, 2, [], 0) := rfl
theorem i_X12_move_107 : am_i m_X12_move 107 = some (107, .iaload, 1, [], 0) := rfl
theorem i_X12_move_108 : am_i m_X12_move 108 = some (108, .iastore, 1, [], 0) := rfl
theorem i_X12_move_109 : am_i m_X12_move 109 = some (109, .iinc 4 1, 3, [], 0) := rfl
theorem i_X12_move_112 : am_i m_X12_move 112 = some (112, .goto (-58), 3, [], 0) := rfl
theorem i_X12_move_115 : am_i m_X12_move 115 = some (115, .aload_n 0, 1, [], 0) := rfl
theorem i_X12_move_116 : am_i m_X12_move 116 = some (116, .getfield 18, 3, [10, 1, 0], 0) := rfl
theorem i_X12_move_119 : am_i m_X12_move 119 = some (119, .iconst 0, 1, [], 0) := rfl
theorem i_X12_move_120 : am_i m_X12_move 120 = some (120, .iaload, 1, [], 0) := rfl
theorem i_X12_move_121 : am_i m_X12_move 121 = some (121, .ireturn, 1, [], 0) := rfl
theorem b_X12_move_54 {a0 a3 n_a3 : Nat} {x1 x2 x4 x4' : Int} {v5 v6 : Value} {h : am_H} (w4 : wr x4 = x4') (k1 : K10 h a0) (g2 : (256 ≤ x4') → ((0 : Int) ≤ 0 ∧ 0 < (256 : Int))) (n3 : gn h a3 = n_a3) (s4 : sh h a3 = (1, 0)) (g5 : (¬ (256 ≤ x4')) → (0 ≤ x4' ∧ x4' < (n_a3 : Int))) (g6 : (¬ (256 ≤ x4')) → (0 ≤ wr ((16 * ((wr (((Int.tdiv x4' 16) + x2) + 16)) % 2 ^ 4)) + ((wr (((Int.tmod x4' 16) + x1) + 16)) % 2 ^ 4)) ∧ wr ((16 * ((wr (((Int.tdiv x4' 16) + x2) + 16)) % 2 ^ 4)) + ((wr (((Int.tmod x4' 16) + x1) + 16)) % 2 ^ 4)) < (256 : Int))) : rn m_X12_move 54 [.ref a0, .int (mI x1), .int (mI x2), .ref a3, .int (mI x4), v5, v6] [] h = if 256 ≤ x4' then some (.inl (some (.int (mI (gZ h (a0 + 1) 0)))), h) else rn m_X12_move 54 [.ref a0, .int (mI x1), .int (mI x2), .ref a3, .int (mI (x4 + 1)), .int (mI ((wr (((Int.tmod x4' 16) + x1) + 16)) % 2 ^ 4)), .int (mI ((wr (((Int.tdiv x4' 16) + x2) + 16)) % 2 ^ 4))] [] (uZ h (a0 + 1) (wr ((16 * ((wr (((Int.tdiv x4' 16) + x2) + 16)) % 2 ^ 4)) + ((wr (((Int.tmod x4' 16) + x1) + 16)) % 2 ^ 4))) (gZ h a3 x4')) := by
  refine (tq_iload i_X12_move_54 rfl rfl).trans ?_
  refine (tq_sipush i_X12_move_56 rfl).trans ?_
  refine (tq_icmp_ge (pt := 115) i_X12_move_59 w4 w_256 (by decide) rfl).trans ?_
  refine ite_congr rfl (fun c1 => ?_) (fun c1 => ?_)
  · refine (tq_aload_n i_X12_move_115 rfl (isA_ref _) rfl).trans ?_
    refine (tq_getfield i_X12_move_116 (K10_s k1) (gR (g_10_1 (K10_s k1)) (K10_e1 k1)) (isV_ref _) rfl).trans ?_
    refine (tq_iconst i_X12_move_119 rfl).trans ?_
    refine (tq_iaload i_X12_move_120 (K10_s1 k1) (by decide) w_0 (g2 c1).1 (lt_gn (K10_n1 k1) (g2 c1).2) rfl).trans ?_
    exact tq_ireturn i_X12_move_121 r_X12_move rfl
  · refine (tq_iload i_X12_move_62 rfl rfl).trans ?_
    refine (tq_bipush i_X12_move_64 rfl).trans ?_
    refine (tq_irem i_X12_move_66 w4 w_16 (by decide) rfl).trans ?_
    refine (tq_iload_n i_X12_move_67 rfl rfl).trans ?_
    refine (tq_iadd i_X12_move_68 rfl).trans ?_
    refine (tq_bipush i_X12_move_69 rfl).trans ?_
    refine (tq_iadd i_X12_move_71 rfl).trans ?_
    refine (tq_bipush i_X12_move_72 rfl).trans ?_
    refine (tq_imask 4 i_X12_move_74 rfl (by decide) (by decide) rfl).trans ?_
    refine (tq_istore (L' := [.ref a0, .int (mI x1), .int (mI x2), .ref a3, .int (mI x4), .int (mI ((wr (((Int.tmod x4' 16) + x1) + 16)) % 2 ^ 4)), v6]) i_X12_move_75 rfl rfl).trans ?_
    refine (tq_iload i_X12_move_77 rfl rfl).trans ?_
    refine (tq_bipush i_X12_move_79 rfl).trans ?_
    refine (tq_idiv i_X12_move_81 w4 w_16 (by decide) rfl).trans ?_
    refine (tq_iload_n i_X12_move_82 rfl rfl).trans ?_
    refine (tq_iadd i_X12_move_83 rfl).trans ?_
    refine (tq_bipush i_X12_move_84 rfl).trans ?_
    refine (tq_iadd i_X12_move_86 rfl).trans ?_
    refine (tq_bipush i_X12_move_87 rfl).trans ?_
    refine (tq_imask 4 i_X12_move_89 rfl (by decide) (by decide) rfl).trans ?_
    refine (tq_istore (L' := [.ref a0, .int (mI x1), .int (mI x2), .ref a3, .int (mI x4), .int (mI ((wr (((Int.tmod x4' 16) + x1) + 16)) % 2 ^ 4)), .int (mI ((wr (((Int.tdiv x4' 16) + x2) + 16)) % 2 ^ 4))]) i_X12_move_90 rfl rfl).trans ?_
    refine (tq_aload_n i_X12_move_92 rfl (isA_ref _) rfl).trans ?_
    refine (tq_getfield i_X12_move_93 (K10_s k1) (gR (g_10_1 (K10_s k1)) (K10_e1 k1)) (isV_ref _) rfl).trans ?_
    refine (tq_bipush i_X12_move_96 rfl).trans ?_
    refine (tq_iload i_X12_move_98 rfl rfl).trans ?_
    refine (tq_imul i_X12_move_100 rfl).trans ?_
    refine (tq_iload i_X12_move_101 rfl rfl).trans ?_
    refine (tq_iadd i_X12_move_103 rfl).trans ?_
    refine (tq_aload_n i_X12_move_104 rfl (isA_ref _) rfl).trans ?_
    refine (tq_iload i_X12_move_105 rfl rfl).trans ?_
    refine (tq_iaload i_X12_move_107 s4 (by decide) w4 (g5 c1).1 (lt_gn n3 (g5 c1).2) rfl).trans ?_
    refine (tq_iastore i_X12_move_108 (K10_s1 k1) rfl (g6 c1).1 (lt_gn (K10_n1 k1) (g6 c1).2) rfl).trans ?_
    refine (tq_iinc (L' := [.ref a0, .int (mI x1), .int (mI x2), .ref a3, .int (mI (x4 + 1)), .int (mI ((wr (((Int.tmod x4' 16) + x1) + 16)) % 2 ^ 4)), .int (mI ((wr (((Int.tdiv x4' 16) + x2) + 16)) % 2 ^ 4))]) i_X12_move_109 rfl rfl rfl).trans ?_
    refine (tq_goto (pc' := 54) i_X12_move_112 (by decide)).trans ?_
    rfl
theorem m_move (rm : RM σ h D) {a b : Int} (w1 : wr a = a) (w2 : wr b = b) : (isM a b → MRs (stc σ (mvT (tc σ) a b)) h D (rn m_X12_move 0 [.ref 51, .int (mI a), .int (mI b), am_J, am_J, am_J, am_J] [] h) (.int (mI (mvT (tc σ) a b 0))) 0 1 256) ∧ (¬ isM a b → MRs σ h D (rn m_X12_move 0 [.ref 51, .int (mI a), .int (mI b), am_J, am_J, am_J, am_J] [] h) (.int (mI 0)) 1 0 0) := by
  have st := b_X12_move_0 (a0 := 51) (x1 := a) (x2 := b) (h := h) w1 w2 rm.1
  have cg : (¬ (¬ (a < (-15)) ∧ (¬ (15 < a))) ∨ (¬ (¬ (b < (-15)) ∧ (¬ (15 < b))))) ↔ ¬ ((-15 ≤ a ∧ a ≤ 15) ∧ -15 ≤ b ∧ b ≤ 15) := by omega
  simp only [Nat.reduceAdd] at st
  rw [bZ_congr cg] at st
  clear cg
  refine ⟨fun g => ?_, fun g => ?_⟩
  · unfold isM at g
    rw [bZ_f (fun q => q g), if_pos (by decide)] at st
    obtain ⟨ga, gb⟩ := g
    obtain ⟨t1, t2, t3, tm⟩ := thr_ok (z := 0) rm (wr_id (by decide) (by decide))
    have e0 : gZ (uF 10 h 51 0 (.int (mI 0))) 52 = tc σ := t1.2.2.1

    generalize uF 10 h 51 0 (.int (mI 0)) = h1 at *
    generalize hc : tc σ = cv at *
    have s52 := K10_s1 t1.1
    have n52 := K10_n1 t1.1
    obtain ⟨-, al, -⟩ := t1
    have frA : Fr (fun _ _ => False) 1 (gn h1 52) h1 (aC 52 h1) := Fr_alc _ _ _
    have nA : gn (aC 52 h1) (hnx h1) = 256 := by rw [gn_aC]; exact n52
    have sA : sh (aC 52 h1) (hnx h1) = (1, 0) := sh_aC (sh1 s52)
    have gA' : ∀ j, gZ (aC 52 h1) (hnx h1) j = cv j := fun j => by rw [gZ_aC, e0]
    have g52 : gZ (aC 52 h1) 52 = cv := by rw [← e0]; exact frZ frA (by omega) (fun q => q)
    have frB : Fr (fun a k => (a = 51 ∧ k = 0) ∨ a = 52) 1 256 h (aC 52 h1) := Fr_mono (Fr_tr (U := fun a k => (a = 51 ∧ k = 0) ∨ a = 52) (md_fr tm) frA (fun _ _ _ q => Or.inl q) (fun _ _ _ q => q.elim)) (fun _ _ _ q => q) (by omega) (by rw [n52]; omega)
    have tA : fZ (aC 52 h1) 51 0 = 0 := (frA.1.fZ1 (by omega) (fun q => q)).trans t2
    have hA1 : 52 < hnx h1 := by omega
    generalize hnx h1 = A at *
    generalize aC 52 h1 = hA at *
    rw [st, b_X12_move_47 sA]
    refine lp (m := m_X12_move) (pc := 54) (L := fun i (z : Value × Value) => [.ref 51, .int (mI a), .int (mI b), .ref A, .int (mI i), z.1, z.2]) (N := 256) (P := fun r => MRs (stc σ (mvT cv a b)) h D r (.int (mI (mvT cv a b 0))) 0 1 256) (fun i _ h' => 0 ≤ i ∧ Md (fun a _ => a = 52) hA h' ∧ (∀ k, 0 ≤ k → k < 256 → 16 * ((k / 16 - b) % 16) + (k % 16 - a) % 16 < i → gZ h' 52 k = cv (16 * ((k / 16 - b) % 16) + (k % 16 - a) % 16)) ∧ ∀ k, ¬ (0 ≤ k ∧ k < 256) → gZ h' 52 k = cv k) ?_ ?_ 0 (am_J, am_J) hA (by omega) ⟨by omega, Md_rf _ _, fun k k0 k1 k2 => by omega, fun k _ => by rw [g52]⟩
    · intro i z h' hi ⟨i0, md, hz, ho⟩
      have k2 := K10_sm md.1 (K10_fr frB (by have := rm.2.1; omega) rm.1)
      have e4 : (2 : Int) ^ 4 = 16 := by decide
      have et : wr ((16 * ((wr (((Int.tdiv i 16) + b) + 16)) % 2 ^ 4)) + ((wr (((Int.tmod i 16) + a) + 16)) % 2 ^ 4)) = 16 * ((i / 16 + b) % 16) + (i % 16 + a) % 16 := by rw [e4, tmd i0, tdv i0, wr_id (z := i / 16 + b + 16) (by omega) (by omega), wr_id (z := i % 16 + a + 16) (by omega) (by omega), wr_id (by omega) (by omega)]; omega
      have st2 := b_X12_move_54 (a0 := 51) (a3 := A) (n_a3 := 256) (x1 := a) (x2 := b) (v5 := z.1) (v6 := z.2) (h := h') (wr_id (z := i) (by omega) (by omega)) k2 (fun _ => by decide) ((md_gn md _).trans nA) ((md_sh md _).trans sA) (fun _ => ⟨i0, by omega⟩) (fun _ => by rw [et]; omega)
      simp only [Nat.reduceAdd] at st2
      have ga' : gZ h' A i = cv i := (md_gZ md (by omega) i).trans (gA' i)
      rw [if_neg (by omega), et, ga'] at st2
      refine ⟨(_, _), _, st2, by omega, Md_tr md (Md_uZ _ _ _ _), fun k k0 k1 kk => ?_, fun k kk => ?_⟩
      · rw [gZ_uZ' (sh1 (K10_s1 k2))]
        by_cases e : k = 16 * ((i / 16 + b) % 16) + (i % 16 + a) % 16
        · subst e
          rw [if_pos rfl, ← ga', wr_gZ, ga']
          congr 1
          omega
        · rw [if_neg e]
          exact hz k k0 k1 (by omega)
      · rw [gZ_uZ' (sh1 (K10_s1 k2)), if_neg (by omega)]
        exact ho k kk
    · intro z h' ⟨i0, md, hz, ho⟩
      have k2 := K10_sm md.1 (K10_fr frB (by have := rm.2.1; omega) rm.1)
      have st2 := b_X12_move_54 (a0 := 51) (a3 := A) (n_a3 := 256) (x1 := a) (x2 := b) (x4 := 256) (v5 := z.1) (v6 := z.2) (h := h') (wr_id (by decide) (by decide)) k2 (fun _ => by decide) ((md_gn md _).trans nA) ((md_sh md _).trans sA) (fun q => absurd (by decide) q) (fun q => absurd (by decide) q)
      simp only [Nat.reduceAdd] at st2
      have gg : gZ h' 52 = mvT cv a b := by
        funext k
        unfold mvT
        by_cases e : 0 ≤ k ∧ k < 256
        · rw [if_pos e]
          exact hz k e.1 e.2 (by omega)
        · rw [if_neg e]
          exact ho k e
      rw [if_pos (by decide), gg] at st2
      exact MRs_cv rm (Fr_mono (Fr_tr (U := fun a k => (a = 51 ∧ k = 0) ∨ a = 52) frB (md_fr md) (fun _ _ _ q => q) (fun _ _ _ q => Or.inr q)) (fun _ _ _ q => q) (by omega) (by omega)) gg ((md_fZ md (by omega)).trans tA) st2
  · unfold isM at g
    rw [bZ_t g, if_neg (by decide)] at st
    exact MRs_thr rm (wr_id (by decide) (by decide)) st
end MC
