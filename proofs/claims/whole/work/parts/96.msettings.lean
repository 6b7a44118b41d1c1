/-! ===== the model's settings, joining ===== -/
section MS2
variable {σ σ' : St} {h h' : am_H} {D : Nat} {c : Int}
theorem RM_set (m : Md (fun a k => a = 51 ∧ k ≤ 8) h h') (e2 : σ'.2 = σ.2) (ez : ∀ j, 7 ≤ j → tz σ' j = tz σ j) (s : RMs σ' h') (r : RM σ h D) : RM σ' h' D := by
  have F := md_fr m
  obtain ⟨r1, al, r3, r4, r5, r6, r7⟩ := r
  have nx := F.1.nx
  have nd : ∀ a k, dyn h D a → ¬ (a = 51 ∧ k ≤ 8) := fun a k q w => by
    unfold dyn at q
    omega
  have e3 : tc σ' = tc σ := by unfold tc; rw [e2]
  have e4 : tk σ' = tk σ := by unfold tk; rw [e2]
  have e5 : tpz σ' = tpz σ := by unfold tpz; rw [e2]
  have e6 : tpd σ' = tpd σ := by unfold tpd; rw [e2]
  have e7 : tsp σ' = tsp σ := by unfold tsp; rw [e2]
  have e8 : tkp σ' = tkp σ := by unfold tkp; rw [e2]
  have e9 : tkc σ' = tkc σ := by unfold tkc; rw [e2]
  have p8 : RMk σ' h' := by
    have := RMk_fr F al (by omega) r5
    unfold RMk at *
    rw [e4, ez 8 (by decide)]
    exact this
  have p9 : RMp σ' h' D := by
    have := RMp_fr F (dyn_fr F) nd al (fun a k a0 a1 w => by omega) r6
    unfold RMp at *
    rw [e5, e6, ez 7 (by decide)]
    exact this
  have p10 : RMd σ' h' D := by
    have := RMd_fr F (dyn_fr F) nd al (fun k h1 w => by omega) (by omega) (by omega) r7
    unfold RMd at *
    rw [e7, e8, e9, ez 9 (by decide), ez 10 (by decide), ez 11 (by decide), ez 12 (by decide), ez 13 (by decide), ez 14 (by decide)]
    exact this
  exact ⟨K10_fr F (by omega) r1, by omega, by rw [e3]; exact (md_Z m (by omega)).trans r3, s, p8, p9, p10⟩
theorem MRs_set {r : Option am_Rs} {v : Value} (rm : RM σ h D) (m : Md (fun a k => a = 51 ∧ k ≤ 8) h h') (e2 : σ'.2 = σ.2) (ez : ∀ j, 7 ≤ j → tz σ' j = tz σ j) (s : RMs σ' h') (t : fZ h' 51 0 = 0) (er : r = some (.inl (some v), h')) : MRs σ' h D r v 0 0 0 :=
  ⟨h', er, RM_set (σ := σ) (σ' := σ') m e2 ez s rm, t, Fr_mono (md_fr m) (fun a k _ q => by unfold SMl2; omega) (Nat.le_refl _) (Nat.le_refl _)⟩
theorem i_X12_setBucket_0 : am_i m_X12_setBucket 0 = some (0, .aload_n 0, 1, [], 0) := rfl
theorem i_X12_setBucket_1 : am_i m_X12_setBucket 1 = some (1, .iload_n 1, 1, [], 0) := rfl
theorem i_X12_setBucket_2 : am_i m_X12_setBucket 2 = some (2, .iconst 0, 1, [], 0) := rfl
theorem i_X12_setBucket_3 : am_i m_X12_setBucket 3 = some (3, .ldc 130, 2, [], 99999) := rfl
theorem i_X12_setBucket_5 : am_i m_X12_setBucket 5 = some (5, .invokestatic 113, 3, [27], 0) := rfl
theorem i_X12_setBucket_8 : am_i m_X12_setBucket 8 = some (8, .ifCond .eq 17, 3, [], 0) := rfl
theorem i_X12_setBucket_11 : am_i m_X12_setBucket 11 = some (11, .iload_n 2, 1, [], 0) := rfl
theorem i_X12_setBucket_12 : am_i m_X12_setBucket 12 = some (12, .iconst 0, 1, [], 0) := rfl
theorem i_X12_setBucket_13 : am_i m_X12_setBucket 13 = some (13, .ldc 130, 2, [], 99999) := rfl
theorem i_X12_setBucket_15 : am_i m_X12_setBucket 15 = some (15, .invokestatic 113, 3, [27], 0) := rfl
theorem i_X12_setBucket_18 : am_i m_X12_setBucket 18 = some (18, .ifCond .eq 7, 3, [], 0) := rfl
theorem i_X12_setBucket_21 : am_i m_X12_setBucket 21 = some (21, .iconst 0, 1, [], 0) := rfl
theorem i_X12_setBucket_22 : am_i m_X12_setBucket 22 = some (22, .goto 4, 3, [], 0) := rfl
theorem i_X12_setBucket_25 : am_i m_X12_setBucket 25 = some (25, .iconst 1, 1, [], 1) := rfl
theorem i_X12_setBucket_26 : am_i m_X12_setBucket 26 = some (26, .putfield 110, 3, [10, 0, 0], 0) := rfl
theorem i_X12_setBucket_29 : am_i m_X12_setBucket 29 = some (29, .aload_n 0, 1, [], 0) := rfl
theorem i_X12_setBucket_30 : am_i m_X12_setBucket 30 = some (30, .getfield 110, 3, [10, 0, 0], 0) := rfl
theorem i_X12_setBucket_33 : am_i m_X12_setBucket 33 = some (33, .ifCond .le 5, 3, [], 0) := rfl
theorem i_X12_setBucket_36 : am_i m_X12_setBucket 36 = some (36, .iconst 0, 1, [], 0) := rfl
theorem i_X12_setBucket_37 : am_i m_X12_setBucket 37 = some (37, .ireturn, 1, [], 0) := rfl
theorem i_X12_setBucket_38 : am_i m_X12_setBucket 38 = some (38, .aload_n 0, 1, [], 0) := rfl
theorem i_X12_setBucket_39 : am_i m_X12_setBucket 39 = some (39, .getfield 36, 3, [10, 8, 0], 0) := rfl
theorem i_X12_setBucket_42 : am_i m_X12_setBucket 42 = some (42, .istore_n 3, 1, [], 0) := rfl
theorem i_X12_setBucket_43 : am_i m_X12_setBucket 43 = some (43, .aload_n 0, 1, [], 0) := rfl
theorem i_X12_setBucket_44 : am_i m_X12_setBucket 44 = some (44, .iload_n 1, 1, [], 0) := rfl
theorem i_X12_setBucket_45 : am_i m_X12_setBucket 45 = some (45, .putfield 131, 3, [10, 6, 0], 0) := rfl
theorem i_X12_setBucket_48 : am_i m_X12_setBucket 48 = some (48, .aload_n 0, 1, [], 0) := rfl
theorem i_X12_setBucket_49 : am_i m_X12_setBucket 49 = some (49, .iload_n 2, 1, [], 0) := rfl
theorem i_X12_setBucket_50 : am_i m_X12_setBucket 50 = some (50, .putfield 134, 3, [10, 7, 0], 0) := rfl
theorem i_X12_setBucket_53 : am_i m_X12_setBucket 53 = some (53, .aload_n 0, 1, [], 0) := rfl
theorem i_X12_setBucket_54 : am_i m_X12_setBucket 54 = some (54, .iload_n 1, 1, [], 0) := rfl
theorem i_X12_setBucket_55 : am_i m_X12_setBucket 55 = some (55, .ifCond .ne 7, 3, [], 0) := rfl
theorem i_X12_setBucket_58 : am_i m_X12_setBucket 58 = some (58, .iconst (-1), 1, [], -1) := rfl
theorem i_X12_setBucket_59 : am_i m_X12_setBucket 59 = some (59, .goto 4, 3, [], 0) := rfl
theorem i_X12_setBucket_62 : am_i m_X12_setBucket 62 = some (62, .iconst 0, 1, [], 0) := rfl
theorem i_X12_setBucket_63 : am_i m_X12_setBucket 63 = some (63, .putfield 36, 3, [10, 8, 0], 0) := rfl
theorem i_X12_setBucket_66 : am_i m_X12_setBucket 66 = some (66, .iload_n 3, 1, [], 0) := rfl
theorem i_X12_setBucket_67 : am_i m_X12_setBucket 67 = some (67, .ireturn, 1, [], 0) := rfl
theorem b_X12_setBucket_0 {a0 : Nat} {x1 x2 x1' x2' : Int} {h : am_H} (w1 : wr x1 = x1') (w2 : wr x2 = x2') (k1 : K10 h a0) : rn m_X12_setBucket 0 [.ref a0, .int (mI x1), .int (mI x2), am_J] [] h = if (bZ (¬ (¬ (x1' < 0) ∧ (¬ (99999 < x1'))) ∨ (¬ (¬ (x2' < 0) ∧ (¬ (99999 < x2')))))) ≤ 0 then some (.inl (some (.int (mI (fZ h a0 8)))), uF 10 (uF 10 (uF 10 (uF 10 h a0 0 (.int (mI (bZ (¬ (¬ (x1' < 0) ∧ (¬ (99999 < x1'))) ∨ (¬ (¬ (x2' < 0) ∧ (¬ (99999 < x2'))))))))) a0 6 (.int (mI x1))) a0 7 (.int (mI x2))) a0 8 (.int (mI (if ¬ x1' = 0 then (0 : Int) else (-1))))) else some (.inl (some (.int (mI 0))), uF 10 h a0 0 (.int (mI (bZ (¬ (¬ (x1' < 0) ∧ (¬ (99999 < x1'))) ∨ (¬ (¬ (x2' < 0) ∧ (¬ (99999 < x2'))))))))) := by
  refine (tq_aload_n i_X12_setBucket_0 rfl (isA_ref _) rfl).trans ?_
  refine (tq_iload_n i_X12_setBucket_1 rfl rfl).trans ?_
  refine (tq_iconst i_X12_setBucket_2 rfl).trans ?_
  refine (tq_ldc i_X12_setBucket_3 rfl).trans ?_
  refine (c_X12_in i_X12_setBucket_5 (ltd d_X12_setBucket (by decide)) (stOk_1 _) rfl).trans ?_
  refine (congrArg (cl _ _ _ _) (b_X12_in_0 w1 w_0 w_99999)).trans ?_
  refine (cl_v _ _ _ _ _ _).trans ?_
  refine (tq_ifb_eq (pt := 25) i_X12_setBucket_8 (by decide) rfl).trans ?_
  refine Eq.trans (b := if (¬ (x1' < 0) ∧ (¬ (99999 < x1'))) then rn m_X12_setBucket 26 [.ref a0, .int (mI x1), .int (mI x2), am_J] [.int (mI (bZ (¬ (¬ (x2' < 0) ∧ (¬ (99999 < x2')))))), .ref a0] h else rn m_X12_setBucket 26 [.ref a0, .int (mI x1), .int (mI x2), am_J] [.int (mI 1), .ref a0] h) (ite_congr rfl (fun c1 => ?_) (fun c1 => ?_)) ?_
  · refine (tq_iload_n i_X12_setBucket_11 rfl rfl).trans ?_
    refine (tq_iconst i_X12_setBucket_12 rfl).trans ?_
    refine (tq_ldc i_X12_setBucket_13 rfl).trans ?_
    refine (c_X12_in i_X12_setBucket_15 (ltd d_X12_setBucket (by decide)) (stOk_1 _) rfl).trans ?_
    refine (congrArg (cl _ _ _ _) (b_X12_in_0 w2 w_0 w_99999)).trans ?_
    refine (cl_v _ _ _ _ _ _).trans ?_
    refine (tq_ifb_eq (pt := 25) i_X12_setBucket_18 (by decide) rfl).trans ?_
    refine Eq.trans (b := if (¬ (x2' < 0) ∧ (¬ (99999 < x2'))) then rn m_X12_setBucket 26 [.ref a0, .int (mI x1), .int (mI x2), am_J] [.int (mI 0), .ref a0] h else rn m_X12_setBucket 26 [.ref a0, .int (mI x1), .int (mI x2), am_J] [.int (mI 1), .ref a0] h) (ite_congr rfl (fun c2 => ?_) (fun c2 => ?_)) ?_
    · refine (tq_iconst i_X12_setBucket_21 rfl).trans ?_
      refine (tq_goto (pc' := 26) i_X12_setBucket_22 (by decide)).trans ?_
      rfl
    · refine (tq_iconst i_X12_setBucket_25 rfl).trans ?_
      rfl
    exact ite_b01
  · refine (tq_iconst i_X12_setBucket_25 rfl).trans ?_
    rfl
  refine Eq.trans ite_bp1 ?_
  refine (tq_putfield i_X12_setBucket_26 (K10_s k1) (okf_10_0 _) rfl).trans ?_
  refine (tq_aload_n i_X12_setBucket_29 rfl (isA_ref _) rfl).trans ?_
  refine (tq_getfield i_X12_setBucket_30 ((sh_uF _ _ _ _ _ _).trans (K10_s k1)) (gV_uF_eq (K10_s k1) (okf_10_0 _)) (isV_I _) rfl).trans ?_
  refine (tq_if_le (pt := 38) i_X12_setBucket_33 (wr_bZ _) (by decide) rfl).trans ?_
  refine ite_congr rfl (fun c3 => ?_) (fun c3 => ?_)
  · refine (tq_aload_n i_X12_setBucket_38 rfl (isA_ref _) rfl).trans ?_
    refine (tq_getfield i_X12_setBucket_39 ((sh_uF _ _ _ _ _ _).trans (K10_s k1)) ((g_10_8 ((sh_uF _ _ _ _ _ _).trans (K10_s k1))).trans (congrArg (fun z => Value.int (mI z)) (fZ_uF_nk (K10_s k1) (okf_10_0 _) (by decide)))) (isV_I _) rfl).trans ?_
    refine (tq_istore_n (L' := [.ref a0, .int (mI x1), .int (mI x2), .int (mI (fZ h a0 8))]) i_X12_setBucket_42 rfl rfl).trans ?_
    refine (tq_aload_n i_X12_setBucket_43 rfl (isA_ref _) rfl).trans ?_
    refine (tq_iload_n i_X12_setBucket_44 rfl rfl).trans ?_
    refine (tq_putfield i_X12_setBucket_45 ((sh_uF _ _ _ _ _ _).trans (K10_s k1)) (okf_10_6 _) rfl).trans ?_
    refine (tq_aload_n i_X12_setBucket_48 rfl (isA_ref _) rfl).trans ?_
    refine (tq_iload_n i_X12_setBucket_49 rfl rfl).trans ?_
    refine (tq_putfield i_X12_setBucket_50 ((sh_uF _ _ _ _ _ _).trans ((sh_uF _ _ _ _ _ _).trans (K10_s k1))) (okf_10_7 _) rfl).trans ?_
    refine (tq_aload_n i_X12_setBucket_53 rfl (isA_ref _) rfl).trans ?_
    refine (tq_iload_n i_X12_setBucket_54 rfl rfl).trans ?_
    refine (tq_if_ne (pt := 62) i_X12_setBucket_55 w1 (by decide) rfl).trans ?_
    refine Eq.trans (b := if ¬ x1' = 0 then rn m_X12_setBucket 63 [.ref a0, .int (mI x1), .int (mI x2), .int (mI (fZ h a0 8))] [.int (mI 0), .ref a0] (uF 10 (uF 10 (uF 10 h a0 0 (.int (mI (bZ (¬ (¬ (x1' < 0) ∧ (¬ (99999 < x1'))) ∨ (¬ (¬ (x2' < 0) ∧ (¬ (99999 < x2'))))))))) a0 6 (.int (mI x1))) a0 7 (.int (mI x2))) else rn m_X12_setBucket 63 [.ref a0, .int (mI x1), .int (mI x2), .int (mI (fZ h a0 8))] [.int (mI (-1)), .ref a0] (uF 10 (uF 10 (uF 10 h a0 0 (.int (mI (bZ (¬ (¬ (x1' < 0) ∧ (¬ (99999 < x1'))) ∨ (¬ (¬ (x2' < 0) ∧ (¬ (99999 < x2'))))))))) a0 6 (.int (mI x1))) a0 7 (.int (mI x2)))) (ite_congr rfl (fun c4 => ?_) (fun c4 => ?_)) ?_
    · refine (tq_iconst i_X12_setBucket_62 rfl).trans ?_
      rfl
    · refine (tq_iconst i_X12_setBucket_58 rfl).trans ?_
      refine (tq_goto (pc' := 63) i_X12_setBucket_59 (by decide)).trans ?_
      rfl
    refine Eq.trans ite_I ?_
    refine (tq_putfield i_X12_setBucket_63 ((sh_uF _ _ _ _ _ _).trans ((sh_uF _ _ _ _ _ _).trans ((sh_uF _ _ _ _ _ _).trans (K10_s k1)))) (okf_10_8 _) rfl).trans ?_
    refine (tq_iload_n i_X12_setBucket_66 rfl rfl).trans ?_
    exact tq_ireturn i_X12_setBucket_67 r_X12_setBucket rfl
  · refine (tq_iconst i_X12_setBucket_36 rfl).trans ?_
    exact tq_ireturn i_X12_setBucket_37 r_X12_setBucket rfl
theorem m_setCoarseness (rm : RM σ h D) {x : Int} (w : wr x = x) : (1 ≤ x ∧ x ≤ 40 → MRs (upz σ 0 x) h D (rn m_X12_setCoarseness 0 [.ref 51, .int (mI x), am_J] [] h) (.int (mI (tz σ 0))) 0 0 0) ∧ (¬ (1 ≤ x ∧ x ≤ 40) → MRs σ h D (rn m_X12_setCoarseness 0 [.ref 51, .int (mI x), am_J] [] h) (.int (mI 0)) 1 0 0) := by
  have st := b_X12_setCoarseness_0 (a0 := 51) (x1 := x) (h := h) w rm.1
  have s := rm.2.2.2.1
  rw [s.1.1] at st
  have k0 := K10_s rm.1
  refine ⟨fun g => ?_, fun g => ?_⟩
  · rw [if_neg (by omega), if_neg (by omega), bZ_f (by omega)] at st
    have m1 : Md (fun a k => a = 51 ∧ k = 0) h (uF 10 h 51 0 (.int (mI 0))) := Md_uF (Sm_uF_10_0 _ _ _)
    have m2 : Md (fun a k => a = 51 ∧ k = 2) (uF 10 h 51 0 (.int (mI 0))) (uF 10 (uF 10 h 51 0 (.int (mI 0))) 51 2 (.int (mI x))) := Md_uF (Sm_uF_10_2 _ _ _)
    have t0 : fZ (uF 10 (uF 10 h 51 0 (.int (mI 0))) 51 2 (.int (mI x))) 51 0 = 0 := by rw [fZ_uF_k (by decide), fZ_uF_eq k0 (okf_10_0 _), wr_id (by decide) (by decide)]
    have f : fZ (uF 10 (uF 10 h 51 0 (.int (mI 0))) 51 2 (.int (mI x))) 51 2 = x := by rw [fZ_uF_eq ((sh_uF _ _ _ _ _ _).trans k0) (okf_10_2 _), w]
    have m : Md (fun a k => a = 51 ∧ (k = 0 ∨ k = 2)) h (uF 10 (uF 10 h 51 0 (.int (mI 0))) 51 2 (.int (mI x))) := Md_tr (Md_mono m1 fun a k q => ⟨q.1, Or.inl q.2⟩) (Md_mono m2 fun a k q => ⟨q.1, Or.inr q.2⟩)
    obtain ⟨⟨s1, s2, s3, s4⟩, ⟨s5, s6, s7⟩, s8, s9⟩ := s
    exact MRs_set (σ := σ) (σ' := upz σ 0 x) rm (Md_mono m fun a k q => ⟨q.1, by omega⟩) rfl (fun j hj => upz_ne (by omega)) ⟨⟨f, (md_fZ m (by omega)).trans s2, (md_fZ m (by omega)).trans s3, (md_fZ m (by omega)).trans s4⟩, ⟨(md_fZ m (by omega)).trans s5, (md_fZ m (by omega)).trans s6, (md_fZ m (by omega)).trans s7⟩, (md_fZ m (by omega)).trans s8, (md_fZ m (by omega)).trans s9⟩ t0 st
  · rw [if_pos (by omega), if_pos (by omega), bZ_t (by omega)] at st
    obtain ⟨t1, t2, t3, tm⟩ := thr_ok (z := 1) rm (wr_id (by decide) (by decide))
    have m2 : Md (fun a k => a = 51 ∧ k = 2) (uF 10 h 51 0 (.int (mI 1))) (uF 10 (uF 10 h 51 0 (.int (mI 1))) 51 2 (.int (mI (tz σ 0)))) := Md_uF (Sm_uF_10_2 _ _ _)
    have f : fZ (uF 10 (uF 10 h 51 0 (.int (mI 1))) 51 2 (.int (mI (tz σ 0)))) 51 2 = tz σ 0 := by rw [fZ_uF_eq (K10_s t1.1) (okf_10_2 _), ← s.1.1, wr_fZ]
    obtain ⟨⟨s1, s2, s3, s4⟩, ⟨s5, s6, s7⟩, s8, s9⟩ := t1.2.2.2.1
    refine ⟨_, st, RM_set (σ := σ) (σ' := σ) (Md_mono m2 fun a k q => ⟨q.1, by omega⟩) rfl (fun j hj => rfl) ⟨⟨f, (md_fZ m2 (by omega)).trans s2, (md_fZ m2 (by omega)).trans s3, (md_fZ m2 (by omega)).trans s4⟩, ⟨(md_fZ m2 (by omega)).trans s5, (md_fZ m2 (by omega)).trans s6, (md_fZ m2 (by omega)).trans s7⟩, (md_fZ m2 (by omega)).trans s8, (md_fZ m2 (by omega)).trans s9⟩ t1, (md_fZ m2 (by omega)).trans t2, Fr_mono (Fr_tr (U := SMl2) t3 (md_fr m2) (fun _ _ _ q => q) (fun a k _ q => by unfold SMl2; omega)) (fun _ _ _ q => q) (by decide) (by decide)⟩
theorem m_setTools (rm : RM σ h D) {x : Int} (w : wr x = x) : (0 ≤ x ∧ x ≤ 7 → MRs (upz σ 1 x) h D (rn m_X12_setTools 0 [.ref 51, .int (mI x), am_J] [] h) (.int (mI (tz σ 1))) 0 0 0) ∧ (¬ (0 ≤ x ∧ x ≤ 7) → MRs σ h D (rn m_X12_setTools 0 [.ref 51, .int (mI x), am_J] [] h) (.int (mI 0)) 1 0 0) := by
  have st := b_X12_setTools_0 (a0 := 51) (x1 := x) (h := h) w rm.1
  have s := rm.2.2.2.1
  rw [s.1.2.1] at st
  have k0 := K10_s rm.1
  refine ⟨fun g => ?_, fun g => ?_⟩
  · rw [if_neg (by omega), if_neg (by omega), bZ_f (by omega)] at st
    have m1 : Md (fun a k => a = 51 ∧ k = 0) h (uF 10 h 51 0 (.int (mI 0))) := Md_uF (Sm_uF_10_0 _ _ _)
    have m2 : Md (fun a k => a = 51 ∧ k = 3) (uF 10 h 51 0 (.int (mI 0))) (uF 10 (uF 10 h 51 0 (.int (mI 0))) 51 3 (.int (mI x))) := Md_uF (Sm_uF_10_3 _ _ _)
    have t0 : fZ (uF 10 (uF 10 h 51 0 (.int (mI 0))) 51 3 (.int (mI x))) 51 0 = 0 := by rw [fZ_uF_k (by decide), fZ_uF_eq k0 (okf_10_0 _), wr_id (by decide) (by decide)]
    have f : fZ (uF 10 (uF 10 h 51 0 (.int (mI 0))) 51 3 (.int (mI x))) 51 3 = x := by rw [fZ_uF_eq ((sh_uF _ _ _ _ _ _).trans k0) (okf_10_3 _), w]
    have m : Md (fun a k => a = 51 ∧ (k = 0 ∨ k = 3)) h (uF 10 (uF 10 h 51 0 (.int (mI 0))) 51 3 (.int (mI x))) := Md_tr (Md_mono m1 fun a k q => ⟨q.1, Or.inl q.2⟩) (Md_mono m2 fun a k q => ⟨q.1, Or.inr q.2⟩)
    obtain ⟨⟨s1, s2, s3, s4⟩, ⟨s5, s6, s7⟩, s8, s9⟩ := s
    exact MRs_set (σ := σ) (σ' := upz σ 1 x) rm (Md_mono m fun a k q => ⟨q.1, by omega⟩) rfl (fun j hj => upz_ne (by omega)) ⟨⟨(md_fZ m (by omega)).trans s1, f, (md_fZ m (by omega)).trans s3, (md_fZ m (by omega)).trans s4⟩, ⟨(md_fZ m (by omega)).trans s5, (md_fZ m (by omega)).trans s6, (md_fZ m (by omega)).trans s7⟩, (md_fZ m (by omega)).trans s8, (md_fZ m (by omega)).trans s9⟩ t0 st
  · rw [if_pos (by omega), if_pos (by omega), bZ_t (by omega)] at st
    obtain ⟨t1, t2, t3, tm⟩ := thr_ok (z := 1) rm (wr_id (by decide) (by decide))
    have m2 : Md (fun a k => a = 51 ∧ k = 3) (uF 10 h 51 0 (.int (mI 1))) (uF 10 (uF 10 h 51 0 (.int (mI 1))) 51 3 (.int (mI (tz σ 1)))) := Md_uF (Sm_uF_10_3 _ _ _)
    have f : fZ (uF 10 (uF 10 h 51 0 (.int (mI 1))) 51 3 (.int (mI (tz σ 1)))) 51 3 = tz σ 1 := by rw [fZ_uF_eq (K10_s t1.1) (okf_10_3 _), ← s.1.2.1, wr_fZ]
    obtain ⟨⟨s1, s2, s3, s4⟩, ⟨s5, s6, s7⟩, s8, s9⟩ := t1.2.2.2.1
    refine ⟨_, st, RM_set (σ := σ) (σ' := σ) (Md_mono m2 fun a k q => ⟨q.1, by omega⟩) rfl (fun j hj => rfl) ⟨⟨(md_fZ m2 (by omega)).trans s1, f, (md_fZ m2 (by omega)).trans s3, (md_fZ m2 (by omega)).trans s4⟩, ⟨(md_fZ m2 (by omega)).trans s5, (md_fZ m2 (by omega)).trans s6, (md_fZ m2 (by omega)).trans s7⟩, (md_fZ m2 (by omega)).trans s8, (md_fZ m2 (by omega)).trans s9⟩ t1, (md_fZ m2 (by omega)).trans t2, Fr_mono (Fr_tr (U := SMl2) t3 (md_fr m2) (fun _ _ _ q => q) (fun a k _ q => by unfold SMl2; omega)) (fun _ _ _ q => q) (by decide) (by decide)⟩
theorem m_setSlices (rm : RM σ h D) {x : Int} (w : wr x = x) : (1 ≤ x ∧ x ≤ 2 → MRs (upz σ 2 x) h D (rn m_X12_setSlices 0 [.ref 51, .int (mI x), am_J] [] h) (.int (mI (tz σ 2))) 0 0 0) ∧ (¬ (1 ≤ x ∧ x ≤ 2) → MRs σ h D (rn m_X12_setSlices 0 [.ref 51, .int (mI x), am_J] [] h) (.int (mI 0)) 1 0 0) := by
  have st := b_X12_setSlices_0 (a0 := 51) (x1 := x) (h := h) w rm.1
  have s := rm.2.2.2.1
  rw [s.1.2.2.1] at st
  have k0 := K10_s rm.1
  refine ⟨fun g => ?_, fun g => ?_⟩
  · rw [if_neg (by omega), if_neg (by omega), bZ_f (by omega)] at st
    have m1 : Md (fun a k => a = 51 ∧ k = 0) h (uF 10 h 51 0 (.int (mI 0))) := Md_uF (Sm_uF_10_0 _ _ _)
    have m2 : Md (fun a k => a = 51 ∧ k = 4) (uF 10 h 51 0 (.int (mI 0))) (uF 10 (uF 10 h 51 0 (.int (mI 0))) 51 4 (.int (mI x))) := Md_uF (Sm_uF_10_4 _ _ _)
    have t0 : fZ (uF 10 (uF 10 h 51 0 (.int (mI 0))) 51 4 (.int (mI x))) 51 0 = 0 := by rw [fZ_uF_k (by decide), fZ_uF_eq k0 (okf_10_0 _), wr_id (by decide) (by decide)]
    have f : fZ (uF 10 (uF 10 h 51 0 (.int (mI 0))) 51 4 (.int (mI x))) 51 4 = x := by rw [fZ_uF_eq ((sh_uF _ _ _ _ _ _).trans k0) (okf_10_4 _), w]
    have m : Md (fun a k => a = 51 ∧ (k = 0 ∨ k = 4)) h (uF 10 (uF 10 h 51 0 (.int (mI 0))) 51 4 (.int (mI x))) := Md_tr (Md_mono m1 fun a k q => ⟨q.1, Or.inl q.2⟩) (Md_mono m2 fun a k q => ⟨q.1, Or.inr q.2⟩)
    obtain ⟨⟨s1, s2, s3, s4⟩, ⟨s5, s6, s7⟩, s8, s9⟩ := s
    exact MRs_set (σ := σ) (σ' := upz σ 2 x) rm (Md_mono m fun a k q => ⟨q.1, by omega⟩) rfl (fun j hj => upz_ne (by omega)) ⟨⟨(md_fZ m (by omega)).trans s1, (md_fZ m (by omega)).trans s2, f, (md_fZ m (by omega)).trans s4⟩, ⟨(md_fZ m (by omega)).trans s5, (md_fZ m (by omega)).trans s6, (md_fZ m (by omega)).trans s7⟩, (md_fZ m (by omega)).trans s8, (md_fZ m (by omega)).trans s9⟩ t0 st
  · rw [if_pos (by omega), if_pos (by omega), bZ_t (by omega)] at st
    obtain ⟨t1, t2, t3, tm⟩ := thr_ok (z := 1) rm (wr_id (by decide) (by decide))
    have m2 : Md (fun a k => a = 51 ∧ k = 4) (uF 10 h 51 0 (.int (mI 1))) (uF 10 (uF 10 h 51 0 (.int (mI 1))) 51 4 (.int (mI (tz σ 2)))) := Md_uF (Sm_uF_10_4 _ _ _)
    have f : fZ (uF 10 (uF 10 h 51 0 (.int (mI 1))) 51 4 (.int (mI (tz σ 2)))) 51 4 = tz σ 2 := by rw [fZ_uF_eq (K10_s t1.1) (okf_10_4 _), ← s.1.2.2.1, wr_fZ]
    obtain ⟨⟨s1, s2, s3, s4⟩, ⟨s5, s6, s7⟩, s8, s9⟩ := t1.2.2.2.1
    refine ⟨_, st, RM_set (σ := σ) (σ' := σ) (Md_mono m2 fun a k q => ⟨q.1, by omega⟩) rfl (fun j hj => rfl) ⟨⟨(md_fZ m2 (by omega)).trans s1, (md_fZ m2 (by omega)).trans s2, f, (md_fZ m2 (by omega)).trans s4⟩, ⟨(md_fZ m2 (by omega)).trans s5, (md_fZ m2 (by omega)).trans s6, (md_fZ m2 (by omega)).trans s7⟩, (md_fZ m2 (by omega)).trans s8, (md_fZ m2 (by omega)).trans s9⟩ t1, (md_fZ m2 (by omega)).trans t2, Fr_mono (Fr_tr (U := SMl2) t3 (md_fr m2) (fun _ _ _ q => q) (fun a k _ q => by unfold SMl2; omega)) (fun _ _ _ q => q) (by decide) (by decide)⟩
theorem m_setKept (rm : RM σ h D) {x : Int} (w : wr x = x) (g : x = 0 ∨ x = 1) : MRs (upz σ 3 x) h D (rn m_X12_setKept 0 [.ref 51, .int (mI x), am_J] [] h) (.int (mI (tz σ 3))) 0 0 0 := by
  have st := b_X12_setKept_0 (a0 := 51) (x1 := x) (h := h) w rm.1 g
  have s := rm.2.2.2.1
  rw [s.1.2.2.2] at st
  have k0 := K10_s rm.1
  have m1 : Md (fun a k => a = 51 ∧ k = 0) h (uF 10 h 51 0 (.int (mI 0))) := Md_uF (Sm_uF_10_0 _ _ _)
  have m2 : Md (fun a k => a = 51 ∧ k = 5) (uF 10 h 51 0 (.int (mI 0))) (uF 10 (uF 10 h 51 0 (.int (mI 0))) 51 5 (.int (mI x))) := Md_uF (Sm_uF_10_5 _ _ _)
  have t0 : fZ (uF 10 (uF 10 h 51 0 (.int (mI 0))) 51 5 (.int (mI x))) 51 0 = 0 := by rw [fZ_uF_k (by decide), fZ_uF_eq k0 (okf_10_0 _), wr_id (by decide) (by decide)]
  have f : fZ (uF 10 (uF 10 h 51 0 (.int (mI 0))) 51 5 (.int (mI x))) 51 5 = x := by rw [fZ_uF_eq ((sh_uF _ _ _ _ _ _).trans k0) (okfB_10_5 w g), w]
  have m : Md (fun a k => a = 51 ∧ (k = 0 ∨ k = 5)) h (uF 10 (uF 10 h 51 0 (.int (mI 0))) 51 5 (.int (mI x))) := Md_tr (Md_mono m1 fun a k q => ⟨q.1, Or.inl q.2⟩) (Md_mono m2 fun a k q => ⟨q.1, Or.inr q.2⟩)
  obtain ⟨⟨s1, s2, s3, s4⟩, ⟨s5, s6, s7⟩, s8, s9⟩ := s
  exact MRs_set (σ := σ) (σ' := upz σ 3 x) rm (Md_mono m fun a k q => ⟨q.1, by omega⟩) rfl (fun j hj => upz_ne (by omega)) ⟨⟨(md_fZ m (by omega)).trans s1, (md_fZ m (by omega)).trans s2, (md_fZ m (by omega)).trans s3, f⟩, ⟨(md_fZ m (by omega)).trans s5, (md_fZ m (by omega)).trans s6, (md_fZ m (by omega)).trans s7⟩, (md_fZ m (by omega)).trans s8, (md_fZ m (by omega)).trans s9⟩ t0 st
theorem m_setBucket (rm : RM σ h D) (wf : WfS σ c) {x y : Int} (w1 : wr x = x) (w2 : wr y = y) : (isB2 x y → MRs (stb σ x y) h D (rn m_X12_setBucket 0 [.ref 51, .int (mI x), .int (mI y), am_J] [] h) (.int (mI (if 0 < tz σ 4 then tz σ 6 else -1))) 0 0 0) ∧ (¬ isB2 x y → MRs σ h D (rn m_X12_setBucket 0 [.ref 51, .int (mI x), .int (mI y), am_J] [] h) (.int (mI 0)) 1 0 0) := by
  have st := b_X12_setBucket_0 (a0 := 51) (x1 := x) (x2 := y) (h := h) w1 w2 rm.1
  have s := rm.2.2.2.1
  have b4 := wf.1.2.2.2.2.1
  have cg : (¬ (¬ (x < 0) ∧ (¬ (99999 < x))) ∨ (¬ (¬ (y < 0) ∧ (¬ (99999 < y))))) ↔ ¬ ((0 ≤ x ∧ x ≤ 99999) ∧ 0 ≤ y ∧ y ≤ 99999) := by omega
  rw [s.2.1.2.2, bZ_congr cg] at st
  clear cg
  have k0 := K10_s rm.1
  unfold isB2
  refine ⟨fun g => ?_, fun g => ?_⟩
  · rw [bZ_f (fun q => q g), if_pos (by decide)] at st
    have eb : (if tz σ 4 = 0 then (-1 : Int) else tz σ 6) = if 0 < tz σ 4 then tz σ 6 else -1 := by
      by_cases q : 0 < tz σ 4
      · rw [if_pos q, if_neg (by omega)]
      · rw [if_neg q, if_pos (by omega)]
    rw [eb] at st
    obtain ⟨hA, eA⟩ : ∃ u, u = uF 10 (uF 10 (uF 10 (uF 10 h 51 0 (.int (mI 0))) 51 6 (.int (mI x))) 51 7 (.int (mI y))) 51 8 (.int (mI (if ¬ x = 0 then (0 : Int) else (-1)))) := ⟨_, rfl⟩
    have m : Md (fun a k => a = 51 ∧ (k = 0 ∨ k = 6 ∨ k = 7 ∨ k = 8)) h hA := by
      rw [eA]
      exact Md_tr (Md_mono (Md_uF (Sm_uF_10_0 _ _ _)) fun a k q => ⟨q.1, by omega⟩) (Md_tr (Md_mono (Md_uF (Sm_uF_10_6 _ _ _)) fun a k q => ⟨q.1, by omega⟩) (Md_tr (Md_mono (Md_uF (Sm_uF_10_7 _ _ _)) fun a k q => ⟨q.1, by omega⟩) (Md_mono (Md_uF (Sm_uF_10_8 _ _ _)) fun a k q => ⟨q.1, by omega⟩)))
    have t0 : fZ hA 51 0 = 0 := by rw [eA, fZ_uF_k (by decide), fZ_uF_k (by decide), fZ_uF_k (by decide), fZ_uF_eq k0 (okf_10_0 _), wr_id (by decide) (by decide)]
    have f0 : fZ hA 51 6 = x := by rw [eA, fZ_uF_k (by decide), fZ_uF_k (by decide), fZ_uF_eq ((sh_uF _ _ _ _ _ _).trans k0) (okf_10_6 _), w1]
    have f1 : fZ hA 51 7 = y := by rw [eA, fZ_uF_k (by decide), fZ_uF_eq ((sh_uF _ _ _ _ _ _).trans ((sh_uF _ _ _ _ _ _).trans k0)) (okf_10_7 _), w2]
    have f2 : fZ hA 51 8 = if x = 0 then -1 else 0 := by
      rw [eA, fZ_uF_eq ((sh_uF _ _ _ _ _ _).trans ((sh_uF _ _ _ _ _ _).trans ((sh_uF _ _ _ _ _ _).trans k0))) (okf_10_8 _)]
      by_cases q : x = 0
      · rw [if_pos q, if_neg (fun w => w q), wr_id (by decide) (by decide)]
      · rw [if_neg q, if_pos q, wr_id (by decide) (by decide)]
    rw [← eA] at st
    clear eA
    obtain ⟨⟨s1, s2, s3, s4⟩, ⟨s5, s6, s7⟩, s8, s9⟩ := s
    exact MRs_set (σ := σ) (σ' := stb σ x y) rm (Md_mono m fun a k q => ⟨q.1, by omega⟩) rfl (fun j hj => by
      show (if j = 6 then (0 : Int) else if j = 5 then y else if j = 4 then x else tz σ j) = tz σ j
      rw [if_neg (by omega), if_neg (by omega), if_neg (by omega)]) ⟨⟨(md_fZ m (by omega)).trans s1, (md_fZ m (by omega)).trans s2, (md_fZ m (by omega)).trans s3, (md_fZ m (by omega)).trans s4⟩, ⟨f0, f1, f2⟩, (md_fZ m (by omega)).trans s8, (md_fZ m (by omega)).trans s9⟩ t0 st
  · rw [bZ_t g, if_neg (by decide)] at st
    exact MRs_thr rm (wr_id (by decide) (by decide)) st
/-- what the model's decoder changes -/
def SMD : Nat → Nat → Prop := fun a k => (a = 51 ∧ (k < 2 ∨ (27 ≤ k ∧ k ≤ 47))) ∨ (69 ≤ a ∧ a ≤ 73)
theorem RM_dec {cc ss : Nat} (F : Fr SMD cc ss h h') (e : ∀ j, j ≤ 8 → tz σ' j = tz σ j) (e3 : tc σ' = tc σ) (e4 : tk σ' = tk σ) (e5 : tpz σ' = tpz σ) (e6 : tpd σ' = tpd σ) (d : RMd σ' h' D) (r : RM σ h D) : RM σ' h' D := by
  obtain ⟨r1, al, r3, r4, r5, r6, r7⟩ := r
  have nx := F.1.nx
  have n : ∀ a k, a ≠ 51 → ¬ (69 ≤ a ∧ a ≤ 73) → ¬ SMD a k := fun a k h1 h2 q => by unfold SMD at q; omega
  have nd : ∀ a k, dyn h D a → ¬ SMD a k := fun a k q => n a k (by have := q.1; omega) (by have := q.1; omega)
  have p7 : RMs σ' h' := by
    have := RMs_fr F al (fun k h1 h2 w => by unfold SMD at w; omega) r4
    unfold RMs at *
    rw [e 0 (by decide), e 1 (by decide), e 2 (by decide), e 3 (by decide), e 4 (by decide), e 5 (by decide), e 6 (by decide), e 7 (by decide), e 8 (by decide)]
    exact this
  have p8 : RMk σ' h' := by
    have := RMk_fr F al (n _ _ (by decide) (by decide)) r5
    unfold RMk at *
    rw [e4, e 8 (by decide)]
    exact this
  have p9 : RMp σ' h' D := by
    have := RMp_fr F (dyn_fr F) nd al (fun a k a0 a1 => n _ _ (by omega) (by omega)) r6
    unfold RMp at *
    rw [e5, e6, e 7 (by decide)]
    exact this
  exact ⟨K10_fr F (by omega) r1, by omega, by rw [e3]; exact (frZ F (by omega) (n _ _ (by decide) (by decide))).trans r3, p7, p8, p9, d⟩
theorem i_X12_join_0 : am_i m_X12_join 0 = some (0, .aload_n 0, 1, [], 0) := rfl
theorem i_X12_join_1 : am_i m_X12_join 1 = some (1, .iload_n 1, 1, [], 0) := rfl
theorem i_X12_join_2 : am_i m_X12_join 2 = some (2, .iconst 0, 1, [], 0) := rfl
theorem i_X12_join_3 : am_i m_X12_join 3 = some (3, .aload_n 0, 1, [], 0) := rfl
theorem i_X12_join_4 : am_i m_X12_join 4 = some (4, .getfield 305, 3, [10, 9, 0], 0) := rfl
theorem i_X12_join_7 : am_i m_X12_join 7 = some (7, .invokestatic 113, 3, [27], 0) := rfl
theorem i_X12_join_10 : am_i m_X12_join 10 = some (10, .ifCond .eq 7, 3, [], 0) := rfl
theorem i_X12_join_13 : am_i m_X12_join 13 = some (13, .iconst 0, 1, [], 0) := rfl
theorem i_X12_join_14 : am_i m_X12_join 14 = some (14, .goto 4, 3, [], 0) := rfl
theorem i_X12_join_17 : am_i m_X12_join 17 = some (17, .iconst 1, 1, [], 1) := rfl
theorem i_X12_join_18 : am_i m_X12_join 18 = some (18, .putfield 110, 3, [10, 0, 0], 0) := rfl
theorem i_X12_join_21 : am_i m_X12_join 21 = some (21, .aload_n 0, 1, [], 0) := rfl
theorem i_X12_join_22 : am_i m_X12_join 22 = some (22, .getfield 110, 3, [10, 0, 0], 0) := rfl
theorem i_X12_join_25 : am_i m_X12_join 25 = some (25, .ifCond .le 5, 3, [], 0) := rfl
theorem i_X12_join_28 : am_i m_X12_join 28 = some (28, .iconst 0, 1, [], 0) := rfl
theorem i_X12_join_29 : am_i m_X12_join 29 = some (29, .ireturn, 1, [], 0) := rfl
theorem i_X12_join_30 : am_i m_X12_join 30 = some (30, .aload_n 0, 1, [], 0) := rfl
theorem i_X12_join_31 : am_i m_X12_join 31 = some (31, .getfield 341, 3, [10, 45, 0], 0) := rfl
theorem i_X12_join_34 : am_i m_X12_join 34 = some (34, .istore_n 2, 1, [], 0) := rfl
theorem i_X12_join_35 : am_i m_X12_join 35 = some (35, .aload_n 0, 1, [], 0) := rfl
theorem i_X12_join_36 : am_i m_X12_join 36 = some (36, .iload_n 1, 1, [], 0) := rfl
theorem i_X12_join_37 : am_i m_X12_join 37 = some (37, .putfield 355, 3, [10, 39, 0], 0) := rfl
theorem i_X12_join_40 : am_i m_X12_join 40 = some (40, .aload_n 0, 1, [], 0) := rfl
theorem i_X12_join_41 : am_i m_X12_join 41 = some (41, .iconst 0, 1, [], 0) := rfl
theorem i_X12_join_42 : am_i m_X12_join 42 = some (42, .putfield 341, 3, [10, 45, 0], 0) := rfl
theorem i_X12_join_45 : am_i m_X12_join 45 = some (45, .aload_n 0, 1, [], 0) := rfl
theorem i_X12_join_46 : am_i m_X12_join 46 = some (46, .iconst (-1), 1, [], -1) := rfl
theorem i_X12_join_47 : am_i m_X12_join 47 = some (47, .putfield 101, 3, [10, 40, 0], 0) := rfl
theorem i_X12_join_50 : am_i m_X12_join 50 = some (50, .aload_n 0, 1, [], 0) := rfl
theorem i_X12_join_51 : am_i m_X12_join 51 = some (51, .aconst_null, 1, [], 0) := rfl
theorem i_X12_join_52 : am_i m_X12_join 52 = some (52, .putfield 344, 3, [10, 41, 0], 0) := rfl
theorem i_X12_join_55 : am_i m_X12_join 55 = some (55, .iload_n 2, 1, [], 0) := rfl
theorem i_X12_join_56 : am_i m_X12_join 56 = some (56, .ireturn, 1, [], 0) := rfl
theorem b_X12_join_0 {a0 : Nat} {x1 x1' : Int} {h : am_H} (w1 : wr x1 = x1') (k1 : K10 h a0) : rn m_X12_join 0 [.ref a0, .int (mI x1), am_J] [] h = if (bZ (¬ (¬ (x1' < 0) ∧ (¬ ((fZ h a0 9) < x1'))))) ≤ 0 then some (.inl (some (.int (mI (fZ h a0 45)))), uF 10 (uF 10 (uF 10 (uF 10 (uF 10 h a0 0 (.int (mI (bZ (¬ (¬ (x1' < 0) ∧ (¬ ((fZ h a0 9) < x1')))))))) a0 39 (.int (mI x1))) a0 45 (.int (mI 0))) a0 40 (.int (mI (-1)))) a0 41 (.null)) else some (.inl (some (.int (mI 0))), uF 10 h a0 0 (.int (mI (bZ (¬ (¬ (x1' < 0) ∧ (¬ ((fZ h a0 9) < x1')))))))) := by
  refine (tq_aload_n i_X12_join_0 rfl (isA_ref _) rfl).trans ?_
  refine (tq_iload_n i_X12_join_1 rfl rfl).trans ?_
  refine (tq_iconst i_X12_join_2 rfl).trans ?_
  refine (tq_aload_n i_X12_join_3 rfl (isA_ref _) rfl).trans ?_
  refine (tq_getfield i_X12_join_4 (K10_s k1) (g_10_9 (K10_s k1)) (isV_I _) rfl).trans ?_
  refine (c_X12_in i_X12_join_7 (ltd d_X12_join (by decide)) (stOk_1 _) rfl).trans ?_
  refine (congrArg (cl _ _ _ _) (b_X12_in_0 w1 w_0 (wr_fZ _ _ _))).trans ?_
  refine (cl_v _ _ _ _ _ _).trans ?_
  refine (tq_ifb_eq (pt := 17) i_X12_join_10 (by decide) rfl).trans ?_
  refine Eq.trans (b := if (¬ (x1' < 0) ∧ (¬ ((fZ h a0 9) < x1'))) then rn m_X12_join 18 [.ref a0, .int (mI x1), am_J] [.int (mI 0), .ref a0] h else rn m_X12_join 18 [.ref a0, .int (mI x1), am_J] [.int (mI 1), .ref a0] h) (ite_congr rfl (fun c1 => ?_) (fun c1 => ?_)) ?_
  · refine (tq_iconst i_X12_join_13 rfl).trans ?_
    refine (tq_goto (pc' := 18) i_X12_join_14 (by decide)).trans ?_
    rfl
  · refine (tq_iconst i_X12_join_17 rfl).trans ?_
    rfl
  refine Eq.trans ite_b01 ?_
  refine (tq_putfield i_X12_join_18 (K10_s k1) (okf_10_0 _) rfl).trans ?_
  refine (tq_aload_n i_X12_join_21 rfl (isA_ref _) rfl).trans ?_
  refine (tq_getfield i_X12_join_22 ((sh_uF _ _ _ _ _ _).trans (K10_s k1)) (gV_uF_eq (K10_s k1) (okf_10_0 _)) (isV_I _) rfl).trans ?_
  refine (tq_if_le (pt := 30) i_X12_join_25 (wr_bZ _) (by decide) rfl).trans ?_
  refine ite_congr rfl (fun c2 => ?_) (fun c2 => ?_)
  · refine (tq_aload_n i_X12_join_30 rfl (isA_ref _) rfl).trans ?_
    refine (tq_getfield i_X12_join_31 ((sh_uF _ _ _ _ _ _).trans (K10_s k1)) ((g_10_45 ((sh_uF _ _ _ _ _ _).trans (K10_s k1))).trans (congrArg (fun z => Value.int (mI z)) (fZ_uF_nk (K10_s k1) (okf_10_0 _) (by decide)))) (isV_I _) rfl).trans ?_
    refine (tq_istore_n (L' := [.ref a0, .int (mI x1), .int (mI (fZ h a0 45))]) i_X12_join_34 rfl rfl).trans ?_
    refine (tq_aload_n i_X12_join_35 rfl (isA_ref _) rfl).trans ?_
    refine (tq_iload_n i_X12_join_36 rfl rfl).trans ?_
    refine (tq_putfield i_X12_join_37 ((sh_uF _ _ _ _ _ _).trans (K10_s k1)) (okf_10_39 _) rfl).trans ?_
    refine (tq_aload_n i_X12_join_40 rfl (isA_ref _) rfl).trans ?_
    refine (tq_iconst i_X12_join_41 rfl).trans ?_
    refine (tq_putfield i_X12_join_42 ((sh_uF _ _ _ _ _ _).trans ((sh_uF _ _ _ _ _ _).trans (K10_s k1))) (okf_10_45 _) rfl).trans ?_
    refine (tq_aload_n i_X12_join_45 rfl (isA_ref _) rfl).trans ?_
    refine (tq_iconst i_X12_join_46 rfl).trans ?_
    refine (tq_putfield i_X12_join_47 ((sh_uF _ _ _ _ _ _).trans ((sh_uF _ _ _ _ _ _).trans ((sh_uF _ _ _ _ _ _).trans (K10_s k1)))) (okf_10_40 _) rfl).trans ?_
    refine (tq_aload_n i_X12_join_50 rfl (isA_ref _) rfl).trans ?_
    refine (tq_aconst_null i_X12_join_51 rfl).trans ?_
    refine (tq_putfield i_X12_join_52 ((sh_uF _ _ _ _ _ _).trans ((sh_uF _ _ _ _ _ _).trans ((sh_uF _ _ _ _ _ _).trans ((sh_uF _ _ _ _ _ _).trans (K10_s k1))))) (okfA_10_41 isA_null) rfl).trans ?_
    refine (tq_iload_n i_X12_join_55 rfl rfl).trans ?_
    exact tq_ireturn i_X12_join_56 r_X12_join rfl
  · refine (tq_iconst i_X12_join_28 rfl).trans ?_
    exact tq_ireturn i_X12_join_29 r_X12_join rfl
theorem m_join (rm : RM σ h D) {x : Int} (w : wr x = x) : (0 ≤ x ∧ x ≤ tz σ 7 → MRs (stj σ x) h D (rn m_X12_join 0 [.ref 51, .int (mI x), am_J] [] h) (.int (mI (tz σ 12))) 0 0 0) ∧ (¬ (0 ≤ x ∧ x ≤ tz σ 7) → MRs σ h D (rn m_X12_join 0 [.ref 51, .int (mI x), am_J] [] h) (.int (mI 0)) 1 0 0) := by
  have st := b_X12_join_0 (a0 := 51) (x1 := x) (h := h) w rm.1
  have en : fZ h 51 9 = tz σ 7 := rm.2.2.2.1.2.2.1
  have e45 : fZ h 51 45 = tz σ 12 := rm.2.2.2.2.2.2.1.2.2.1
  rw [en, e45, bZ_congr (q := ¬ (0 ≤ x ∧ x ≤ tz σ 7)) (by omega)] at st
  have k0 := K10_s rm.1
  refine ⟨fun g => ?_, fun g => ?_⟩
  · rw [bZ_f (fun q => q g), if_pos (by decide)] at st
    obtain ⟨hA, eA⟩ : ∃ u, u = uF 10 (uF 10 (uF 10 (uF 10 (uF 10 h 51 0 (.int (mI 0))) 51 39 (.int (mI x))) 51 45 (.int (mI 0))) 51 40 (.int (mI (-1)))) 51 41 .null := ⟨_, rfl⟩
    rw [← eA] at st
    have s1 := fun (k : Nat) (v : Value) => (sh_uF 10 h 51 k v 51).trans k0
    have m : Md (fun a k => a = 51 ∧ (k = 0 ∨ k = 39 ∨ k = 45 ∨ k = 40 ∨ k = 41)) h hA := by
      rw [eA]
      exact Md_tr (Md_mono (Md_uF (Sm_uF_10_0 _ _ _)) fun a k q => ⟨q.1, by omega⟩) (Md_tr (Md_mono (Md_uF (Sm_uF_10_39 _ _ _)) fun a k q => ⟨q.1, by omega⟩) (Md_tr (Md_mono (Md_uF (Sm_uF_10_45 _ _ _)) fun a k q => ⟨q.1, by omega⟩) (Md_tr (Md_mono (Md_uF (Sm_uF_10_40 _ _ _)) fun a k q => ⟨q.1, by omega⟩) (Md_mono (Md_uF (Sm_uF_10_41 _ _ _)) fun a k q => ⟨q.1, by omega⟩))))
    have t0 : fZ hA 51 0 = 0 := by rw [eA, fZ_uF_k (by decide), fZ_uF_k (by decide), fZ_uF_k (by decide), fZ_uF_k (by decide), fZ_uF_eq k0 (okf_10_0 _), wr_id (by decide) (by decide)]
    have f39 : fZ hA 51 39 = x := by rw [eA, fZ_uF_k (by decide), fZ_uF_k (by decide), fZ_uF_k (by decide), fZ_uF_eq ((sh_uF _ _ _ _ _ _).trans k0) (okf_10_39 _), w]
    have f45 : fZ hA 51 45 = 0 := by rw [eA, fZ_uF_k (by decide), fZ_uF_k (by decide), fZ_uF_eq ((sh_uF _ _ _ _ _ _).trans ((sh_uF _ _ _ _ _ _).trans k0)) (okf_10_45 _), wr_id (by decide) (by decide)]
    have f40 : fZ hA 51 40 = -1 := by rw [eA, fZ_uF_k (by decide), fZ_uF_eq ((sh_uF _ _ _ _ _ _).trans ((sh_uF _ _ _ _ _ _).trans ((sh_uF _ _ _ _ _ _).trans k0))) (okf_10_40 _), wr_id (by decide) (by decide)]
    have f41 : fA hA 51 41 = none := by
      rw [eA]
      exact fA_uF_eq (r := none) ((sh_uF _ _ _ _ _ _).trans ((sh_uF _ _ _ _ _ _).trans ((sh_uF _ _ _ _ _ _).trans ((sh_uF _ _ _ _ _ _).trans k0)))) rfl
    clear eA
    obtain ⟨⟨t1, t2, t3, t4, t5⟩, u2, u3, u4, u5⟩ := rm.2.2.2.2.2.2
    have rj : RM (stj σ x) hA D := RM_dec (σ := σ) (σ' := stj σ x) (Fr_mono (T := SMD) (md_fr m) (fun a k _ q => by unfold SMD; omega) (Nat.le_refl _) (Nat.le_refl _)) (fun j hj => by
      show (if j = 9 then x else if j = 10 then -1 else if j = 11 then 0 else if j = 12 then 0 else tz σ j) = tz σ j
      rw [if_neg (by omega), if_neg (by omega), if_neg (by omega), if_neg (by omega)]) rfl rfl rfl rfl ⟨⟨f39, f40, f45, (md_fZ m (by omega)).trans t4, (md_fZ m (by omega)).trans t5⟩, fun q => absurd rfl q, Or.inl ⟨rfl, f41⟩, fun j j0 j1 => absurd j1 (by show ¬ (j < 0); omega), fun j j0 j1 => absurd j1 (by show ¬ (j < 0); omega)⟩ rm
    exact ⟨hA, st, rj, t0, Fr_mono (md_fr m) (fun a k _ q => by unfold SMl2; omega) (Nat.le_refl _) (Nat.le_refl _)⟩
  · rw [bZ_t g, if_neg (by decide)] at st
    exact MRs_thr rm (wr_id (by decide) (by decide)) st
end MS2
