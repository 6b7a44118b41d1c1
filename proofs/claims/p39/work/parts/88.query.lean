/-! ===== the class's queries ===== -/
theorem i_X11_pictureAt_0 : am_i m_X11_pictureAt 0 = some (0, .iload_n 1, 1, [], 0) := rfl
theorem i_X11_pictureAt_1 : am_i m_X11_pictureAt 1 = some (1, .ifCond .lt 20, 3, [], 0) := rfl
theorem i_X11_pictureAt_4 : am_i m_X11_pictureAt 4 = some (4, .iload_n 1, 1, [], 0) := rfl
theorem i_X11_pictureAt_5 : am_i m_X11_pictureAt 5 = some (5, .aload_n 0, 1, [], 0) := rfl
theorem i_X11_pictureAt_6 : am_i m_X11_pictureAt 6 = some (6, .getfield 43, 3, [9, 8, 0], 0) := rfl
theorem i_X11_pictureAt_9 : am_i m_X11_pictureAt 9 = some (9, .if_icmp .ge 12, 3, [], 0) := rfl
theorem i_X11_pictureAt_12 : am_i m_X11_pictureAt 12 = some (12, .iload_n 1, 1, [], 0) := rfl
theorem i_X11_pictureAt_13 : am_i m_X11_pictureAt 13 = some (13, .aload_n 0, 1, [], 0) := rfl
theorem i_X11_pictureAt_14 : am_i m_X11_pictureAt 14 = some (14, .getfield 39, 3, [9, 7, 0], 0) := rfl
theorem i_X11_pictureAt_17 : am_i m_X11_pictureAt 17 = some (17, .arraylength, 1, [], 0) := rfl
theorem i_X11_pictureAt_18 : am_i m_X11_pictureAt 18 = some (18, .if_icmp .lt 14, 3, [], 0) := rfl
theorem i_X11_pictureAt_21 : am_i m_X11_pictureAt 21 = some (21, .new 155, 3, [1, 0], 0) := rfl
theorem i_X11_pictureAt_32 : am_i m_X11_pictureAt 32 = some (32, .aload_n 0, 1, [], 0) := rfl
theorem i_X11_pictureAt_33 : am_i m_X11_pictureAt 33 = some (33, .getfield 39, 3, [9, 7, 0], 0) := rfl
theorem i_X11_pictureAt_36 : am_i m_X11_pictureAt 36 = some (36, .iload_n 1, 1, [], 0) := rfl
theorem i_X11_pictureAt_37 : am_i m_X11_pictureAt 37 = some (37, .aaload, 1, [], 0) := rfl
theorem i_X11_pictureAt_38 : am_i m_X11_pictureAt 38 = some (38, .astore_n 2, 1, [], 0) := rfl
theorem i_X11_pictureAt_39 : am_i m_X11_pictureAt 39 = some (39, .aload_n 2, 1, [], 0) := rfl
theorem i_X11_pictureAt_40 : am_i m_X11_pictureAt 40 = some (40, .ifnonnull 14, 3, [], 0) := rfl
theorem i_X11_pictureAt_54 : am_i m_X11_pictureAt 54 = some (54, .aload_n 2, 1, [], 0) := rfl
theorem i_X11_pictureAt_55 : am_i m_X11_pictureAt 55 = some (55, .areturn, 1, [], 0) := rfl
theorem b_X11_pictureAt_0 {a0 b_37 : Nat} {x1 x1' : Int} {h : am_H} (w1 : wr x1 = x1') (k1 : K9 h a0) (g2 : (¬ (x1' < 0)) → (¬ ((fZ h a0 8) ≤ x1')) → (x1' < (12 : Int)) → (0 ≤ x1' ∧ x1' < (12 : Int))) (e3 : (¬ (x1' < 0)) → (¬ ((fZ h a0 8) ≤ x1')) → (x1' < (12 : Int)) → (gA h (a0 + 4) x1' = some b_37)) : rn m_X11_pictureAt 0 [.ref a0, .int (mI x1), am_J] [] h = if x1' < 0 then some (.inr 1, hexc h) else if (fZ h a0 8) ≤ x1' then some (.inr 1, hexc h) else if x1' < (12 : Int) then some (.inl (some (.ref b_37)), h) else some (.inr 1, hexc h) := by
  refine (tq_iload_n i_X11_pictureAt_0 rfl rfl).trans ?_
  refine (tq_if_lt (pt := 21) i_X11_pictureAt_1 w1 (by decide) rfl).trans ?_
  refine ite_congr rfl (fun c1 => ?_) (fun c1 => ?_)
  · exact tq_newx i_X11_pictureAt_21
  · refine (tq_iload_n i_X11_pictureAt_4 rfl rfl).trans ?_
    refine (tq_aload_n i_X11_pictureAt_5 rfl (isA_ref _) rfl).trans ?_
    refine (tq_getfield i_X11_pictureAt_6 (K9_s k1) (g_9_8 (K9_s k1)) (isV_I _) rfl).trans ?_
    refine (tq_icmp_ge (pt := 21) i_X11_pictureAt_9 w1 (wr_fZ _ _ _) (by decide) rfl).trans ?_
    refine ite_congr rfl (fun c2 => ?_) (fun c2 => ?_)
    · exact tq_newx i_X11_pictureAt_21
    · refine (tq_iload_n i_X11_pictureAt_12 rfl rfl).trans ?_
      refine (tq_aload_n i_X11_pictureAt_13 rfl (isA_ref _) rfl).trans ?_
      refine (tq_getfield i_X11_pictureAt_14 (K9_s k1) (gR (g_9_7 (K9_s k1)) (K9_e7 k1)) (isV_ref _) rfl).trans ?_
      refine (tq_alen i_X11_pictureAt_17 (K9_s7 k1) (by decide) (by decide) rfl).trans ?_
      rw [(K9_n7 k1)]
      refine (tq_icmp_lt (pt := 32) i_X11_pictureAt_18 w1 (wr_len (K9_s7 k1) (K9_n7 k1) (by decide) (by decide)) (by decide) rfl).trans ?_
      refine ite_congr rfl (fun c3 => ?_) (fun c3 => ?_)
      · refine (tq_aload_n i_X11_pictureAt_32 rfl (isA_ref _) rfl).trans ?_
        refine (tq_getfield i_X11_pictureAt_33 (K9_s k1) (gR (g_9_7 (K9_s k1)) (K9_e7 k1)) (isV_ref _) rfl).trans ?_
        refine (tq_iload_n i_X11_pictureAt_36 rfl rfl).trans ?_
        refine (tq_aaload i_X11_pictureAt_37 (K9_s7 k1) w1 (g2 c1 c2 c3).1 (lt_gn (K9_n7 k1) (g2 c1 c2 c3).2) rfl).trans ?_
        rw [(e3 c1 c2 c3)]
        simp only [am_rv]
        refine (tq_astore_n (L' := [.ref a0, .int (mI x1), .ref b_37]) i_X11_pictureAt_38 (isA_ref _) rfl rfl).trans ?_
        refine (tq_aload_n i_X11_pictureAt_39 rfl (isA_ref _) rfl).trans ?_
        refine (tq_ifnonnull_r (pc' := 54) i_X11_pictureAt_40 (by decide)).trans ?_
        refine (tq_aload_n i_X11_pictureAt_54 rfl (isA_ref _) rfl).trans ?_
        exact tq_areturn i_X11_pictureAt_55 (isA_ref _) r_X11_pictureAt rfl
      · exact tq_newx i_X11_pictureAt_21
theorem i_X11_refuseNoPixel_0 : am_i m_X11_refuseNoPixel 0 = some (0, .iload_n 0, 1, [], 0) := rfl
theorem i_X11_refuseNoPixel_1 : am_i m_X11_refuseNoPixel 1 = some (1, .iload_n 1, 1, [], 0) := rfl
theorem i_X11_refuseNoPixel_2 : am_i m_X11_refuseNoPixel 2 = some (2, .invokestatic 82, 3, [9], 0) := rfl
theorem i_X11_refuseNoPixel_5 : am_i m_X11_refuseNoPixel 5 = some (5, .ifCond .ne 14, 3, [], 0) := rfl
theorem i_X11_refuseNoPixel_8 : am_i m_X11_refuseNoPixel 8 = some (8, .new 155, 3, [1, 0], 0) := rfl
theorem i_X11_refuseNoPixel_19 : am_i m_X11_refuseNoPixel 19 = some (19, .return_, 1, [], 0) := rfl
theorem b_X11_refuseNoPixel_0 {x0 x1 x0' x1' : Int} {h : am_H} (w0 : wr x0 = x0') (w1 : wr x1 = x1') : rn m_X11_refuseNoPixel 0 [.int (mI x0), .int (mI x1)] [] h = if (¬ (x0' < 0) ∧ (¬ (16 ≤ x0') ∧ (¬ (x1' < 0) ∧ (¬ (16 ≤ x1'))))) then some (.inl none, h) else some (.inr 1, hexc h) := by
  refine (tq_iload_n i_X11_refuseNoPixel_0 rfl rfl).trans ?_
  refine (tq_iload_n i_X11_refuseNoPixel_1 rfl rfl).trans ?_
  refine (c_X11_isOnCanvas i_X11_refuseNoPixel_2 (ltd d_X11_refuseNoPixel (by decide)) stOk_0 rfl).trans ?_
  refine (congrArg (cl _ _ _ _) (b_X11_isOnCanvas_0 w0 w1)).trans ?_
  refine (cl_v _ _ _ _ _ _).trans ?_
  refine (tq_ifb_ne (pt := 19) i_X11_refuseNoPixel_5 (by decide) rfl).trans ?_
  refine ite_congr rfl (fun c1 => ?_) (fun c1 => ?_)
  · exact tq_return i_X11_refuseNoPixel_19 r_X11_refuseNoPixel
  · exact tq_newx i_X11_refuseNoPixel_8
theorem i_X11_refuseNothingShown_0 : am_i m_X11_refuseNothingShown 0 = some (0, .aload_n 0, 1, [], 0) := rfl
theorem i_X11_refuseNothingShown_1 : am_i m_X11_refuseNothingShown 1 = some (1, .getfield 74, 3, [9, 14, 0], 0) := rfl
theorem i_X11_refuseNothingShown_4 : am_i m_X11_refuseNothingShown 4 = some (4, .getfield 299, 3, [3, 4, 1], 0) := rfl
theorem i_X11_refuseNothingShown_7 : am_i m_X11_refuseNothingShown 7 = some (7, .iconst (-1), 1, [], -1) := rfl
theorem i_X11_refuseNothingShown_8 : am_i m_X11_refuseNothingShown 8 = some (8, .if_icmp .ne 14, 3, [], 0) := rfl
theorem i_X11_refuseNothingShown_11 : am_i m_X11_refuseNothingShown 11 = some (11, .new 218, 3, [4, 0], 0) := rfl
theorem i_X11_refuseNothingShown_22 : am_i m_X11_refuseNothingShown 22 = some (22, .return_, 1, [], 0) := rfl
theorem b_X11_refuseNothingShown_0 {a0 : Nat} {h : am_H} (k1 : K9 h a0) : rn m_X11_refuseNothingShown 0 [.ref a0] [] h = if ¬ (fZ h (a0 + 34) 4) = (-1) then some (.inl none, h) else some (.inr 4, hexc h) := by
  refine (tq_aload_n i_X11_refuseNothingShown_0 rfl (isA_ref _) rfl).trans ?_
  refine (tq_getfield i_X11_refuseNothingShown_1 (K9_s k1) (gR (g_9_14 (K9_s k1)) (K9_e14 k1)) (isV_ref _) rfl).trans ?_
  refine (tq_getfield i_X11_refuseNothingShown_4 (K3_s (K9_k14 k1)) (g_3_4 (K3_s (K9_k14 k1))) (isV_I _) rfl).trans ?_
  refine (tq_iconst i_X11_refuseNothingShown_7 rfl).trans ?_
  refine (tq_icmp_ne (pt := 22) i_X11_refuseNothingShown_8 (wr_fZ _ _ _) w_m1 (by decide) rfl).trans ?_
  refine ite_congr rfl (fun c1 => ?_) (fun c1 => ?_)
  · exact tq_return i_X11_refuseNothingShown_22 r_X11_refuseNothingShown
  · exact tq_newx i_X11_refuseNothingShown_11
section QC
variable {σ : St} {h : am_H} {D : Nat} {c : Int}
theorem WFn (wf : WfS σ c) : 0 ≤ tz σ 7 ∧ tz σ 7 ≤ 12 := wf.2.1.1
theorem PA_good (rc : RC σ h D) (wf : WfS σ c) {i : Int} (w : wr i = i) (hi : 0 ≤ i ∧ i < tz σ 7) : ∃ P, rn m_X11_pictureAt 0 [.ref 2, .int (mI i), am_J] [] h = some (.inl (some (.ref P)), h) ∧ PC h D P (tpz σ i) (tpd σ i) := by
  have n := WFn wf
  obtain ⟨P, p1, p2⟩ := rc.2.2.2.2.2.1 i hi.1 hi.2
  have e : fZ h 2 8 = tz σ 7 := rc.2.2.2.1.2.2.1
  have st := b_X11_pictureAt_0 (a0 := 2) (b_37 := P) (x1 := i) (h := h) w rc.1 (fun _ _ _ => by omega) (fun _ _ _ => p1)
  rw [e, if_neg (by omega), if_neg (by omega), if_pos (by omega)] at st
  exact ⟨P, st, p2⟩
theorem PA_bad (rc : RC σ h D) (wf : WfS σ c) {i : Int} (w : wr i = i) (hi : ¬ (0 ≤ i ∧ i < tz σ 7)) : rn m_X11_pictureAt 0 [.ref 2, .int (mI i), am_J] [] h = some (.inr 1, hexc h) := by
  have n := WFn wf
  have e : fZ h 2 8 = tz σ 7 := rc.2.2.2.1.2.2.1
  have st := b_X11_pictureAt_0 (a0 := 2) (b_37 := 0) (x1 := i) (h := h) w rc.1 (fun g1 g2 g3 => by rw [e] at g2; omega) (fun g1 g2 g3 => by rw [e] at g2; omega)
  rw [e] at st
  by_cases c0 : i < 0
  · rw [if_pos c0] at st; exact st
  · rw [if_neg c0, if_pos (by omega)] at st; exact st
theorem NP_good {x y : Int} (wx : wr x = x) (wy : wr y = y) (hx : 0 ≤ x ∧ x < 16) (hy : 0 ≤ y ∧ y < 16) : rn m_X11_refuseNoPixel 0 [.int (mI x), .int (mI y)] [] h = some (.inl none, h) := (b_X11_refuseNoPixel_0 wx wy).trans (if_pos (by omega))
theorem NP_bad {x y : Int} (wx : wr x = x) (wy : wr y = y) (hn : ¬ ((0 ≤ x ∧ x < 16) ∧ 0 ≤ y ∧ y < 16)) : rn m_X11_refuseNoPixel 0 [.int (mI x), .int (mI y)] [] h = some (.inr 1, hexc h) := (b_X11_refuseNoPixel_0 wx wy).trans (if_neg (by omega))
theorem NS_good (rc : RC σ h D) (hn : tz σ 10 ≠ -1) : rn m_X11_refuseNothingShown 0 [.ref 2] [] h = some (.inl none, h) := (b_X11_refuseNothingShown_0 rc.1).trans (if_pos fun e => hn (rc.2.2.2.2.2.2.1.1.2.1.symm.trans e))
theorem NS_bad (rc : RC σ h D) (hn : tz σ 10 = -1) : rn m_X11_refuseNothingShown 0 [.ref 2] [] h = some (.inr 4, hexc h) := (b_X11_refuseNothingShown_0 rc.1).trans (if_neg fun e => e (rc.2.2.2.2.2.2.1.1.2.1.trans hn))
theorem i_X11_kindOf_0 : am_i m_X11_kindOf 0 = some (0, .aload_n 0, 1, [], 0) := rfl
theorem i_X11_kindOf_1 : am_i m_X11_kindOf 1 = some (1, .iload_n 1, 1, [], 0) := rfl
theorem i_X11_kindOf_2 : am_i m_X11_kindOf 2 = some (2, .invokevirtual 223, 3, [113, 9], 0) := rfl
theorem b_X11_kindOf_0 {a0 : Nat} {x1 : Int} {h : am_H} (k1 : K9 h a0) : rn m_X11_kindOf 0 [.ref a0, .int (mI x1)] [] h = cl m_X11_kindOf 5 [.ref a0, .int (mI x1)] [] (rn m_X11_pictureAt 0 [.ref a0, .int (mI x1), am_J] [] h) := by
  refine (tq_aload_n i_X11_kindOf_0 rfl (isA_ref _) rfl).trans ?_
  refine (tq_iload_n i_X11_kindOf_1 rfl rfl).trans ?_
  exact c_X11_pictureAt i_X11_kindOf_2 (K9_s k1) (ltd d_X11_kindOf (by decide)) stOk_0 rfl
theorem i_X11_kindOf_5 : am_i m_X11_kindOf 5 = some (5, .getfield 227, 3, [6, 0, 1], 0) := rfl
theorem i_X11_kindOf_8 : am_i m_X11_kindOf 8 = some (8, .ireturn, 1, [], 0) := rfl
theorem b_X11_kindOf_5 {v0 v1 : Value} {as0 : Nat} {h : am_H} (k1 : K6 h as0) (g2 : 0 ≤ fZ h as0 0 ∧ fZ h as0 0 ≤ 65535) : rn m_X11_kindOf 5 [v0, v1] [.ref as0] h = some (.inl (some (.int (mI (fZ h as0 0)))), h) := by
  refine (tq_getfield i_X11_kindOf_5 (K6_s k1) (g_6_0 (K6_s k1)) (isV_I _) rfl).trans ?_
  exact tq_ireturn i_X11_kindOf_8 r_X11_kindOf (okC (wr_fZ _ _ _) g2)
theorem q_kindOf (rc : RC σ h D) (wf : WfS σ c) {i : Int} (w : wr i = i) (hi : 0 ≤ i ∧ i < tz σ 7) : rn m_X11_kindOf 0 [.ref 2, .int (mI i)] [] h = some (.inl (some (.int (mI (tpz σ i 0)))), h) := by
  obtain ⟨P, e, p⟩ := PA_good rc wf w hi
  have k := (wf.2.2.2.1 i hi.1 hi.2).1
  unfold isKind at k
  rw [b_X11_kindOf_0 rc.1, e, cl_v, b_X11_kindOf_5 p.1 (by rw [p.2.2.1.1]; omega), p.2.2.1.1]
theorem q_kindOf_x (rc : RC σ h D) (wf : WfS σ c) {i : Int} (w : wr i = i) (hi : ¬ (0 ≤ i ∧ i < tz σ 7)) : rn m_X11_kindOf 0 [.ref 2, .int (mI i)] [] h = some (.inr 1, hexc h) := by
  rw [b_X11_kindOf_0 rc.1, PA_bad rc wf w hi, cl_x nh_X11_kindOf]
theorem i_X11_coarsenessOf_0 : am_i m_X11_coarsenessOf 0 = some (0, .aload_n 0, 1, [], 0) := rfl
theorem i_X11_coarsenessOf_1 : am_i m_X11_coarsenessOf 1 = some (1, .iload_n 1, 1, [], 0) := rfl
theorem i_X11_coarsenessOf_2 : am_i m_X11_coarsenessOf 2 = some (2, .invokevirtual 223, 3, [113, 9], 0) := rfl
theorem b_X11_coarsenessOf_0 {a0 : Nat} {x1 : Int} {h : am_H} (k1 : K9 h a0) : rn m_X11_coarsenessOf 0 [.ref a0, .int (mI x1)] [] h = cl m_X11_coarsenessOf 5 [.ref a0, .int (mI x1)] [] (rn m_X11_pictureAt 0 [.ref a0, .int (mI x1), am_J] [] h) := by
  refine (tq_aload_n i_X11_coarsenessOf_0 rfl (isA_ref _) rfl).trans ?_
  refine (tq_iload_n i_X11_coarsenessOf_1 rfl rfl).trans ?_
  exact c_X11_pictureAt i_X11_coarsenessOf_2 (K9_s k1) (ltd d_X11_coarsenessOf (by decide)) stOk_0 rfl
theorem i_X11_coarsenessOf_5 : am_i m_X11_coarsenessOf 5 = some (5, .getfield 231, 3, [6, 3, 1], 0) := rfl
theorem i_X11_coarsenessOf_8 : am_i m_X11_coarsenessOf 8 = some (8, .ireturn, 1, [], 0) := rfl
theorem b_X11_coarsenessOf_5 {v0 v1 : Value} {as0 : Nat} {h : am_H} (k1 : K6 h as0) : rn m_X11_coarsenessOf 5 [v0, v1] [.ref as0] h = some (.inl (some (.int (mI (fZ h as0 3)))), h) := by
  refine (tq_getfield i_X11_coarsenessOf_5 (K6_s k1) (g_6_3 (K6_s k1)) (isV_I _) rfl).trans ?_
  exact tq_ireturn i_X11_coarsenessOf_8 r_X11_coarsenessOf rfl
theorem q_coarsenessOf (rc : RC σ h D) (wf : WfS σ c) {i : Int} (w : wr i = i) (hi : 0 ≤ i ∧ i < tz σ 7) : rn m_X11_coarsenessOf 0 [.ref 2, .int (mI i)] [] h = some (.inl (some (.int (mI (tpz σ i 3)))), h) := by
  obtain ⟨P, e, p⟩ := PA_good rc wf w hi
  rw [b_X11_coarsenessOf_0 rc.1, e, cl_v, b_X11_coarsenessOf_5 p.1, p.2.2.1.2.2.2.1]
theorem q_coarsenessOf_x (rc : RC σ h D) (wf : WfS σ c) {i : Int} (w : wr i = i) (hi : ¬ (0 ≤ i ∧ i < tz σ 7)) : rn m_X11_coarsenessOf 0 [.ref 2, .int (mI i)] [] h = some (.inr 1, hexc h) := by
  rw [b_X11_coarsenessOf_0 rc.1, PA_bad rc wf w hi, cl_x nh_X11_coarsenessOf]
/-- a slice that is there -/
def isSl (σ : St) (i s : Int) : Prop := (0 ≤ i ∧ i < tz σ 7) ∧ 0 ≤ s ∧ s < tpz σ i 5
def isBy (σ : St) (i s j : Int) : Prop := isSl σ i s ∧ 0 ≤ j ∧ j < tpz σ i (if s = 0 then 8 else 9)
/-- a pixel of a picture -/
def isPl (σ : St) (i x y : Int) : Prop := (0 ≤ i ∧ i < tz σ 7) ∧ (0 ≤ x ∧ x < 16) ∧ 0 ≤ y ∧ y < 16
theorem sq_b (x y : Int) : 0 ≤ sq x y ∧ sq x y < 16 := by unfold sq; omega
theorem i_X11_partAt_0 : am_i m_X11_partAt 0 = some (0, .aload_n 0, 1, [], 0) := rfl
theorem i_X11_partAt_1 : am_i m_X11_partAt 1 = some (1, .iload_n 1, 1, [], 0) := rfl
theorem i_X11_partAt_2 : am_i m_X11_partAt 2 = some (2, .invokevirtual 223, 3, [113, 9], 0) := rfl
theorem b_X11_partAt_0 {a0 : Nat} {x1 x2 x3 : Int} {h : am_H} (k1 : K9 h a0) : rn m_X11_partAt 0 [.ref a0, .int (mI x1), .int (mI x2), .int (mI x3), am_J] [] h = cl m_X11_partAt 5 [.ref a0, .int (mI x1), .int (mI x2), .int (mI x3), am_J] [] (rn m_X11_pictureAt 0 [.ref a0, .int (mI x1), am_J] [] h) := by
  refine (tq_aload_n i_X11_partAt_0 rfl (isA_ref _) rfl).trans ?_
  refine (tq_iload_n i_X11_partAt_1 rfl rfl).trans ?_
  exact c_X11_pictureAt i_X11_partAt_2 (K9_s k1) (ltd d_X11_partAt (by decide)) stOk_0 rfl
theorem i_X11_partAt_5 : am_i m_X11_partAt 5 = some (5, .astore 4, 2, [], 0) := rfl
theorem i_X11_partAt_7 : am_i m_X11_partAt 7 = some (7, .iload_n 2, 1, [], 0) := rfl
theorem i_X11_partAt_8 : am_i m_X11_partAt 8 = some (8, .iload_n 3, 1, [], 0) := rfl
theorem i_X11_partAt_9 : am_i m_X11_partAt 9 = some (9, .invokestatic 130, 3, [114], 0) := rfl
theorem b_X11_partAt_5 {v0 v1 v4 : Value} {x2 x3 : Int} {as0 : Nat} {h : am_H} : rn m_X11_partAt 5 [v0, v1, .int (mI x2), .int (mI x3), v4] [.ref as0] h = cl m_X11_partAt 12 [v0, v1, .int (mI x2), .int (mI x3), .ref as0] [] (rn m_X11_refuseNoPixel 0 [.int (mI x2), .int (mI x3)] [] h) := by
  refine (tq_astore (L' := [v0, v1, .int (mI x2), .int (mI x3), .ref as0]) i_X11_partAt_5 (isA_ref _) rfl rfl).trans ?_
  refine (tq_iload_n i_X11_partAt_7 rfl rfl).trans ?_
  refine (tq_iload_n i_X11_partAt_8 rfl rfl).trans ?_
  exact c_X11_refuseNoPixel i_X11_partAt_9 (ltd d_X11_partAt (by decide)) stOk_0 rfl
theorem i_X11_partAt_12 : am_i m_X11_partAt 12 = some (12, .aload 4, 2, [], 0) := rfl
theorem i_X11_partAt_14 : am_i m_X11_partAt 14 = some (14, .getfield 240, 3, [6, 10, 1], 0) := rfl
theorem i_X11_partAt_17 : am_i m_X11_partAt 17 = some (17, .iload_n 2, 1, [], 0) := rfl
theorem i_X11_partAt_18 : am_i m_X11_partAt 18 = some (18, .iload_n 3, 1, [], 0) := rfl
theorem i_X11_partAt_19 : am_i m_X11_partAt 19 = some (19, .invokestatic 243, 3, [15], 0) := rfl
theorem i_X11_partAt_22 : am_i m_X11_partAt 22 = some (22, .invokestatic 103, 3, [32], 0) := rfl
theorem i_X11_partAt_25 : am_i m_X11_partAt 25 = some (25, .ireturn, 1, [], 0) := rfl
theorem b_X11_partAt_12 {v0 v1 : Value} {x2 x3 x2' x3' : Int} {a4 : Nat} {h : am_H} (w2 : wr x2 = x2') (w3 : wr x3 = x3') (k1 : K6 h a4) (g2 : 0 ≤ x2' ∧ x2' < 16) (g3 : 0 ≤ x3' ∧ x3' < 16) (g4 : 0 ≤ (sq x2' x3') ∧ (sq x2' x3') < (16 : Int)) : rn m_X11_partAt 12 [v0, v1, .int (mI x2), .int (mI x3), .ref a4] [] h = some (.inl (some (.int (mI (gZ h (a4 + 3) (sq x2' x3'))))), h) := by
  refine (tq_aload i_X11_partAt_12 rfl (isA_ref _) rfl).trans ?_
  refine (tq_getfield i_X11_partAt_14 (K6_s k1) (gR (g_6_10 (K6_s k1)) (K6_e10 k1)) (isV_ref _) rfl).trans ?_
  refine (tq_iload_n i_X11_partAt_17 rfl rfl).trans ?_
  refine (tq_iload_n i_X11_partAt_18 rfl rfl).trans ?_
  refine (c_X11_squareAt i_X11_partAt_19 (ltd d_X11_partAt (by decide)) (stOk_1 _) rfl).trans ?_
  refine (congrArg (cl _ _ _ _) (squareAt_ok w2 w3 g2 g3)).trans ?_
  refine (cl_v _ _ _ _ _ _).trans ?_
  refine (c_X7_get i_X11_partAt_22 (ltd d_X11_partAt (by decide)) (isA_ref _) stOk_0 rfl).trans ?_
  refine (congrArg (cl _ _ _ _) (get_ok (wr_sq _ _) (K6_n10 k1) (K6_s10 k1) (by decide) g4)).trans ?_
  refine (cl_v _ _ _ _ _ _).trans ?_
  exact tq_ireturn i_X11_partAt_25 r_X11_partAt rfl
theorem q_partAt (rc : RC σ h D) (wf : WfS σ c) {i x y : Int} (w : wr i = i) (wx : wr x = x) (wy : wr y = y) (hi : isPl σ i x y) : rn m_X11_partAt 0 [.ref 2, .int (mI i), .int (mI x), .int (mI y), am_J] [] h = some (.inl (some (.int (mI (tpd σ i 0 (sq x y))))), h) := by
  obtain ⟨P, e, p⟩ := PA_good rc wf w hi.1
  have b := sq_b x y
  rw [b_X11_partAt_0 rc.1, e, cl_v, b_X11_partAt_5, NP_good wx wy hi.2.1 hi.2.2, cl_n, b_X11_partAt_12 wx wy p.1 hi.2.1 hi.2.2 b, (p.2.2.2.2.2.1 _ b.1 b.2).1]
theorem q_partAt_x (rc : RC σ h D) (wf : WfS σ c) {i x y : Int} (w : wr i = i) (wx : wr x = x) (wy : wr y = y) (hi : ¬ isPl σ i x y) : rn m_X11_partAt 0 [.ref 2, .int (mI i), .int (mI x), .int (mI y), am_J] [] h = some (.inr 1, hexc h) := by
  by_cases ci : 0 ≤ i ∧ i < tz σ 7
  · obtain ⟨P, e, p⟩ := PA_good rc wf w ci
    rw [b_X11_partAt_0 rc.1, e, cl_v, b_X11_partAt_5, NP_bad wx wy (fun g => hi ⟨ci, g⟩), cl_x nh_X11_partAt]
  · rw [b_X11_partAt_0 rc.1, PA_bad rc wf w ci, cl_x nh_X11_partAt]
theorem i_X11_modeAt_0 : am_i m_X11_modeAt 0 = some (0, .aload_n 0, 1, [], 0) := rfl
theorem i_X11_modeAt_1 : am_i m_X11_modeAt 1 = some (1, .iload_n 1, 1, [], 0) := rfl
theorem i_X11_modeAt_2 : am_i m_X11_modeAt 2 = some (2, .invokevirtual 223, 3, [113, 9], 0) := rfl
theorem b_X11_modeAt_0 {a0 : Nat} {x1 x2 x3 : Int} {h : am_H} (k1 : K9 h a0) : rn m_X11_modeAt 0 [.ref a0, .int (mI x1), .int (mI x2), .int (mI x3), am_J] [] h = cl m_X11_modeAt 5 [.ref a0, .int (mI x1), .int (mI x2), .int (mI x3), am_J] [] (rn m_X11_pictureAt 0 [.ref a0, .int (mI x1), am_J] [] h) := by
  refine (tq_aload_n i_X11_modeAt_0 rfl (isA_ref _) rfl).trans ?_
  refine (tq_iload_n i_X11_modeAt_1 rfl rfl).trans ?_
  exact c_X11_pictureAt i_X11_modeAt_2 (K9_s k1) (ltd d_X11_modeAt (by decide)) stOk_0 rfl
theorem i_X11_modeAt_5 : am_i m_X11_modeAt 5 = some (5, .astore 4, 2, [], 0) := rfl
theorem i_X11_modeAt_7 : am_i m_X11_modeAt 7 = some (7, .iload_n 2, 1, [], 0) := rfl
theorem i_X11_modeAt_8 : am_i m_X11_modeAt 8 = some (8, .iload_n 3, 1, [], 0) := rfl
theorem i_X11_modeAt_9 : am_i m_X11_modeAt 9 = some (9, .invokestatic 130, 3, [114], 0) := rfl
theorem b_X11_modeAt_5 {v0 v1 v4 : Value} {x2 x3 : Int} {as0 : Nat} {h : am_H} : rn m_X11_modeAt 5 [v0, v1, .int (mI x2), .int (mI x3), v4] [.ref as0] h = cl m_X11_modeAt 12 [v0, v1, .int (mI x2), .int (mI x3), .ref as0] [] (rn m_X11_refuseNoPixel 0 [.int (mI x2), .int (mI x3)] [] h) := by
  refine (tq_astore (L' := [v0, v1, .int (mI x2), .int (mI x3), .ref as0]) i_X11_modeAt_5 (isA_ref _) rfl rfl).trans ?_
  refine (tq_iload_n i_X11_modeAt_7 rfl rfl).trans ?_
  refine (tq_iload_n i_X11_modeAt_8 rfl rfl).trans ?_
  exact c_X11_refuseNoPixel i_X11_modeAt_9 (ltd d_X11_modeAt (by decide)) stOk_0 rfl
theorem i_X11_modeAt_12 : am_i m_X11_modeAt 12 = some (12, .aload 4, 2, [], 0) := rfl
theorem i_X11_modeAt_14 : am_i m_X11_modeAt 14 = some (14, .getfield 246, 3, [6, 11, 1], 0) := rfl
theorem i_X11_modeAt_17 : am_i m_X11_modeAt 17 = some (17, .iload_n 2, 1, [], 0) := rfl
theorem i_X11_modeAt_18 : am_i m_X11_modeAt 18 = some (18, .iload_n 3, 1, [], 0) := rfl
theorem i_X11_modeAt_19 : am_i m_X11_modeAt 19 = some (19, .invokestatic 243, 3, [15], 0) := rfl
theorem i_X11_modeAt_22 : am_i m_X11_modeAt 22 = some (22, .invokestatic 103, 3, [32], 0) := rfl
theorem i_X11_modeAt_25 : am_i m_X11_modeAt 25 = some (25, .ireturn, 1, [], 0) := rfl
theorem b_X11_modeAt_12 {v0 v1 : Value} {x2 x3 x2' x3' : Int} {a4 : Nat} {h : am_H} (w2 : wr x2 = x2') (w3 : wr x3 = x3') (k1 : K6 h a4) (g2 : 0 ≤ x2' ∧ x2' < 16) (g3 : 0 ≤ x3' ∧ x3' < 16) (g4 : 0 ≤ (sq x2' x3') ∧ (sq x2' x3') < (16 : Int)) : rn m_X11_modeAt 12 [v0, v1, .int (mI x2), .int (mI x3), .ref a4] [] h = some (.inl (some (.int (mI (gZ h (a4 + 4) (sq x2' x3'))))), h) := by
  refine (tq_aload i_X11_modeAt_12 rfl (isA_ref _) rfl).trans ?_
  refine (tq_getfield i_X11_modeAt_14 (K6_s k1) (gR (g_6_11 (K6_s k1)) (K6_e11 k1)) (isV_ref _) rfl).trans ?_
  refine (tq_iload_n i_X11_modeAt_17 rfl rfl).trans ?_
  refine (tq_iload_n i_X11_modeAt_18 rfl rfl).trans ?_
  refine (c_X11_squareAt i_X11_modeAt_19 (ltd d_X11_modeAt (by decide)) (stOk_1 _) rfl).trans ?_
  refine (congrArg (cl _ _ _ _) (squareAt_ok w2 w3 g2 g3)).trans ?_
  refine (cl_v _ _ _ _ _ _).trans ?_
  refine (c_X7_get i_X11_modeAt_22 (ltd d_X11_modeAt (by decide)) (isA_ref _) stOk_0 rfl).trans ?_
  refine (congrArg (cl _ _ _ _) (get_ok (wr_sq _ _) (K6_n11 k1) (K6_s11 k1) (by decide) g4)).trans ?_
  refine (cl_v _ _ _ _ _ _).trans ?_
  exact tq_ireturn i_X11_modeAt_25 r_X11_modeAt rfl
theorem q_modeAt (rc : RC σ h D) (wf : WfS σ c) {i x y : Int} (w : wr i = i) (wx : wr x = x) (wy : wr y = y) (hi : isPl σ i x y) : rn m_X11_modeAt 0 [.ref 2, .int (mI i), .int (mI x), .int (mI y), am_J] [] h = some (.inl (some (.int (mI (tpd σ i 1 (sq x y))))), h) := by
  obtain ⟨P, e, p⟩ := PA_good rc wf w hi.1
  have b := sq_b x y
  rw [b_X11_modeAt_0 rc.1, e, cl_v, b_X11_modeAt_5, NP_good wx wy hi.2.1 hi.2.2, cl_n, b_X11_modeAt_12 wx wy p.1 hi.2.1 hi.2.2 b, (p.2.2.2.2.2.1 _ b.1 b.2).2.1]
theorem q_modeAt_x (rc : RC σ h D) (wf : WfS σ c) {i x y : Int} (w : wr i = i) (wx : wr x = x) (wy : wr y = y) (hi : ¬ isPl σ i x y) : rn m_X11_modeAt 0 [.ref 2, .int (mI i), .int (mI x), .int (mI y), am_J] [] h = some (.inr 1, hexc h) := by
  by_cases ci : 0 ≤ i ∧ i < tz σ 7
  · obtain ⟨P, e, p⟩ := PA_good rc wf w ci
    rw [b_X11_modeAt_0 rc.1, e, cl_v, b_X11_modeAt_5, NP_bad wx wy (fun g => hi ⟨ci, g⟩), cl_x nh_X11_modeAt]
  · rw [b_X11_modeAt_0 rc.1, PA_bad rc wf w ci, cl_x nh_X11_modeAt]
theorem w16 {x y : Int} (hx : 0 ≤ x ∧ x < 16) (hy : 0 ≤ y ∧ y < 16) : wr (16 * y + x) = 16 * y + x ∧ 0 ≤ 16 * y + x ∧ 16 * y + x < 256 := ⟨wr_id (by omega) (by omega), by omega, by omega⟩
theorem i_X11_levelAt_0 : am_i m_X11_levelAt 0 = some (0, .aload_n 0, 1, [], 0) := rfl
theorem i_X11_levelAt_1 : am_i m_X11_levelAt 1 = some (1, .iload_n 1, 1, [], 0) := rfl
theorem i_X11_levelAt_2 : am_i m_X11_levelAt 2 = some (2, .invokevirtual 223, 3, [113, 9], 0) := rfl
theorem b_X11_levelAt_0 {a0 : Nat} {x1 x2 x3 : Int} {h : am_H} (k1 : K9 h a0) : rn m_X11_levelAt 0 [.ref a0, .int (mI x1), .int (mI x2), .int (mI x3), am_J] [] h = cl m_X11_levelAt 5 [.ref a0, .int (mI x1), .int (mI x2), .int (mI x3), am_J] [] (rn m_X11_pictureAt 0 [.ref a0, .int (mI x1), am_J] [] h) := by
  refine (tq_aload_n i_X11_levelAt_0 rfl (isA_ref _) rfl).trans ?_
  refine (tq_iload_n i_X11_levelAt_1 rfl rfl).trans ?_
  exact c_X11_pictureAt i_X11_levelAt_2 (K9_s k1) (ltd d_X11_levelAt (by decide)) stOk_0 rfl
theorem i_X11_levelAt_5 : am_i m_X11_levelAt 5 = some (5, .astore 4, 2, [], 0) := rfl
theorem i_X11_levelAt_7 : am_i m_X11_levelAt 7 = some (7, .iload_n 2, 1, [], 0) := rfl
theorem i_X11_levelAt_8 : am_i m_X11_levelAt 8 = some (8, .iload_n 3, 1, [], 0) := rfl
theorem i_X11_levelAt_9 : am_i m_X11_levelAt 9 = some (9, .invokestatic 130, 3, [114], 0) := rfl
theorem b_X11_levelAt_5 {v0 v1 v4 : Value} {x2 x3 : Int} {as0 : Nat} {h : am_H} : rn m_X11_levelAt 5 [v0, v1, .int (mI x2), .int (mI x3), v4] [.ref as0] h = cl m_X11_levelAt 12 [v0, v1, .int (mI x2), .int (mI x3), .ref as0] [] (rn m_X11_refuseNoPixel 0 [.int (mI x2), .int (mI x3)] [] h) := by
  refine (tq_astore (L' := [v0, v1, .int (mI x2), .int (mI x3), .ref as0]) i_X11_levelAt_5 (isA_ref _) rfl rfl).trans ?_
  refine (tq_iload_n i_X11_levelAt_7 rfl rfl).trans ?_
  refine (tq_iload_n i_X11_levelAt_8 rfl rfl).trans ?_
  exact c_X11_refuseNoPixel i_X11_levelAt_9 (ltd d_X11_levelAt (by decide)) stOk_0 rfl
theorem i_X11_levelAt_12 : am_i m_X11_levelAt 12 = some (12, .aload 4, 2, [], 0) := rfl
theorem i_X11_levelAt_14 : am_i m_X11_levelAt 14 = some (14, .getfield 257, 3, [6, 14, 1], 0) := rfl
theorem i_X11_levelAt_17 : am_i m_X11_levelAt 17 = some (17, .iload_n 2, 1, [], 0) := rfl
theorem i_X11_levelAt_18 : am_i m_X11_levelAt 18 = some (18, .iload_n 3, 1, [], 0) := rfl
theorem i_X11_levelAt_19 : am_i m_X11_levelAt 19 = some (19, .invokestatic 99, 3, [13], 0) := rfl
theorem i_X11_levelAt_22 : am_i m_X11_levelAt 22 = some (22, .invokestatic 103, 3, [32], 0) := rfl
theorem i_X11_levelAt_25 : am_i m_X11_levelAt 25 = some (25, .ireturn, 1, [], 0) := rfl
theorem b_X11_levelAt_12 {v0 v1 : Value} {x2 x3 : Int} {a4 : Nat} {h : am_H} (k1 : K6 h a4) (g2 : 0 ≤ (wr ((16 * x3) + x2)) ∧ (wr ((16 * x3) + x2)) < (256 : Int)) : rn m_X11_levelAt 12 [v0, v1, .int (mI x2), .int (mI x3), .ref a4] [] h = some (.inl (some (.int (mI (gZ h (a4 + 7) (wr ((16 * x3) + x2)))))), h) := by
  refine (tq_aload i_X11_levelAt_12 rfl (isA_ref _) rfl).trans ?_
  refine (tq_getfield i_X11_levelAt_14 (K6_s k1) (gR (g_6_14 (K6_s k1)) (K6_e14 k1)) (isV_ref _) rfl).trans ?_
  refine (tq_iload_n i_X11_levelAt_17 rfl rfl).trans ?_
  refine (tq_iload_n i_X11_levelAt_18 rfl rfl).trans ?_
  refine (c_X11_placeOf i_X11_levelAt_19 (ltd d_X11_levelAt (by decide)) (stOk_1 _) rfl).trans ?_
  refine (congrArg (cl _ _ _ _) (b_X11_placeOf_0)).trans ?_
  refine (cl_v _ _ _ _ _ _).trans ?_
  refine (c_X7_get i_X11_levelAt_22 (ltd d_X11_levelAt (by decide)) (isA_ref _) stOk_0 rfl).trans ?_
  refine (congrArg (cl _ _ _ _) (get_ok rfl (K6_n14 k1) (K6_s14 k1) (by decide) g2)).trans ?_
  refine (cl_v _ _ _ _ _ _).trans ?_
  exact tq_ireturn i_X11_levelAt_25 r_X11_levelAt rfl
theorem q_levelAt (rc : RC σ h D) (wf : WfS σ c) {i x y : Int} (w : wr i = i) (wx : wr x = x) (wy : wr y = y) (hi : isPl σ i x y) : rn m_X11_levelAt 0 [.ref 2, .int (mI i), .int (mI x), .int (mI y), am_J] [] h = some (.inl (some (.int (mI (tpd σ i 4 (16 * y + x))))), h) := by
  obtain ⟨P, e, p⟩ := PA_good rc wf w hi.1
  obtain ⟨b0, b1, b2⟩ := w16 hi.2.1 hi.2.2
  rw [b_X11_levelAt_0 rc.1, e, cl_v, b_X11_levelAt_5, NP_good wx wy hi.2.1 hi.2.2, cl_n, b_X11_levelAt_12 p.1 (by rw [b0]; exact ⟨b1, b2⟩), b0, (p.2.2.2.2.2.2 _ b1 b2).1]
theorem q_levelAt_x (rc : RC σ h D) (wf : WfS σ c) {i x y : Int} (w : wr i = i) (wx : wr x = x) (wy : wr y = y) (hi : ¬ isPl σ i x y) : rn m_X11_levelAt 0 [.ref 2, .int (mI i), .int (mI x), .int (mI y), am_J] [] h = some (.inr 1, hexc h) := by
  by_cases ci : 0 ≤ i ∧ i < tz σ 7
  · obtain ⟨P, e, p⟩ := PA_good rc wf w ci
    rw [b_X11_levelAt_0 rc.1, e, cl_v, b_X11_levelAt_5, NP_bad wx wy (fun g => hi ⟨ci, g⟩), cl_x nh_X11_levelAt]
  · rw [b_X11_levelAt_0 rc.1, PA_bad rc wf w ci, cl_x nh_X11_levelAt]
theorem i_X11_built_0 : am_i m_X11_built 0 = some (0, .aload_n 0, 1, [], 0) := rfl
theorem i_X11_built_1 : am_i m_X11_built 1 = some (1, .iload_n 1, 1, [], 0) := rfl
theorem i_X11_built_2 : am_i m_X11_built 2 = some (2, .invokevirtual 223, 3, [113, 9], 0) := rfl
theorem b_X11_built_0 {a0 : Nat} {x1 x2 x3 : Int} {h : am_H} (k1 : K9 h a0) : rn m_X11_built 0 [.ref a0, .int (mI x1), .int (mI x2), .int (mI x3), am_J] [] h = cl m_X11_built 5 [.ref a0, .int (mI x1), .int (mI x2), .int (mI x3), am_J] [] (rn m_X11_pictureAt 0 [.ref a0, .int (mI x1), am_J] [] h) := by
  refine (tq_aload_n i_X11_built_0 rfl (isA_ref _) rfl).trans ?_
  refine (tq_iload_n i_X11_built_1 rfl rfl).trans ?_
  exact c_X11_pictureAt i_X11_built_2 (K9_s k1) (ltd d_X11_built (by decide)) stOk_0 rfl
theorem i_X11_built_5 : am_i m_X11_built 5 = some (5, .astore 4, 2, [], 0) := rfl
theorem i_X11_built_7 : am_i m_X11_built 7 = some (7, .iload_n 2, 1, [], 0) := rfl
theorem i_X11_built_8 : am_i m_X11_built 8 = some (8, .iload_n 3, 1, [], 0) := rfl
theorem i_X11_built_9 : am_i m_X11_built 9 = some (9, .invokestatic 130, 3, [114], 0) := rfl
theorem b_X11_built_5 {v0 v1 v4 : Value} {x2 x3 : Int} {as0 : Nat} {h : am_H} : rn m_X11_built 5 [v0, v1, .int (mI x2), .int (mI x3), v4] [.ref as0] h = cl m_X11_built 12 [v0, v1, .int (mI x2), .int (mI x3), .ref as0] [] (rn m_X11_refuseNoPixel 0 [.int (mI x2), .int (mI x3)] [] h) := by
  refine (tq_astore (L' := [v0, v1, .int (mI x2), .int (mI x3), .ref as0]) i_X11_built_5 (isA_ref _) rfl rfl).trans ?_
  refine (tq_iload_n i_X11_built_7 rfl rfl).trans ?_
  refine (tq_iload_n i_X11_built_8 rfl rfl).trans ?_
  exact c_X11_refuseNoPixel i_X11_built_9 (ltd d_X11_built (by decide)) stOk_0 rfl
theorem i_X11_built_12 : am_i m_X11_built 12 = some (12, .aload 4, 2, [], 0) := rfl
theorem i_X11_built_14 : am_i m_X11_built 14 = some (14, .getfield 260, 3, [6, 15, 1], 0) := rfl
theorem i_X11_built_17 : am_i m_X11_built 17 = some (17, .iload_n 2, 1, [], 0) := rfl
theorem i_X11_built_18 : am_i m_X11_built 18 = some (18, .iload_n 3, 1, [], 0) := rfl
theorem i_X11_built_19 : am_i m_X11_built 19 = some (19, .invokestatic 99, 3, [13], 0) := rfl
theorem i_X11_built_22 : am_i m_X11_built 22 = some (22, .invokestatic 103, 3, [32], 0) := rfl
theorem i_X11_built_25 : am_i m_X11_built 25 = some (25, .ireturn, 1, [], 0) := rfl
theorem b_X11_built_12 {v0 v1 : Value} {x2 x3 : Int} {a4 : Nat} {h : am_H} (k1 : K6 h a4) (g2 : 0 ≤ (wr ((16 * x3) + x2)) ∧ (wr ((16 * x3) + x2)) < (256 : Int)) : rn m_X11_built 12 [v0, v1, .int (mI x2), .int (mI x3), .ref a4] [] h = some (.inl (some (.int (mI (gZ h (a4 + 8) (wr ((16 * x3) + x2)))))), h) := by
  refine (tq_aload i_X11_built_12 rfl (isA_ref _) rfl).trans ?_
  refine (tq_getfield i_X11_built_14 (K6_s k1) (gR (g_6_15 (K6_s k1)) (K6_e15 k1)) (isV_ref _) rfl).trans ?_
  refine (tq_iload_n i_X11_built_17 rfl rfl).trans ?_
  refine (tq_iload_n i_X11_built_18 rfl rfl).trans ?_
  refine (c_X11_placeOf i_X11_built_19 (ltd d_X11_built (by decide)) (stOk_1 _) rfl).trans ?_
  refine (congrArg (cl _ _ _ _) (b_X11_placeOf_0)).trans ?_
  refine (cl_v _ _ _ _ _ _).trans ?_
  refine (c_X7_get i_X11_built_22 (ltd d_X11_built (by decide)) (isA_ref _) stOk_0 rfl).trans ?_
  refine (congrArg (cl _ _ _ _) (get_ok rfl (K6_n15 k1) (K6_s15 k1) (by decide) g2)).trans ?_
  refine (cl_v _ _ _ _ _ _).trans ?_
  exact tq_ireturn i_X11_built_25 r_X11_built rfl
theorem q_built (rc : RC σ h D) (wf : WfS σ c) {i x y : Int} (w : wr i = i) (wx : wr x = x) (wy : wr y = y) (hi : isPl σ i x y) : rn m_X11_built 0 [.ref 2, .int (mI i), .int (mI x), .int (mI y), am_J] [] h = some (.inl (some (.int (mI (tpd σ i 5 (16 * y + x))))), h) := by
  obtain ⟨P, e, p⟩ := PA_good rc wf w hi.1
  obtain ⟨b0, b1, b2⟩ := w16 hi.2.1 hi.2.2
  rw [b_X11_built_0 rc.1, e, cl_v, b_X11_built_5, NP_good wx wy hi.2.1 hi.2.2, cl_n, b_X11_built_12 p.1 (by rw [b0]; exact ⟨b1, b2⟩), b0, (p.2.2.2.2.2.2 _ b1 b2).2]
theorem q_built_x (rc : RC σ h D) (wf : WfS σ c) {i x y : Int} (w : wr i = i) (wx : wr x = x) (wy : wr y = y) (hi : ¬ isPl σ i x y) : rn m_X11_built 0 [.ref 2, .int (mI i), .int (mI x), .int (mI y), am_J] [] h = some (.inr 1, hexc h) := by
  by_cases ci : 0 ≤ i ∧ i < tz σ 7
  · obtain ⟨P, e, p⟩ := PA_good rc wf w ci
    rw [b_X11_built_0 rc.1, e, cl_v, b_X11_built_5, NP_bad wx wy (fun g => hi ⟨ci, g⟩), cl_x nh_X11_built]
  · rw [b_X11_built_0 rc.1, PA_bad rc wf w ci, cl_x nh_X11_built]
theorem i_X11_vectorAt_0 : am_i m_X11_vectorAt 0 = some (0, .aload_n 0, 1, [], 0) := rfl
theorem i_X11_vectorAt_1 : am_i m_X11_vectorAt 1 = some (1, .iload_n 1, 1, [], 0) := rfl
theorem i_X11_vectorAt_2 : am_i m_X11_vectorAt 2 = some (2, .invokevirtual 223, 3, [113, 9], 0) := rfl
theorem b_X11_vectorAt_0 {a0 : Nat} {x1 x2 x3 x4 : Int} {h : am_H} (k1 : K9 h a0) : rn m_X11_vectorAt 0 [.ref a0, .int (mI x1), .int (mI x2), .int (mI x3), .int (mI x4), am_J, am_J] [] h = cl m_X11_vectorAt 5 [.ref a0, .int (mI x1), .int (mI x2), .int (mI x3), .int (mI x4), am_J, am_J] [] (rn m_X11_pictureAt 0 [.ref a0, .int (mI x1), am_J] [] h) := by
  refine (tq_aload_n i_X11_vectorAt_0 rfl (isA_ref _) rfl).trans ?_
  refine (tq_iload_n i_X11_vectorAt_1 rfl rfl).trans ?_
  exact c_X11_pictureAt i_X11_vectorAt_2 (K9_s k1) (ltd d_X11_vectorAt (by decide)) stOk_0 rfl
theorem i_X11_vectorAt_5 : am_i m_X11_vectorAt 5 = some (5, .astore 5, 2, [], 0) := rfl
theorem i_X11_vectorAt_7 : am_i m_X11_vectorAt 7 = some (7, .iload_n 2, 1, [], 0) := rfl
theorem i_X11_vectorAt_8 : am_i m_X11_vectorAt 8 = some (8, .iload_n 3, 1, [], 0) := rfl
theorem i_X11_vectorAt_9 : am_i m_X11_vectorAt 9 = some (9, .invokestatic 130, 3, [114], 0) := rfl
theorem b_X11_vectorAt_5 {v0 v1 v5 v6 : Value} {x2 x3 x4 : Int} {as0 : Nat} {h : am_H} : rn m_X11_vectorAt 5 [v0, v1, .int (mI x2), .int (mI x3), .int (mI x4), v5, v6] [.ref as0] h = cl m_X11_vectorAt 12 [v0, v1, .int (mI x2), .int (mI x3), .int (mI x4), .ref as0, v6] [] (rn m_X11_refuseNoPixel 0 [.int (mI x2), .int (mI x3)] [] h) := by
  refine (tq_astore (L' := [v0, v1, .int (mI x2), .int (mI x3), .int (mI x4), .ref as0, v6]) i_X11_vectorAt_5 (isA_ref _) rfl rfl).trans ?_
  refine (tq_iload_n i_X11_vectorAt_7 rfl rfl).trans ?_
  refine (tq_iload_n i_X11_vectorAt_8 rfl rfl).trans ?_
  exact c_X11_refuseNoPixel i_X11_vectorAt_9 (ltd d_X11_vectorAt (by decide)) stOk_0 rfl
theorem i_X11_vectorAt_12 : am_i m_X11_vectorAt 12 = some (12, .iload 4, 2, [], 0) := rfl
theorem i_X11_vectorAt_14 : am_i m_X11_vectorAt 14 = some (14, .ifCond .eq 11, 3, [], 0) := rfl
theorem i_X11_vectorAt_17 : am_i m_X11_vectorAt 17 = some (17, .aload 5, 2, [], 0) := rfl
theorem i_X11_vectorAt_19 : am_i m_X11_vectorAt 19 = some (19, .getfield 249, 3, [6, 13, 1], 0) := rfl
theorem i_X11_vectorAt_22 : am_i m_X11_vectorAt 22 = some (22, .goto 8, 3, [], 0) := rfl
theorem i_X11_vectorAt_25 : am_i m_X11_vectorAt 25 = some (25, .aload 5, 2, [], 0) := rfl
theorem i_X11_vectorAt_27 : am_i m_X11_vectorAt 27 = some (27, .getfield 252, 3, [6, 12, 1], 0) := rfl
theorem i_X11_vectorAt_30 : am_i m_X11_vectorAt 30 = some (30, .iload_n 2, 1, [], 0) := rfl
theorem i_X11_vectorAt_31 : am_i m_X11_vectorAt 31 = some (31, .iload_n 3, 1, [], 0) := rfl
theorem i_X11_vectorAt_32 : am_i m_X11_vectorAt 32 = some (32, .invokestatic 243, 3, [15], 0) := rfl
theorem i_X11_vectorAt_35 : am_i m_X11_vectorAt 35 = some (35, .invokestatic 103, 3, [32], 0) := rfl
theorem i_X11_vectorAt_38 : am_i m_X11_vectorAt 38 = some (38, .istore 6, 2, [], 0) := rfl
theorem i_X11_vectorAt_40 : am_i m_X11_vectorAt 40 = some (40, .iload 6, 2, [], 0) := rfl
theorem i_X11_vectorAt_42 : am_i m_X11_vectorAt 42 = some (42, .iconst (-1), 1, [], -1) := rfl
theorem i_X11_vectorAt_43 : am_i m_X11_vectorAt 43 = some (43, .if_icmp .ne 13, 3, [], 0) := rfl
theorem i_X11_vectorAt_46 : am_i m_X11_vectorAt 46 = some (46, .new 218, 3, [4, 0], 0) := rfl
theorem i_X11_vectorAt_56 : am_i m_X11_vectorAt 56 = some (56, .iload 6, 2, [], 0) := rfl
theorem i_X11_vectorAt_58 : am_i m_X11_vectorAt 58 = some (58, .ireturn, 1, [], 0) := rfl
theorem b_X11_vectorAt_12 {v0 v1 v6 : Value} {x2 x3 x4 x2' x3' x4' : Int} {a5 : Nat} {h : am_H} (w2 : wr x2 = x2') (w3 : wr x3 = x3') (w4 : wr x4 = x4') (k1 : K6 h a5) (g2 : (x4' = 0) → (0 ≤ x2' ∧ x2' < 16)) (g3 : (x4' = 0) → (0 ≤ x3' ∧ x3' < 16)) (g4 : (x4' = 0) → (0 ≤ (sq x2' x3') ∧ (sq x2' x3') < (16 : Int))) (g5 : (¬ (x4' = 0)) → (0 ≤ x2' ∧ x2' < 16)) (g6 : (¬ (x4' = 0)) → (0 ≤ x3' ∧ x3' < 16)) (g7 : (¬ (x4' = 0)) → (0 ≤ (sq x2' x3') ∧ (sq x2' x3') < (16 : Int))) : rn m_X11_vectorAt 12 [v0, v1, .int (mI x2), .int (mI x3), .int (mI x4), .ref a5, v6] [] h = if x4' = 0 then if ¬ (gZ h (a5 + 5) (sq x2' x3')) = (-1) then some (.inl (some (.int (mI (gZ h (a5 + 5) (sq x2' x3'))))), h) else some (.inr 4, hexc h) else if ¬ (gZ h (a5 + 6) (sq x2' x3')) = (-1) then some (.inl (some (.int (mI (gZ h (a5 + 6) (sq x2' x3'))))), h) else some (.inr 4, hexc h) := by
  refine (tq_iload i_X11_vectorAt_12 rfl rfl).trans ?_
  refine (tq_if_eq (pt := 25) i_X11_vectorAt_14 w4 (by decide) rfl).trans ?_
  refine ite_congr rfl (fun c1 => ?_) (fun c1 => ?_)
  · refine (tq_aload i_X11_vectorAt_25 rfl (isA_ref _) rfl).trans ?_
    refine (tq_getfield i_X11_vectorAt_27 (K6_s k1) (gR (g_6_12 (K6_s k1)) (K6_e12 k1)) (isV_ref _) rfl).trans ?_
    refine (tq_iload_n i_X11_vectorAt_30 rfl rfl).trans ?_
    refine (tq_iload_n i_X11_vectorAt_31 rfl rfl).trans ?_
    refine (c_X11_squareAt i_X11_vectorAt_32 (ltd d_X11_vectorAt (by decide)) (stOk_1 _) rfl).trans ?_
    refine (congrArg (cl _ _ _ _) (squareAt_ok w2 w3 (g2 c1) (g3 c1))).trans ?_
    refine (cl_v _ _ _ _ _ _).trans ?_
    refine (c_X7_get i_X11_vectorAt_35 (ltd d_X11_vectorAt (by decide)) (isA_ref _) stOk_0 rfl).trans ?_
    refine (congrArg (cl _ _ _ _) (get_ok (wr_sq _ _) (K6_n12 k1) (K6_s12 k1) (by decide) (g4 c1))).trans ?_
    refine (cl_v _ _ _ _ _ _).trans ?_
    refine (tq_istore (L' := [v0, v1, .int (mI x2), .int (mI x3), .int (mI x4), .ref a5, .int (mI (gZ h (a5 + 5) (sq x2' x3')))]) i_X11_vectorAt_38 rfl rfl).trans ?_
    refine (tq_iload i_X11_vectorAt_40 rfl rfl).trans ?_
    refine (tq_iconst i_X11_vectorAt_42 rfl).trans ?_
    refine (tq_icmp_ne (pt := 56) i_X11_vectorAt_43 (wr_gZ _ _ _) w_m1 (by decide) rfl).trans ?_
    refine ite_congr rfl (fun c2 => ?_) (fun c2 => ?_)
    · refine (tq_iload i_X11_vectorAt_56 rfl rfl).trans ?_
      exact tq_ireturn i_X11_vectorAt_58 r_X11_vectorAt rfl
    · exact tq_newx i_X11_vectorAt_46
  · refine (tq_aload i_X11_vectorAt_17 rfl (isA_ref _) rfl).trans ?_
    refine (tq_getfield i_X11_vectorAt_19 (K6_s k1) (gR (g_6_13 (K6_s k1)) (K6_e13 k1)) (isV_ref _) rfl).trans ?_
    refine (tq_goto (pc' := 30) i_X11_vectorAt_22 (by decide)).trans ?_
    refine (tq_iload_n i_X11_vectorAt_30 rfl rfl).trans ?_
    refine (tq_iload_n i_X11_vectorAt_31 rfl rfl).trans ?_
    refine (c_X11_squareAt i_X11_vectorAt_32 (ltd d_X11_vectorAt (by decide)) (stOk_1 _) rfl).trans ?_
    refine (congrArg (cl _ _ _ _) (squareAt_ok w2 w3 (g5 c1) (g6 c1))).trans ?_
    refine (cl_v _ _ _ _ _ _).trans ?_
    refine (c_X7_get i_X11_vectorAt_35 (ltd d_X11_vectorAt (by decide)) (isA_ref _) stOk_0 rfl).trans ?_
    refine (congrArg (cl _ _ _ _) (get_ok (wr_sq _ _) (K6_n13 k1) (K6_s13 k1) (by decide) (g7 c1))).trans ?_
    refine (cl_v _ _ _ _ _ _).trans ?_
    refine (tq_istore (L' := [v0, v1, .int (mI x2), .int (mI x3), .int (mI x4), .ref a5, .int (mI (gZ h (a5 + 6) (sq x2' x3')))]) i_X11_vectorAt_38 rfl rfl).trans ?_
    refine (tq_iload i_X11_vectorAt_40 rfl rfl).trans ?_
    refine (tq_iconst i_X11_vectorAt_42 rfl).trans ?_
    refine (tq_icmp_ne (pt := 56) i_X11_vectorAt_43 (wr_gZ _ _ _) w_m1 (by decide) rfl).trans ?_
    refine ite_congr rfl (fun c3 => ?_) (fun c3 => ?_)
    · refine (tq_iload i_X11_vectorAt_56 rfl rfl).trans ?_
      exact tq_ireturn i_X11_vectorAt_58 r_X11_vectorAt rfl
    · exact tq_newx i_X11_vectorAt_46
/-- a vector that a part uses -/
def isVc (σ : St) (i x y b : Int) : Prop := (if b = 0 then tpd σ i 2 (sq x y) else tpd σ i 3 (sq x y)) ≠ -1
theorem q_vectorAt (rc : RC σ h D) (wf : WfS σ c) {i x y b : Int} (w : wr i = i) (wx : wr x = x) (wy : wr y = y) (wb : wr b = b) (hi : isPl σ i x y) : (isVc σ i x y b → rn m_X11_vectorAt 0 [.ref 2, .int (mI i), .int (mI x), .int (mI y), .int (mI b), am_J, am_J] [] h = some (.inl (some (.int (mI (if b = 0 then tpd σ i 2 (sq x y) else tpd σ i 3 (sq x y))))), h)) ∧ (¬ isVc σ i x y b → rn m_X11_vectorAt 0 [.ref 2, .int (mI i), .int (mI x), .int (mI y), .int (mI b), am_J, am_J] [] h = some (.inr 4, hexc h)) := by
  obtain ⟨P, e, p⟩ := PA_good rc wf w hi.1
  have q := sq_b x y
  have sqs := p.2.2.2.2.2.1 _ q.1 q.2
  rw [b_X11_vectorAt_0 rc.1, e, cl_v, b_X11_vectorAt_5, NP_good wx wy hi.2.1 hi.2.2, cl_n, b_X11_vectorAt_12 wx wy wb p.1 (fun _ => hi.2.1) (fun _ => hi.2.2) (fun _ => q) (fun _ => hi.2.1) (fun _ => hi.2.2) (fun _ => q), sqs.2.2.1, sqs.2.2.2]
  unfold isVc
  by_cases cb : b = 0
  · rw [if_pos cb, if_pos cb]
    exact ⟨fun g => if_pos g, fun g => if_neg g⟩
  · rw [if_neg cb, if_neg cb]
    exact ⟨fun g => if_pos g, fun g => if_neg g⟩
theorem q_vectorAt_x (rc : RC σ h D) (wf : WfS σ c) {i x y b : Int} (w : wr i = i) (wx : wr x = x) (wy : wr y = y) (hi : ¬ isPl σ i x y) : rn m_X11_vectorAt 0 [.ref 2, .int (mI i), .int (mI x), .int (mI y), .int (mI b), am_J, am_J] [] h = some (.inr 1, hexc h) := by
  by_cases ci : 0 ≤ i ∧ i < tz σ 7
  · obtain ⟨P, e, p⟩ := PA_good rc wf w ci
    rw [b_X11_vectorAt_0 rc.1, e, cl_v, b_X11_vectorAt_5, NP_bad wx wy (fun g => hi ⟨ci, g⟩), cl_x nh_X11_vectorAt]
  · rw [b_X11_vectorAt_0 rc.1, PA_bad rc wf w ci, cl_x nh_X11_vectorAt]
theorem i_X11_pixel_0 : am_i m_X11_pixel 0 = some (0, .iload_n 1, 1, [], 0) := rfl
theorem i_X11_pixel_1 : am_i m_X11_pixel 1 = some (1, .iload_n 2, 1, [], 0) := rfl
theorem i_X11_pixel_2 : am_i m_X11_pixel 2 = some (2, .invokestatic 130, 3, [114], 0) := rfl
theorem b_X11_pixel_0 {a0 : Nat} {x1 x2 : Int} {h : am_H} : rn m_X11_pixel 0 [.ref a0, .int (mI x1), .int (mI x2)] [] h = cl m_X11_pixel 5 [.ref a0, .int (mI x1), .int (mI x2)] [] (rn m_X11_refuseNoPixel 0 [.int (mI x1), .int (mI x2)] [] h) := by
  refine (tq_iload_n i_X11_pixel_0 rfl rfl).trans ?_
  refine (tq_iload_n i_X11_pixel_1 rfl rfl).trans ?_
  exact c_X11_refuseNoPixel i_X11_pixel_2 (ltd d_X11_pixel (by decide)) stOk_0 rfl
theorem i_X11_pixel_5 : am_i m_X11_pixel 5 = some (5, .aload_n 0, 1, [], 0) := rfl
theorem i_X11_pixel_6 : am_i m_X11_pixel 6 = some (6, .getfield 9, 3, [9, 0, 0], 0) := rfl
theorem i_X11_pixel_9 : am_i m_X11_pixel 9 = some (9, .iload_n 1, 1, [], 0) := rfl
theorem i_X11_pixel_10 : am_i m_X11_pixel 10 = some (10, .iload_n 2, 1, [], 0) := rfl
theorem i_X11_pixel_11 : am_i m_X11_pixel 11 = some (11, .invokestatic 99, 3, [13], 0) := rfl
theorem i_X11_pixel_14 : am_i m_X11_pixel 14 = some (14, .invokestatic 103, 3, [32], 0) := rfl
theorem i_X11_pixel_17 : am_i m_X11_pixel 17 = some (17, .ireturn, 1, [], 0) := rfl
theorem b_X11_pixel_5 {a0 : Nat} {x1 x2 : Int} {h : am_H} (k1 : K9 h a0) (g2 : 0 ≤ (wr ((16 * x2) + x1)) ∧ (wr ((16 * x2) + x1)) < (256 : Int)) : rn m_X11_pixel 5 [.ref a0, .int (mI x1), .int (mI x2)] [] h = some (.inl (some (.int (mI (gZ h (a0 + 1) (wr ((16 * x2) + x1)))))), h) := by
  refine (tq_aload_n i_X11_pixel_5 rfl (isA_ref _) rfl).trans ?_
  refine (tq_getfield i_X11_pixel_6 (K9_s k1) (gR (g_9_0 (K9_s k1)) (K9_e0 k1)) (isV_ref _) rfl).trans ?_
  refine (tq_iload_n i_X11_pixel_9 rfl rfl).trans ?_
  refine (tq_iload_n i_X11_pixel_10 rfl rfl).trans ?_
  refine (c_X11_placeOf i_X11_pixel_11 (ltd d_X11_pixel (by decide)) (stOk_1 _) rfl).trans ?_
  refine (congrArg (cl _ _ _ _) (b_X11_placeOf_0)).trans ?_
  refine (cl_v _ _ _ _ _ _).trans ?_
  refine (c_X7_get i_X11_pixel_14 (ltd d_X11_pixel (by decide)) (isA_ref _) stOk_0 rfl).trans ?_
  refine (congrArg (cl _ _ _ _) (get_ok rfl (K9_n0 k1) (K9_s0 k1) (by decide) g2)).trans ?_
  refine (cl_v _ _ _ _ _ _).trans ?_
  exact tq_ireturn i_X11_pixel_17 r_X11_pixel rfl
theorem q_pixel (rc : RC σ h D) {x y : Int} (wx : wr x = x) (wy : wr y = y) (hi : (0 ≤ x ∧ x < 16) ∧ 0 ≤ y ∧ y < 16) : rn m_X11_pixel 0 [.ref 2, .int (mI x), .int (mI y)] [] h = some (.inl (some (.int (mI (tc σ (16 * y + x))))), h) := by
  obtain ⟨b0, b1, b2⟩ := w16 hi.1 hi.2
  rw [b_X11_pixel_0, NP_good wx wy hi.1 hi.2, cl_n, b_X11_pixel_5 rc.1 (by rw [b0]; exact ⟨b1, b2⟩), b0]
  rw [← rc.2.2.1]
theorem q_pixel_x {x y : Int} (wx : wr x = x) (wy : wr y = y) (hi : ¬ ((0 ≤ x ∧ x < 16) ∧ 0 ≤ y ∧ y < 16)) : rn m_X11_pixel 0 [.ref 2, .int (mI x), .int (mI y)] [] h = some (.inr 1, hexc h) := by
  rw [b_X11_pixel_0, NP_bad wx wy hi, cl_x nh_X11_pixel]
theorem i_X11_keptAt_0 : am_i m_X11_keptAt 0 = some (0, .aload_n 0, 1, [], 0) := rfl
theorem i_X11_keptAt_1 : am_i m_X11_keptAt 1 = some (1, .iload_n 1, 1, [], 0) := rfl
theorem i_X11_keptAt_2 : am_i m_X11_keptAt 2 = some (2, .invokevirtual 152, 3, [8, 9], 0) := rfl
theorem i_X11_keptAt_5 : am_i m_X11_keptAt 5 = some (5, .ifCond .ne 13, 3, [], 0) := rfl
theorem i_X11_keptAt_8 : am_i m_X11_keptAt 8 = some (8, .new 155, 3, [1, 0], 0) := rfl
theorem i_X11_keptAt_18 : am_i m_X11_keptAt 18 = some (18, .aload_n 0, 1, [], 0) := rfl
theorem i_X11_keptAt_19 : am_i m_X11_keptAt 19 = some (19, .getfield 51, 3, [9, 10, 0], 0) := rfl
theorem i_X11_keptAt_22 : am_i m_X11_keptAt 22 = some (22, .iload_n 1, 1, [], 0) := rfl
theorem i_X11_keptAt_23 : am_i m_X11_keptAt 23 = some (23, .invokestatic 103, 3, [32], 0) := rfl
theorem i_X11_keptAt_26 : am_i m_X11_keptAt 26 = some (26, .ireturn, 1, [], 0) := rfl
theorem b_X11_keptAt_0 {a0 : Nat} {x1 x1' : Int} {h : am_H} (w1 : wr x1 = x1') (k1 : K9 h a0) (g2 : ((¬ (x1' < 0) ∧ (¬ ((fZ h a0 11) ≤ x1')))) → (0 ≤ x1' ∧ x1' < (3 : Int))) : rn m_X11_keptAt 0 [.ref a0, .int (mI x1)] [] h = if (¬ (x1' < 0) ∧ (¬ ((fZ h a0 11) ≤ x1'))) then some (.inl (some (.int (mI (gZ h (a0 + 14) x1')))), h) else some (.inr 1, hexc h) := by
  refine (tq_aload_n i_X11_keptAt_0 rfl (isA_ref _) rfl).trans ?_
  refine (tq_iload_n i_X11_keptAt_1 rfl rfl).trans ?_
  refine (c_X11_isKeptPlace i_X11_keptAt_2 (K9_s k1) (ltd d_X11_keptAt (by decide)) stOk_0 rfl).trans ?_
  refine (congrArg (cl _ _ _ _) (b_X11_isKeptPlace_0 w1 k1)).trans ?_
  refine (cl_v _ _ _ _ _ _).trans ?_
  refine (tq_ifb_ne (pt := 18) i_X11_keptAt_5 (by decide) rfl).trans ?_
  refine ite_congr rfl (fun c1 => ?_) (fun c1 => ?_)
  · refine (tq_aload_n i_X11_keptAt_18 rfl (isA_ref _) rfl).trans ?_
    refine (tq_getfield i_X11_keptAt_19 (K9_s k1) (gR (g_9_10 (K9_s k1)) (K9_e10 k1)) (isV_ref _) rfl).trans ?_
    refine (tq_iload_n i_X11_keptAt_22 rfl rfl).trans ?_
    refine (c_X7_get i_X11_keptAt_23 (ltd d_X11_keptAt (by decide)) (isA_ref _) stOk_0 rfl).trans ?_
    refine (congrArg (cl _ _ _ _) (get_ok w1 (K9_n10 k1) (K9_s10 k1) (by decide) (g2 c1))).trans ?_
    refine (cl_v _ _ _ _ _ _).trans ?_
    exact tq_ireturn i_X11_keptAt_26 r_X11_keptAt rfl
  · exact tq_newx i_X11_keptAt_8
theorem q_keptAt (rc : RC σ h D) (wf : WfS σ c) {j : Int} (w : wr j = j) : (0 ≤ j ∧ j < tz σ 8 → rn m_X11_keptAt 0 [.ref 2, .int (mI j)] [] h = some (.inl (some (.int (mI (tk σ j)))), h)) ∧ (¬ (0 ≤ j ∧ j < tz σ 8) → rn m_X11_keptAt 0 [.ref 2, .int (mI j)] [] h = some (.inr 1, hexc h)) := by
  have e : fZ h 2 11 = tz σ 8 := rc.2.2.2.1.2.2.2
  have b := wf.2.1.2.1
  have st := b_X11_keptAt_0 (a0 := 2) (x1 := j) (h := h) w rc.1 (fun g => by rw [e] at g; omega)
  rw [e] at st
  refine ⟨fun g => ?_, fun g => ?_⟩
  · rw [if_pos (by omega)] at st
    rw [← rc.2.2.2.2.1 j g.1 g.2]
    exact st
  · rw [if_neg (by omega)] at st
    exact st
theorem i_X11_bucket_0 : am_i m_X11_bucket 0 = some (0, .aload_n 0, 1, [], 0) := rfl
theorem i_X11_bucket_1 : am_i m_X11_bucket 1 = some (1, .getfield 33, 3, [9, 6, 0], 0) := rfl
theorem i_X11_bucket_4 : am_i m_X11_bucket 4 = some (4, .invokevirtual 141, 3, [3, 0], 0) := rfl
theorem i_X11_bucket_7 : am_i m_X11_bucket 7 = some (7, .ifCond .ne 13, 3, [], 0) := rfl
theorem i_X11_bucket_10 : am_i m_X11_bucket 10 = some (10, .new 218, 3, [4, 0], 0) := rfl
theorem i_X11_bucket_20 : am_i m_X11_bucket 20 = some (20, .aload_n 0, 1, [], 0) := rfl
theorem i_X11_bucket_21 : am_i m_X11_bucket 21 = some (21, .getfield 33, 3, [9, 6, 0], 0) := rfl
theorem i_X11_bucket_24 : am_i m_X11_bucket 24 = some (24, .getfield 145, 3, [0, 2, 1], 0) := rfl
theorem i_X11_bucket_27 : am_i m_X11_bucket 27 = some (27, .ireturn, 1, [], 0) := rfl
theorem b_X11_bucket_0 {a0 : Nat} {h : am_H} (k1 : K9 h a0) : rn m_X11_bucket 0 [.ref a0] [] h = if (¬ ((fZ h (a0 + 3) 0) ≤ 0)) then some (.inl (some (.int (mI (fZ h (a0 + 3) 2)))), h) else some (.inr 4, hexc h) := by
  refine (tq_aload_n i_X11_bucket_0 rfl (isA_ref _) rfl).trans ?_
  refine (tq_getfield i_X11_bucket_1 (K9_s k1) (gR (g_9_6 (K9_s k1)) (K9_e6 k1)) (isV_ref _) rfl).trans ?_
  refine (c_X0_isThere i_X11_bucket_4 (K0_s (K9_k6 k1)) (ltd d_X11_bucket (by decide)) stOk_0 rfl).trans ?_
  refine (congrArg (cl _ _ _ _) (b_X0_isThere_0 (K9_k6 k1))).trans ?_
  refine (cl_v _ _ _ _ _ _).trans ?_
  refine (tq_ifb_ne (pt := 20) i_X11_bucket_7 (by decide) rfl).trans ?_
  refine ite_congr rfl (fun c1 => ?_) (fun c1 => ?_)
  · refine (tq_aload_n i_X11_bucket_20 rfl (isA_ref _) rfl).trans ?_
    refine (tq_getfield i_X11_bucket_21 (K9_s k1) (gR (g_9_6 (K9_s k1)) (K9_e6 k1)) (isV_ref _) rfl).trans ?_
    refine (tq_getfield i_X11_bucket_24 (K0_s (K9_k6 k1)) (g_0_2 (K0_s (K9_k6 k1))) (isV_I _) rfl).trans ?_
    exact tq_ireturn i_X11_bucket_27 r_X11_bucket rfl
  · exact tq_newx i_X11_bucket_10
theorem q_bucket (rc : RC σ h D) : (0 < tz σ 4 → rn m_X11_bucket 0 [.ref 2] [] h = some (.inl (some (.int (mI (tz σ 6)))), h)) ∧ (¬ 0 < tz σ 4 → rn m_X11_bucket 0 [.ref 2] [] h = some (.inr 4, hexc h)) := by
  have e : fZ h 5 0 = tz σ 4 := rc.2.2.2.1.2.1.1
  have e2 : fZ h 5 2 = tz σ 6 := rc.2.2.2.1.2.1.2.2
  have st := b_X11_bucket_0 (a0 := 2) (h := h) rc.1
  simp only [Nat.reduceAdd] at st
  rw [e, e2] at st
  exact ⟨fun g => by rw [if_pos (by omega)] at st; exact st, fun g => by rw [if_neg (by omega)] at st; exact st⟩
theorem i_X11_shown_0 : am_i m_X11_shown 0 = some (0, .aload_n 0, 1, [], 0) := rfl
theorem i_X11_shown_1 : am_i m_X11_shown 1 = some (1, .invokevirtual 296, 3, [115, 9], 0) := rfl
theorem b_X11_shown_0 {a0 : Nat} {h : am_H} (k1 : K9 h a0) : rn m_X11_shown 0 [.ref a0] [] h = cl m_X11_shown 4 [.ref a0] [] (rn m_X11_refuseNothingShown 0 [.ref a0] [] h) := by
  refine (tq_aload_n i_X11_shown_0 rfl (isA_ref _) rfl).trans ?_
  exact c_X11_refuseNothingShown i_X11_shown_1 (K9_s k1) (ltd d_X11_shown (by decide)) stOk_0 rfl
theorem i_X11_shown_4 : am_i m_X11_shown 4 = some (4, .aload_n 0, 1, [], 0) := rfl
theorem i_X11_shown_5 : am_i m_X11_shown 5 = some (5, .getfield 74, 3, [9, 14, 0], 0) := rfl
theorem i_X11_shown_8 : am_i m_X11_shown 8 = some (8, .getfield 299, 3, [3, 4, 1], 0) := rfl
theorem i_X11_shown_11 : am_i m_X11_shown 11 = some (11, .ireturn, 1, [], 0) := rfl
theorem b_X11_shown_4 {a0 : Nat} {h : am_H} (k1 : K9 h a0) : rn m_X11_shown 4 [.ref a0] [] h = some (.inl (some (.int (mI (fZ h (a0 + 34) 4)))), h) := by
  refine (tq_aload_n i_X11_shown_4 rfl (isA_ref _) rfl).trans ?_
  refine (tq_getfield i_X11_shown_5 (K9_s k1) (gR (g_9_14 (K9_s k1)) (K9_e14 k1)) (isV_ref _) rfl).trans ?_
  refine (tq_getfield i_X11_shown_8 (K3_s (K9_k14 k1)) (g_3_4 (K3_s (K9_k14 k1))) (isV_I _) rfl).trans ?_
  exact tq_ireturn i_X11_shown_11 r_X11_shown rfl
theorem q_shown (rc : RC σ h D) : (tz σ 10 ≠ -1 → rn m_X11_shown 0 [.ref 2] [] h = some (.inl (some (.int (mI (tz σ 10)))), h)) ∧ (tz σ 10 = -1 → rn m_X11_shown 0 [.ref 2] [] h = some (.inr 4, hexc h)) := by
  have e : fZ h 36 4 = tz σ 10 := rc.2.2.2.2.2.2.1.1.2.1
  refine ⟨fun g => ?_, fun g => ?_⟩
  · have st := b_X11_shown_4 (a0 := 2) (h := h) rc.1
    simp only [Nat.reduceAdd] at st
    rw [b_X11_shown_0 rc.1, NS_good rc g, cl_n, st, e]
  · rw [b_X11_shown_0 rc.1, NS_bad rc g, cl_x nh_X11_shown]
theorem i_X11_isClean_0 : am_i m_X11_isClean 0 = some (0, .aload_n 0, 1, [], 0) := rfl
theorem i_X11_isClean_1 : am_i m_X11_isClean 1 = some (1, .invokevirtual 296, 3, [115, 9], 0) := rfl
theorem b_X11_isClean_0 {a0 : Nat} {h : am_H} (k1 : K9 h a0) : rn m_X11_isClean 0 [.ref a0] [] h = cl m_X11_isClean 4 [.ref a0] [] (rn m_X11_refuseNothingShown 0 [.ref a0] [] h) := by
  refine (tq_aload_n i_X11_isClean_0 rfl (isA_ref _) rfl).trans ?_
  exact c_X11_refuseNothingShown i_X11_isClean_1 (K9_s k1) (ltd d_X11_isClean (by decide)) stOk_0 rfl
theorem i_X11_isClean_4 : am_i m_X11_isClean 4 = some (4, .aload_n 0, 1, [], 0) := rfl
theorem i_X11_isClean_5 : am_i m_X11_isClean 5 = some (5, .getfield 74, 3, [9, 14, 0], 0) := rfl
theorem i_X11_isClean_8 : am_i m_X11_isClean 8 = some (8, .getfield 290, 3, [3, 5, 1], 0) := rfl
theorem i_X11_isClean_11 : am_i m_X11_isClean 11 = some (11, .ireturn, 1, [], 0) := rfl
theorem b_X11_isClean_4 {a0 : Nat} {h : am_H} (k1 : K9 h a0) : rn m_X11_isClean 4 [.ref a0] [] h = some (.inl (some (.int (mI (fZ h (a0 + 34) 5)))), h) := by
  refine (tq_aload_n i_X11_isClean_4 rfl (isA_ref _) rfl).trans ?_
  refine (tq_getfield i_X11_isClean_5 (K9_s k1) (gR (g_9_14 (K9_s k1)) (K9_e14 k1)) (isV_ref _) rfl).trans ?_
  refine (tq_getfield i_X11_isClean_8 (K3_s (K9_k14 k1)) (g_3_5 (K3_s (K9_k14 k1))) (isV_I _) rfl).trans ?_
  exact tq_ireturn i_X11_isClean_11 r_X11_isClean (okB (wr_fZ _ _ _) (fb_3_5 (K3_s (K9_k14 k1))))
theorem q_isClean (rc : RC σ h D) : (tz σ 10 ≠ -1 → rn m_X11_isClean 0 [.ref 2] [] h = some (.inl (some (.int (mI (tz σ 11)))), h)) ∧ (tz σ 10 = -1 → rn m_X11_isClean 0 [.ref 2] [] h = some (.inr 4, hexc h)) := by
  have e : fZ h 36 5 = tz σ 11 := rc.2.2.2.2.2.2.1.1.2.2.1
  refine ⟨fun g => ?_, fun g => ?_⟩
  · have st := b_X11_isClean_4 (a0 := 2) (h := h) rc.1
    simp only [Nat.reduceAdd] at st
    rw [b_X11_isClean_0 rc.1, NS_good rc g, cl_n, st, e]
  · rw [b_X11_isClean_0 rc.1, NS_bad rc g, cl_x nh_X11_isClean]
theorem i_X11_shownAt_0 : am_i m_X11_shownAt 0 = some (0, .iload_n 1, 1, [], 0) := rfl
theorem i_X11_shownAt_1 : am_i m_X11_shownAt 1 = some (1, .iload_n 2, 1, [], 0) := rfl
theorem i_X11_shownAt_2 : am_i m_X11_shownAt 2 = some (2, .invokestatic 130, 3, [114], 0) := rfl
theorem b_X11_shownAt_0 {a0 : Nat} {x1 x2 : Int} {h : am_H} : rn m_X11_shownAt 0 [.ref a0, .int (mI x1), .int (mI x2)] [] h = cl m_X11_shownAt 5 [.ref a0, .int (mI x1), .int (mI x2)] [] (rn m_X11_refuseNoPixel 0 [.int (mI x1), .int (mI x2)] [] h) := by
  refine (tq_iload_n i_X11_shownAt_0 rfl rfl).trans ?_
  refine (tq_iload_n i_X11_shownAt_1 rfl rfl).trans ?_
  exact c_X11_refuseNoPixel i_X11_shownAt_2 (ltd d_X11_shownAt (by decide)) stOk_0 rfl
theorem i_X11_shownAt_5 : am_i m_X11_shownAt 5 = some (5, .aload_n 0, 1, [], 0) := rfl
theorem i_X11_shownAt_6 : am_i m_X11_shownAt 6 = some (6, .invokevirtual 296, 3, [115, 9], 0) := rfl
theorem b_X11_shownAt_5 {a0 : Nat} {x1 x2 : Int} {h : am_H} (k1 : K9 h a0) : rn m_X11_shownAt 5 [.ref a0, .int (mI x1), .int (mI x2)] [] h = cl m_X11_shownAt 9 [.ref a0, .int (mI x1), .int (mI x2)] [] (rn m_X11_refuseNothingShown 0 [.ref a0] [] h) := by
  refine (tq_aload_n i_X11_shownAt_5 rfl (isA_ref _) rfl).trans ?_
  exact c_X11_refuseNothingShown i_X11_shownAt_6 (K9_s k1) (ltd d_X11_shownAt (by decide)) stOk_0 rfl
theorem i_X11_shownAt_9 : am_i m_X11_shownAt 9 = some (9, .aload_n 0, 1, [], 0) := rfl
theorem i_X11_shownAt_10 : am_i m_X11_shownAt 10 = some (10, .getfield 74, 3, [9, 14, 0], 0) := rfl
theorem i_X11_shownAt_13 : am_i m_X11_shownAt 13 = some (13, .getfield 302, 3, [3, 6, 1], 0) := rfl
theorem i_X11_shownAt_16 : am_i m_X11_shownAt 16 = some (16, .iload_n 1, 1, [], 0) := rfl
theorem i_X11_shownAt_17 : am_i m_X11_shownAt 17 = some (17, .iload_n 2, 1, [], 0) := rfl
theorem i_X11_shownAt_18 : am_i m_X11_shownAt 18 = some (18, .invokestatic 99, 3, [13], 0) := rfl
theorem i_X11_shownAt_21 : am_i m_X11_shownAt 21 = some (21, .invokestatic 103, 3, [32], 0) := rfl
theorem i_X11_shownAt_24 : am_i m_X11_shownAt 24 = some (24, .ireturn, 1, [], 0) := rfl
theorem b_X11_shownAt_9 {a0 : Nat} {x1 x2 : Int} {h : am_H} (k1 : K9 h a0) (g2 : 0 ≤ (wr ((16 * x2) + x1)) ∧ (wr ((16 * x2) + x1)) < (256 : Int)) : rn m_X11_shownAt 9 [.ref a0, .int (mI x1), .int (mI x2)] [] h = some (.inl (some (.int (mI (gZ h (a0 + 46) (wr ((16 * x2) + x1)))))), h) := by
  refine (tq_aload_n i_X11_shownAt_9 rfl (isA_ref _) rfl).trans ?_
  refine (tq_getfield i_X11_shownAt_10 (K9_s k1) (gR (g_9_14 (K9_s k1)) (K9_e14 k1)) (isV_ref _) rfl).trans ?_
  refine (tq_getfield i_X11_shownAt_13 (K3_s (K9_k14 k1)) (gR (g_3_6 (K3_s (K9_k14 k1))) (K3_e6 (K9_k14 k1))) (isV_ref _) rfl).trans ?_
  refine (tq_iload_n i_X11_shownAt_16 rfl rfl).trans ?_
  refine (tq_iload_n i_X11_shownAt_17 rfl rfl).trans ?_
  refine (c_X11_placeOf i_X11_shownAt_18 (ltd d_X11_shownAt (by decide)) (stOk_1 _) rfl).trans ?_
  refine (congrArg (cl _ _ _ _) (b_X11_placeOf_0)).trans ?_
  refine (cl_v _ _ _ _ _ _).trans ?_
  refine (c_X7_get i_X11_shownAt_21 (ltd d_X11_shownAt (by decide)) (isA_ref _) stOk_0 rfl).trans ?_
  refine (congrArg (cl _ _ _ _) (get_ok rfl (K3_n6 (K9_k14 k1)) (K3_s6 (K9_k14 k1)) (by decide) g2)).trans ?_
  refine (cl_v _ _ _ _ _ _).trans ?_
  exact tq_ireturn i_X11_shownAt_24 r_X11_shownAt rfl
theorem q_shownAt (rc : RC σ h D) {x y : Int} (wx : wr x = x) (wy : wr y = y) : ((0 ≤ x ∧ x < 16) ∧ (0 ≤ y ∧ y < 16) → (tz σ 10 ≠ -1 → rn m_X11_shownAt 0 [.ref 2, .int (mI x), .int (mI y)] [] h = some (.inl (some (.int (mI (tsp σ (16 * y + x))))), h)) ∧ (tz σ 10 = -1 → rn m_X11_shownAt 0 [.ref 2, .int (mI x), .int (mI y)] [] h = some (.inr 4, hexc h))) ∧ (¬ ((0 ≤ x ∧ x < 16) ∧ 0 ≤ y ∧ y < 16) → rn m_X11_shownAt 0 [.ref 2, .int (mI x), .int (mI y)] [] h = some (.inr 1, hexc h)) := by
  refine ⟨fun hi => ⟨fun g => ?_, fun g => ?_⟩, fun hi => ?_⟩
  · obtain ⟨b0, b1, b2⟩ := w16 hi.1 hi.2
    have st := b_X11_shownAt_9 (a0 := 2) (x1 := x) (x2 := y) (h := h) rc.1 (by rw [b0]; exact ⟨b1, b2⟩)
    simp only [Nat.reduceAdd] at st
    rw [b_X11_shownAt_0, NP_good wx wy hi.1 hi.2, cl_n, b_X11_shownAt_5 rc.1, NS_good rc g, cl_n, st, b0, rc.2.2.2.2.2.2.1.2.1 _ b1 b2]
  · rw [b_X11_shownAt_0, NP_good wx wy hi.1 hi.2, cl_n, b_X11_shownAt_5 rc.1, NS_bad rc g, cl_x nh_X11_shownAt]
  · rw [b_X11_shownAt_0, NP_bad wx wy hi, cl_x nh_X11_shownAt]
theorem i_X11_drift_0 : am_i m_X11_drift 0 = some (0, .aload_n 0, 1, [], 0) := rfl
theorem i_X11_drift_1 : am_i m_X11_drift 1 = some (1, .invokevirtual 296, 3, [115, 9], 0) := rfl
theorem b_X11_drift_0 {a0 : Nat} {h : am_H} (k1 : K9 h a0) : rn m_X11_drift 0 [.ref a0, am_J, am_J, am_J] [] h = cl m_X11_drift 4 [.ref a0, am_J, am_J, am_J] [] (rn m_X11_refuseNothingShown 0 [.ref a0] [] h) := by
  refine (tq_aload_n i_X11_drift_0 rfl (isA_ref _) rfl).trans ?_
  exact c_X11_refuseNothingShown i_X11_drift_1 (K9_s k1) (ltd d_X11_drift (by decide)) stOk_0 rfl
theorem i_X11_drift_4 : am_i m_X11_drift 4 = some (4, .aload_n 0, 1, [], 0) := rfl
theorem i_X11_drift_5 : am_i m_X11_drift 5 = some (5, .aload_n 0, 1, [], 0) := rfl
theorem i_X11_drift_6 : am_i m_X11_drift 6 = some (6, .getfield 74, 3, [9, 14, 0], 0) := rfl
theorem i_X11_drift_9 : am_i m_X11_drift 9 = some (9, .getfield 299, 3, [3, 4, 1], 0) := rfl
theorem i_X11_drift_12 : am_i m_X11_drift 12 = some (12, .invokevirtual 223, 3, [113, 9], 0) := rfl
theorem b_X11_drift_4 {a0 : Nat} {v1 v2 v3 : Value} {h : am_H} (k1 : K9 h a0) : rn m_X11_drift 4 [.ref a0, v1, v2, v3] [] h = cl m_X11_drift 15 [.ref a0, v1, v2, v3] [] (rn m_X11_pictureAt 0 [.ref a0, .int (mI (fZ h (a0 + 34) 4)), am_J] [] h) := by
  refine (tq_aload_n i_X11_drift_4 rfl (isA_ref _) rfl).trans ?_
  refine (tq_aload_n i_X11_drift_5 rfl (isA_ref _) rfl).trans ?_
  refine (tq_getfield i_X11_drift_6 (K9_s k1) (gR (g_9_14 (K9_s k1)) (K9_e14 k1)) (isV_ref _) rfl).trans ?_
  refine (tq_getfield i_X11_drift_9 (K3_s (K9_k14 k1)) (g_3_4 (K3_s (K9_k14 k1))) (isV_I _) rfl).trans ?_
  exact c_X11_pictureAt i_X11_drift_12 (K9_s k1) (ltd d_X11_drift (by decide)) stOk_0 rfl
theorem i_X11_drift_15 : am_i m_X11_drift 15 = some (15, .astore_n 1, 1, [], 0) := rfl
theorem i_X11_drift_16 : am_i m_X11_drift 16 = some (16, .iconst 0, 1, [], 0) := rfl
theorem i_X11_drift_17 : am_i m_X11_drift 17 = some (17, .istore_n 2, 1, [], 0) := rfl
theorem i_X11_drift_18 : am_i m_X11_drift 18 = some (18, .iconst 0, 1, [], 0) := rfl
theorem i_X11_drift_19 : am_i m_X11_drift 19 = some (19, .istore_n 3, 1, [], 0) := rfl
theorem b_X11_drift_15 {a0 as0 : Nat} {v1 v2 v3 : Value} {h : am_H} : rn m_X11_drift 15 [.ref a0, v1, v2, v3] [.ref as0] h = rn m_X11_drift 20 [.ref a0, .ref as0, .int (mI 0), .int (mI 0)] [] h := by
  refine (tq_astore_n (L' := [.ref a0, .ref as0, v2, v3]) i_X11_drift_15 (isA_ref _) rfl rfl).trans ?_
  refine (tq_iconst i_X11_drift_16 rfl).trans ?_
  refine (tq_istore_n (L' := [.ref a0, .ref as0, .int (mI 0), v3]) i_X11_drift_17 rfl rfl).trans ?_
  refine (tq_iconst i_X11_drift_18 rfl).trans ?_
  refine (tq_istore_n (L' := [.ref a0, .ref as0, .int (mI 0), .int (mI 0)]) i_X11_drift_19 rfl rfl).trans ?_
  rfl
theorem i_X11_drift_20 : am_i m_X11_drift 20 = some (20, .iload_n 3, 1, [], 0) := rfl
theorem i_X11_drift_21 : am_i m_X11_drift 21 = some (21, .sipush 256, 3, [], 256) := rfl
theorem i_X11_drift_24 : am_i m_X11_drift 24 = some (24, .if_icmp .ge 34, 3, [], 0) := rfl
theorem i_X11_drift_27 : am_i m_X11_drift 27 = some (27, .aload_n 0, 1, [], 0) := rfl
theorem i_X11_drift_28 : am_i m_X11_drift 28 = some (28, .getfield 74, 3, [9, 14, 0], 0) := rfl
theorem i_X11_drift_31 : am_i m_X11_drift 31 = some (31, .getfield 302, 3, [3, 6, 1], 0) := rfl
theorem i_X11_drift_34 : am_i m_X11_drift 34 = some (34, .iload_n 3, 1, [], 0) := rfl
theorem i_X11_drift_35 : am_i m_X11_drift 35 = some (35, .invokestatic 103, 3, [32], 0) := rfl
theorem i_X11_drift_38 : am_i m_X11_drift 38 = some (38, .aload_n 1, 1, [], 0) := rfl
theorem i_X11_drift_39 : am_i m_X11_drift 39 = some (39, .getfield 260, 3, [6, 15, 1], 0) := rfl
theorem i_X11_drift_42 : am_i m_X11_drift 42 = some (42, .iload_n 3, 1, [], 0) := rfl
theorem i_X11_drift_43 : am_i m_X11_drift 43 = some (43, .invokestatic 103, 3, [32], 0) := rfl
theorem i_X11_drift_46 : am_i m_X11_drift 46 = some (46, .if_icmp .eq 6, 3, [], 0) := rfl
theorem i_X11_drift_49 : am_i m_X11_drift 49 = some (49, .iinc 2 1, 3, [], 0) := rfl
theorem i_X11_drift_52 : am_i m_X11_drift 52 = some (52, .iinc 3 1, 3, [], 0) := rfl
theorem i_X11_drift_55 : am_i m_X11_drift 55 = some (55, .goto (-35), 3, [], 0) := rfl
theorem i_X11_drift_58 : am_i m_X11_drift 58 = some (58, .iload_n 2, 1, [], 0) := rfl
theorem i_X11_drift_59 : am_i m_X11_drift 59 = some (59, .ireturn, 1, [], 0) := rfl
theorem b_X11_drift_20 {a0 a1 : Nat} {x2 x3 x3' : Int} {h : am_H} (w3 : wr x3 = x3') (k1 : K9 h a0) (g2 : (¬ (256 ≤ x3')) → (0 ≤ x3' ∧ x3' < (256 : Int))) (k3 : K6 h a1) : rn m_X11_drift 20 [.ref a0, .ref a1, .int (mI x2), .int (mI x3)] [] h = if 256 ≤ x3' then some (.inl (some (.int (mI x2))), h) else if (gZ h (a0 + 46) x3') = (gZ h (a1 + 8) x3') then rn m_X11_drift 20 [.ref a0, .ref a1, .int (mI x2), .int (mI (x3 + 1))] [] h else rn m_X11_drift 20 [.ref a0, .ref a1, .int (mI (x2 + 1)), .int (mI (x3 + 1))] [] h := by
  refine (tq_iload_n i_X11_drift_20 rfl rfl).trans ?_
  refine (tq_sipush i_X11_drift_21 rfl).trans ?_
  refine (tq_icmp_ge (pt := 58) i_X11_drift_24 w3 w_256 (by decide) rfl).trans ?_
  refine ite_congr rfl (fun c1 => ?_) (fun c1 => ?_)
  · refine (tq_iload_n i_X11_drift_58 rfl rfl).trans ?_
    exact tq_ireturn i_X11_drift_59 r_X11_drift rfl
  · refine (tq_aload_n i_X11_drift_27 rfl (isA_ref _) rfl).trans ?_
    refine (tq_getfield i_X11_drift_28 (K9_s k1) (gR (g_9_14 (K9_s k1)) (K9_e14 k1)) (isV_ref _) rfl).trans ?_
    refine (tq_getfield i_X11_drift_31 (K3_s (K9_k14 k1)) (gR (g_3_6 (K3_s (K9_k14 k1))) (K3_e6 (K9_k14 k1))) (isV_ref _) rfl).trans ?_
    refine (tq_iload_n i_X11_drift_34 rfl rfl).trans ?_
    refine (c_X7_get i_X11_drift_35 (ltd d_X11_drift (by decide)) (isA_ref _) stOk_0 rfl).trans ?_
    refine (congrArg (cl _ _ _ _) (get_ok w3 (K3_n6 (K9_k14 k1)) (K3_s6 (K9_k14 k1)) (by decide) (g2 c1))).trans ?_
    refine (cl_v _ _ _ _ _ _).trans ?_
    refine (tq_aload_n i_X11_drift_38 rfl (isA_ref _) rfl).trans ?_
    refine (tq_getfield i_X11_drift_39 (K6_s k3) (gR (g_6_15 (K6_s k3)) (K6_e15 k3)) (isV_ref _) rfl).trans ?_
    refine (tq_iload_n i_X11_drift_42 rfl rfl).trans ?_
    refine (c_X7_get i_X11_drift_43 (ltd d_X11_drift (by decide)) (isA_ref _) (stOk_1 _) rfl).trans ?_
    refine (congrArg (cl _ _ _ _) (get_ok w3 (K6_n15 k3) (K6_s15 k3) (by decide) (g2 c1))).trans ?_
    refine (cl_v _ _ _ _ _ _).trans ?_
    refine (tq_icmp_eq (pt := 52) i_X11_drift_46 (wr_gZ _ _ _) (wr_gZ _ _ _) (by decide) rfl).trans ?_
    refine ite_congr rfl (fun c2 => ?_) (fun c2 => ?_)
    · refine (tq_iinc (L' := [.ref a0, .ref a1, .int (mI x2), .int (mI (x3 + 1))]) i_X11_drift_52 rfl rfl rfl).trans ?_
      refine (tq_goto (pc' := 20) i_X11_drift_55 (by decide)).trans ?_
      rfl
    · refine (tq_iinc (L' := [.ref a0, .ref a1, .int (mI (x2 + 1)), .int (mI x3)]) i_X11_drift_49 rfl rfl rfl).trans ?_
      refine (tq_iinc (L' := [.ref a0, .ref a1, .int (mI (x2 + 1)), .int (mI (x3 + 1))]) i_X11_drift_52 rfl rfl rfl).trans ?_
      refine (tq_goto (pc' := 20) i_X11_drift_55 (by decide)).trans ?_
      rfl
/-- how many pixels differ -/
def dfs (f g : Int → Int) : Nat → Int := fun n => sm n (fun i => if f i = g i then 0 else 1)
theorem dfs_b (f g : Int → Int) : ∀ n : Nat, 0 ≤ dfs f g n ∧ dfs f g n ≤ n := fun n => by
  have := sm_le (n := n) (f := fun i => if f i = g i then (0 : Int) else 1) (b := 1) (fun i _ _ => by split <;> omega)
  unfold dfs
  omega
theorem dfs_succ {f g : Int → Int} {i : Int} (h : 0 ≤ i) : dfs f g (i + 1).toNat = dfs f g i.toNat + (if f i = g i then 0 else 1) := by
  obtain ⟨n, rfl⟩ : ∃ n : Nat, i = n := ⟨i.toNat, by omega⟩
  rw [show ((n : Int) + 1).toNat = n + 1 by omega, show ((n : Int)).toNat = n by omega]
  rfl
theorem q_drift (rc : RC σ h D) (wf : WfS σ c) : (tz σ 10 ≠ -1 → rn m_X11_drift 0 [.ref 2, am_J, am_J, am_J] [] h = some (.inl (some (.int (mI (dfs (tsp σ) (tpd σ (tz σ 10) 5) 256)))), h)) ∧ (tz σ 10 = -1 → rn m_X11_drift 0 [.ref 2, am_J, am_J, am_J] [] h = some (.inr 4, hexc h)) := by
  refine ⟨fun g => ?_, fun g => ?_⟩
  · have e : fZ h 36 4 = tz σ 10 := rc.2.2.2.2.2.2.1.1.2.1
    have hs := wf.2.2.2.2.1.2.1
    have n := WFn wf
    have st := b_X11_drift_4 (a0 := 2) (v1 := am_J) (v2 := am_J) (v3 := am_J) (h := h) rc.1
    simp only [Nat.reduceAdd] at st
    obtain ⟨P, ep, p⟩ := PA_good rc wf (i := tz σ 10) (wr_id (by omega) (by omega)) (by omega)
    rw [b_X11_drift_0 rc.1, NS_good rc g, cl_n, st, e, ep, cl_v, b_X11_drift_15]
    refine lp (m := m_X11_drift) (pc := 20) (L := fun i (x : Int) => [.ref 2, .ref P, .int (mI x), .int (mI i)]) (N := 256) (P := fun r => r = some (.inl (some (.int (mI (dfs (tsp σ) (tpd σ (tz σ 10) 5) 256)))), h)) (fun i x h' => 0 ≤ i ∧ h' = h ∧ x = dfs (tsp σ) (tpd σ (tz σ 10) 5) i.toNat) ?_ ?_ 0 0 h (by omega) ⟨by omega, rfl, rfl⟩
    · intro i x h' hi ⟨i0, e1, ex⟩
      subst e1
      have st := b_X11_drift_20 (a0 := 2) (a1 := P) (x2 := x) (x3 := i) (h := h') (wr_id (by omega) (by omega)) rc.1 (fun _ => ⟨i0, hi⟩) p.1
      simp only [Nat.reduceAdd] at st
      rw [if_neg (by omega), rc.2.2.2.2.2.2.1.2.1 i i0 hi, (p.2.2.2.2.2.2 i i0 hi).2] at st
      by_cases q : tsp σ i = tpd σ (tz σ 10) 5 i
      · rw [if_pos q] at st
        exact ⟨x, h', st, by omega, rfl, by rw [dfs_succ i0, if_pos q, ex]; omega⟩
      · rw [if_neg q] at st
        exact ⟨x + 1, h', st, by omega, rfl, by rw [dfs_succ i0, if_neg q, ex]⟩
    · intro x h' ⟨i0, e1, ex⟩
      subst e1
      have st := b_X11_drift_20 (a0 := 2) (a1 := P) (x2 := x) (x3 := 256) (h := h') (wr_id (by omega) (by omega)) rc.1 (fun g => absurd (by omega) g) p.1
      rw [if_pos (by omega)] at st
      refine st.trans ?_
      rw [ex, show (256 : Int).toNat = 256 by decide]
  · rw [b_X11_drift_0 rc.1, NS_bad rc g, cl_x nh_X11_drift]
end QC
