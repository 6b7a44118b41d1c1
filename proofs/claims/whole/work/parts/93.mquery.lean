/-! ===== the model's queries ===== -/
theorem i_X12_noSlice_0 : am_i m_X12_noSlice 0 = some (0, .aload_n 0, 1, [], 0) := rfl
theorem i_X12_noSlice_1 : am_i m_X12_noSlice 1 = some (1, .iload_n 1, 1, [], 0) := rfl
theorem i_X12_noSlice_2 : am_i m_X12_noSlice 2 = some (2, .iconst 0, 1, [], 0) := rfl
theorem i_X12_noSlice_3 : am_i m_X12_noSlice 3 = some (3, .aload_n 0, 1, [], 0) := rfl
theorem i_X12_noSlice_4 : am_i m_X12_noSlice 4 = some (4, .getfield 305, 3, [10, 9, 0], 0) := rfl
theorem i_X12_noSlice_7 : am_i m_X12_noSlice 7 = some (7, .iconst 1, 1, [], 1) := rfl
theorem i_X12_noSlice_8 : am_i m_X12_noSlice 8 = some (8, .isub, 1, [], 0) := rfl
theorem i_X12_noSlice_9 : am_i m_X12_noSlice 9 = some (9, .invokestatic 113, 3, [27], 0) := rfl
theorem i_X12_noSlice_12 : am_i m_X12_noSlice 12 = some (12, .ifCond .eq 23, 3, [], 0) := rfl
theorem i_X12_noSlice_15 : am_i m_X12_noSlice 15 = some (15, .iload_n 2, 1, [], 0) := rfl
theorem i_X12_noSlice_16 : am_i m_X12_noSlice 16 = some (16, .iconst 0, 1, [], 0) := rfl
theorem i_X12_noSlice_17 : am_i m_X12_noSlice 17 = some (17, .aload_n 0, 1, [], 0) := rfl
theorem i_X12_noSlice_18 : am_i m_X12_noSlice 18 = some (18, .getfield 49, 3, [10, 13, 0], 0) := rfl
theorem i_X12_noSlice_21 : am_i m_X12_noSlice 21 = some (21, .iload_n 1, 1, [], 0) := rfl
theorem i_X12_noSlice_22 : am_i m_X12_noSlice 22 = some (22, .iaload, 1, [], 0) := rfl
theorem i_X12_noSlice_23 : am_i m_X12_noSlice 23 = some (23, .iconst 1, 1, [], 1) := rfl
theorem i_X12_noSlice_24 : am_i m_X12_noSlice 24 = some (24, .isub, 1, [], 0) := rfl
theorem i_X12_noSlice_25 : am_i m_X12_noSlice 25 = some (25, .invokestatic 113, 3, [27], 0) := rfl
theorem i_X12_noSlice_28 : am_i m_X12_noSlice 28 = some (28, .ifCond .eq 7, 3, [], 0) := rfl
theorem i_X12_noSlice_31 : am_i m_X12_noSlice 31 = some (31, .iconst 0, 1, [], 0) := rfl
theorem i_X12_noSlice_32 : am_i m_X12_noSlice 32 = some (32, .goto 4, 3, [], 0) := rfl
theorem i_X12_noSlice_35 : am_i m_X12_noSlice 35 = some (35, .iconst 1, 1, [], 1) := rfl
theorem i_X12_noSlice_36 : am_i m_X12_noSlice 36 = some (36, .putfield 110, 3, [10, 0, 0], 0) := rfl
theorem i_X12_noSlice_39 : am_i m_X12_noSlice 39 = some (39, .aload_n 0, 1, [], 0) := rfl
theorem i_X12_noSlice_40 : am_i m_X12_noSlice 40 = some (40, .getfield 110, 3, [10, 0, 0], 0) := rfl
theorem i_X12_noSlice_43 : am_i m_X12_noSlice 43 = some (43, .ifCond .le 7, 3, [], 0) := rfl
theorem i_X12_noSlice_46 : am_i m_X12_noSlice 46 = some (46, .iconst 1, 1, [], 1) := rfl
theorem i_X12_noSlice_47 : am_i m_X12_noSlice 47 = some (47, .goto 4, 3, [], 0) := rfl
theorem i_X12_noSlice_50 : am_i m_X12_noSlice 50 = some (50, .iconst 0, 1, [], 0) := rfl
theorem i_X12_noSlice_51 : am_i m_X12_noSlice 51 = some (51, .ireturn, 1, [], 0) := rfl
theorem b_X12_noSlice_0 {a0 : Nat} {x1 x2 x1' x2' : Int} {h : am_H} (w1 : wr x1 = x1') (w2 : wr x2 = x2') (k1 : K10 h a0) (g2 : ((¬ (x1' < 0) ∧ (¬ ((wr ((fZ h a0 9) - 1)) < x1')))) → (0 ≤ x1' ∧ x1' < (12 : Int))) : rn m_X12_noSlice 0 [.ref a0, .int (mI x1), .int (mI x2)] [] h = some (.inl (some (.int (mI (bZ (¬ ((bZ (¬ (¬ (x1' < 0) ∧ (¬ ((wr ((fZ h a0 9) - 1)) < x1'))) ∨ (¬ (¬ (x2' < 0) ∧ (¬ ((wr ((gZ h (a0 + 5) x1') - 1)) < x2')))))) ≤ 0)))))), uF 10 h a0 0 (.int (mI (bZ (¬ (¬ (x1' < 0) ∧ (¬ ((wr ((fZ h a0 9) - 1)) < x1'))) ∨ (¬ (¬ (x2' < 0) ∧ (¬ ((wr ((gZ h (a0 + 5) x1') - 1)) < x2'))))))))) := by
  refine (tq_aload_n i_X12_noSlice_0 rfl (isA_ref _) rfl).trans ?_
  refine (tq_iload_n i_X12_noSlice_1 rfl rfl).trans ?_
  refine (tq_iconst i_X12_noSlice_2 rfl).trans ?_
  refine (tq_aload_n i_X12_noSlice_3 rfl (isA_ref _) rfl).trans ?_
  refine (tq_getfield i_X12_noSlice_4 (K10_s k1) (g_10_9 (K10_s k1)) (isV_I _) rfl).trans ?_
  refine (tq_iconst i_X12_noSlice_7 rfl).trans ?_
  refine (tq_isub i_X12_noSlice_8 rfl).trans ?_
  refine (c_X12_in i_X12_noSlice_9 (ltd d_X12_noSlice (by decide)) (stOk_1 _) rfl).trans ?_
  refine (congrArg (cl _ _ _ _) (b_X12_in_0 w1 w_0 rfl)).trans ?_
  refine (cl_v _ _ _ _ _ _).trans ?_
  refine (tq_ifb_eq (pt := 35) i_X12_noSlice_12 (by decide) rfl).trans ?_
  refine Eq.trans (b := if (¬ (x1' < 0) ∧ (¬ ((wr ((fZ h a0 9) - 1)) < x1'))) then rn m_X12_noSlice 36 [.ref a0, .int (mI x1), .int (mI x2)] [.int (mI (bZ (¬ (¬ (x2' < 0) ∧ (¬ ((wr ((gZ h (a0 + 5) x1') - 1)) < x2')))))), .ref a0] h else rn m_X12_noSlice 36 [.ref a0, .int (mI x1), .int (mI x2)] [.int (mI 1), .ref a0] h) (ite_congr rfl (fun c1 => ?_) (fun c1 => ?_)) ?_
  · refine (tq_iload_n i_X12_noSlice_15 rfl rfl).trans ?_
    refine (tq_iconst i_X12_noSlice_16 rfl).trans ?_
    refine (tq_aload_n i_X12_noSlice_17 rfl (isA_ref _) rfl).trans ?_
    refine (tq_getfield i_X12_noSlice_18 (K10_s k1) (gR (g_10_13 (K10_s k1)) (K10_e13 k1)) (isV_ref _) rfl).trans ?_
    refine (tq_iload_n i_X12_noSlice_21 rfl rfl).trans ?_
    refine (tq_iaload i_X12_noSlice_22 (K10_s13 k1) (by decide) w1 (g2 c1).1 (lt_gn (K10_n13 k1) (g2 c1).2) rfl).trans ?_
    refine (tq_iconst i_X12_noSlice_23 rfl).trans ?_
    refine (tq_isub i_X12_noSlice_24 rfl).trans ?_
    refine (c_X12_in i_X12_noSlice_25 (ltd d_X12_noSlice (by decide)) (stOk_1 _) rfl).trans ?_
    refine (congrArg (cl _ _ _ _) (b_X12_in_0 w2 w_0 rfl)).trans ?_
    refine (cl_v _ _ _ _ _ _).trans ?_
    refine (tq_ifb_eq (pt := 35) i_X12_noSlice_28 (by decide) rfl).trans ?_
    refine Eq.trans (b := if (¬ (x2' < 0) ∧ (¬ ((wr ((gZ h (a0 + 5) x1') - 1)) < x2'))) then rn m_X12_noSlice 36 [.ref a0, .int (mI x1), .int (mI x2)] [.int (mI 0), .ref a0] h else rn m_X12_noSlice 36 [.ref a0, .int (mI x1), .int (mI x2)] [.int (mI 1), .ref a0] h) (ite_congr rfl (fun c2 => ?_) (fun c2 => ?_)) ?_
    · refine (tq_iconst i_X12_noSlice_31 rfl).trans ?_
      refine (tq_goto (pc' := 36) i_X12_noSlice_32 (by decide)).trans ?_
      rfl
    · refine (tq_iconst i_X12_noSlice_35 rfl).trans ?_
      rfl
    exact ite_b01
  · refine (tq_iconst i_X12_noSlice_35 rfl).trans ?_
    rfl
  refine Eq.trans ite_bp1 ?_
  refine (tq_putfield i_X12_noSlice_36 (K10_s k1) (okf_10_0 _) rfl).trans ?_
  refine (tq_aload_n i_X12_noSlice_39 rfl (isA_ref _) rfl).trans ?_
  refine (tq_getfield i_X12_noSlice_40 ((sh_uF _ _ _ _ _ _).trans (K10_s k1)) (gV_uF_eq (K10_s k1) (okf_10_0 _)) (isV_I _) rfl).trans ?_
  refine (tq_if_le (pt := 50) i_X12_noSlice_43 (wr_bZ _) (by decide) rfl).trans ?_
  refine Eq.trans (b := if (bZ (¬ (¬ (x1' < 0) ∧ (¬ ((wr ((fZ h a0 9) - 1)) < x1'))) ∨ (¬ (¬ (x2' < 0) ∧ (¬ ((wr ((gZ h (a0 + 5) x1') - 1)) < x2')))))) ≤ 0 then rn m_X12_noSlice 51 [.ref a0, .int (mI x1), .int (mI x2)] [.int (mI 0)] (uF 10 h a0 0 (.int (mI (bZ (¬ (¬ (x1' < 0) ∧ (¬ ((wr ((fZ h a0 9) - 1)) < x1'))) ∨ (¬ (¬ (x2' < 0) ∧ (¬ ((wr ((gZ h (a0 + 5) x1') - 1)) < x2'))))))))) else rn m_X12_noSlice 51 [.ref a0, .int (mI x1), .int (mI x2)] [.int (mI 1)] (uF 10 h a0 0 (.int (mI (bZ (¬ (¬ (x1' < 0) ∧ (¬ ((wr ((fZ h a0 9) - 1)) < x1'))) ∨ (¬ (¬ (x2' < 0) ∧ (¬ ((wr ((gZ h (a0 + 5) x1') - 1)) < x2')))))))))) (ite_congr rfl (fun c3 => ?_) (fun c3 => ?_)) ?_
  · refine (tq_iconst i_X12_noSlice_50 rfl).trans ?_
    rfl
  · refine (tq_iconst i_X12_noSlice_46 rfl).trans ?_
    refine (tq_goto (pc' := 51) i_X12_noSlice_47 (by decide)).trans ?_
    rfl
  refine Eq.trans ite_b01 ?_
  exact tq_ireturn i_X12_noSlice_51 r_X12_noSlice (okB (wr_bZ _) (bZ_01 _))
theorem bz2 {p : Prop} [Decidable p] : bZ (¬ (bZ p ≤ 0)) = bZ p := by
  by_cases q : p
  · rw [bZ_t (p := p) q]; rfl
  · rw [bZ_f (p := p) q]; rfl
section MQ
variable {σ : St} {h : am_H} {D : Nat} {c : Int}
theorem MRs_v {σ' : St} {r : Option am_Rs} {v v' : Value} {k : Int} {a s : Nat} (e : v = v') (m : MRs σ' h D r v k a s) : MRs σ' h D r v' k a s := by rw [← e]; exact m
/-- an answer behind the number of the exception -/
theorem MRs_thr {z : Int} {r : Option am_Rs} {v : Value} (rm : RM σ h D) (w : wr z = z) (e : r = some (.inl (some v), uF 10 h 51 0 (.int (mI z)))) : MRs σ h D r v z 0 0 := by
  obtain ⟨t1, t2, t3, -⟩ := thr_ok rm w
  exact ⟨_, e, t1, t2, t3⟩
theorem nPic (rm : RM σ h D) (wf : WfS σ c) {i : Int} (w : wr i = i) : rn m_X12_noPicture 0 [.ref 51, .int (mI i)] [] h = some (.inl (some (.int (mI (bZ (¬ (0 ≤ i ∧ i < tz σ 7)))))), uF 10 h 51 0 (.int (mI (bZ (¬ (0 ≤ i ∧ i < tz σ 7)))))) := by
  have n := WFn wf
  have en : fZ h 51 9 = tz σ 7 := rm.2.2.2.1.2.2.1
  have st := b_X12_noPicture_0 (a0 := 51) (x1 := i) (h := h) w rm.1
  rw [bz2, en, wr_id (z := tz σ 7 - 1) (by omega) (by omega), bZ_congr (q := ¬ (0 ≤ i ∧ i < tz σ 7)) (by omega)] at st
  exact st
theorem nPl (rm : RM σ h D) (wf : WfS σ c) {i x y : Int} (w : wr i = i) (wx : wr x = x) (wy : wr y = y) : rn m_X12_noPlace 0 [.ref 51, .int (mI i), .int (mI x), .int (mI y)] [] h = some (.inl (some (.int (mI (bZ (¬ ((0 ≤ i ∧ i < tz σ 7) ∧ (0 ≤ x ∧ x < 16) ∧ 0 ≤ y ∧ y < 16)))))), uF 10 h 51 0 (.int (mI (bZ (¬ ((0 ≤ i ∧ i < tz σ 7) ∧ (0 ≤ x ∧ x < 16) ∧ 0 ≤ y ∧ y < 16)))))) := by
  have n := WFn wf
  have en : fZ h 51 9 = tz σ 7 := rm.2.2.2.1.2.2.1
  have st := b_X12_noPlace_0 (a0 := 51) (x1 := i) (x2 := x) (x3 := y) (h := h) w wx wy rm.1
  rw [bz2, en, wr_id (z := tz σ 7 - 1) (by omega) (by omega), bZ_congr (q := ¬ ((0 ≤ i ∧ i < tz σ 7) ∧ (0 ≤ x ∧ x < 16) ∧ 0 ≤ y ∧ y < 16)) (by omega)] at st
  exact st
theorem nSh (rm : RM σ h D) : rn m_X12_noShown 0 [.ref 51] [] h = some (.inl (some (.int (mI (bZ (tz σ 10 = -1))))), uF 10 h 51 0 (.int (mI (bZ (tz σ 10 = -1))))) := by
  have e : fZ h 51 40 = tz σ 10 := rm.2.2.2.2.2.2.1.2.1
  have st := b_X12_noShown_0 (a0 := 51) (h := h) rm.1
  rw [bz2, e, bZ_congr (q := tz σ 10 = -1) (by omega)] at st
  exact st
theorem nSl (rm : RM σ h D) (wf : WfS σ c) {i s : Int} (w : wr i = i) (ws : wr s = s) : ∃ z, (z = 0 ↔ isSl σ i s) ∧ (z = 0 ∨ z = 1) ∧ rn m_X12_noSlice 0 [.ref 51, .int (mI i), .int (mI s)] [] h = some (.inl (some (.int (mI z))), uF 10 h 51 0 (.int (mI z))) := by
  have n := WFn wf
  have en : fZ h 51 9 = tz σ 7 := rm.2.2.2.1.2.2.1
  have st := b_X12_noSlice_0 (a0 := 51) (x1 := i) (x2 := s) (h := h) w ws rm.1 (fun g => by rw [en, wr_id (z := tz σ 7 - 1) (by omega) (by omega)] at g; omega)
  rw [bz2] at st
  refine ⟨_, ?_, bZ_01 _, st⟩
  rw [en, wr_id (z := tz σ 7 - 1) (by omega) (by omega)]
  unfold isSl
  by_cases ci : 0 ≤ i ∧ i < tz σ 7
  · have e5 : gZ h 56 i = tpz σ i 5 := (rm.2.2.2.2.2.1 i ci.1 ci.2).1.2.2.2.1
    have b5 := (wf.2.2.2.1 i ci.1 ci.2).2.2.2.2.2.1
    simp only [Nat.reduceAdd]
    rw [e5, wr_id (z := tpz σ i 5 - 1) (by omega) (by omega)]
    by_cases cs : 0 ≤ s ∧ s < tpz σ i 5
    · rw [bZ_f (by omega)]
      exact ⟨fun _ => ⟨ci, cs⟩, fun _ => rfl⟩
    · rw [bZ_t (by omega)]
      exact ⟨fun g => absurd g (by decide), fun g => absurd g.2 cs⟩
  · rw [bZ_t (by omega)]
    exact ⟨fun g => absurd g (by decide), fun g => absurd g.1 ci⟩
theorem w01 {p : Prop} [Decidable p] : wr (bZ p) = bZ p := wr_bZ p
theorem i_X12_kindOf_0 : am_i m_X12_kindOf 0 = some (0, .aload_n 0, 1, [], 0) := rfl
theorem i_X12_kindOf_1 : am_i m_X12_kindOf 1 = some (1, .iload_n 1, 1, [], 0) := rfl
theorem i_X12_kindOf_2 : am_i m_X12_kindOf 2 = some (2, .invokevirtual 328, 3, [88, 10], 0) := rfl
theorem b_X12_kindOf_0 {a0 : Nat} {x1 : Int} {h : am_H} (k1 : K10 h a0) : rn m_X12_kindOf 0 [.ref a0, .int (mI x1)] [] h = cl m_X12_kindOf 5 [.ref a0, .int (mI x1)] [] (rn m_X12_noPicture 0 [.ref a0, .int (mI x1)] [] h) := by
  refine (tq_aload_n i_X12_kindOf_0 rfl (isA_ref _) rfl).trans ?_
  refine (tq_iload_n i_X12_kindOf_1 rfl rfl).trans ?_
  exact c_X12_noPicture i_X12_kindOf_2 (K10_s k1) (ltd d_X12_kindOf (by decide)) stOk_0 rfl
theorem i_X12_kindOf_5 : am_i m_X12_kindOf 5 = some (5, .ifCond .eq 8, 3, [], 0) := rfl
theorem i_X12_kindOf_8 : am_i m_X12_kindOf 8 = some (8, .bipush 32, 2, [], 32) := rfl
theorem i_X12_kindOf_10 : am_i m_X12_kindOf 10 = some (10, .goto 9, 3, [], 0) := rfl
theorem i_X12_kindOf_13 : am_i m_X12_kindOf 13 = some (13, .aload_n 0, 1, [], 0) := rfl
theorem i_X12_kindOf_14 : am_i m_X12_kindOf 14 = some (14, .getfield 39, 3, [10, 10, 0], 0) := rfl
theorem i_X12_kindOf_17 : am_i m_X12_kindOf 17 = some (17, .iload_n 1, 1, [], 0) := rfl
theorem i_X12_kindOf_18 : am_i m_X12_kindOf 18 = some (18, .caload, 1, [], 0) := rfl
theorem i_X12_kindOf_19 : am_i m_X12_kindOf 19 = some (19, .ireturn, 1, [], 0) := rfl
theorem b_X12_kindOf_5 {a0 : Nat} {x1 xs0 x1' xs0' : Int} {h : am_H} (w1 : wr x1 = x1') (ws0 : wr xs0 = xs0') (k1 : K10 h a0) (g2 : (xs0' = 0) → (0 ≤ x1' ∧ x1' < (12 : Int))) (g3 : 0 ≤ (if xs0' = 0 then (gZ h (a0 + 2) x1' : Int) else 32) ∧ (if xs0' = 0 then (gZ h (a0 + 2) x1' : Int) else 32) ≤ 65535) : rn m_X12_kindOf 5 [.ref a0, .int (mI x1)] [.int (mI xs0)] h = some (.inl (some (.int (mI (if xs0' = 0 then (gZ h (a0 + 2) x1' : Int) else 32)))), h) := by
  refine (tq_if_eq (pt := 13) i_X12_kindOf_5 ws0 (by decide) rfl).trans ?_
  refine Eq.trans (b := if xs0' = 0 then rn m_X12_kindOf 19 [.ref a0, .int (mI x1)] [.int (mI (gZ h (a0 + 2) x1'))] h else rn m_X12_kindOf 19 [.ref a0, .int (mI x1)] [.int (mI 32)] h) (ite_congr rfl (fun c1 => ?_) (fun c1 => ?_)) ?_
  · refine (tq_aload_n i_X12_kindOf_13 rfl (isA_ref _) rfl).trans ?_
    refine (tq_getfield i_X12_kindOf_14 (K10_s k1) (gR (g_10_10 (K10_s k1)) (K10_e10 k1)) (isV_ref _) rfl).trans ?_
    refine (tq_iload_n i_X12_kindOf_17 rfl rfl).trans ?_
    refine (tq_caload i_X12_kindOf_18 (K10_s10 k1) rfl w1 (g2 c1).1 (lt_gn (K10_n10 k1) (g2 c1).2) rfl).trans ?_
    rfl
  · refine (tq_bipush i_X12_kindOf_8 rfl).trans ?_
    refine (tq_goto (pc' := 19) i_X12_kindOf_10 (by decide)).trans ?_
    rfl
  refine Eq.trans ite_I ?_
  exact tq_ireturn i_X12_kindOf_19 r_X12_kindOf (okC (wr_ite (wr_gZ _ _ _) w_32) g3)
theorem m_kindOf (rm : RM σ h D) (wf : WfS σ c) {i : Int} (w : wr i = i) : (0 ≤ i ∧ i < tz σ 7 → MRs σ h D (rn m_X12_kindOf 0 [.ref 51, .int (mI i)] [] h) (.int (mI (tpz σ i 0))) 0 0 0) ∧ (¬ (0 ≤ i ∧ i < tz σ 7) → MRs σ h D (rn m_X12_kindOf 0 [.ref 51, .int (mI i)] [] h) (.int (mI 32)) 1 0 0) := by
  have n := WFn wf
  obtain ⟨t1, t2, t3, tm⟩ := thr_ok (D := D) (z := bZ (¬ (0 ≤ i ∧ i < tz σ 7))) rm (wr_bZ _)
  have st := b_X12_kindOf_0 (a0 := 51) (x1 := i) (h := h) rm.1
  rw [nPic rm wf w, cl_v] at st
  refine ⟨fun g => ?_, fun g => ?_⟩
  · rw [bZ_f (fun q => q g)] at st t1 t2 t3
    have e : gZ (uF 10 h 51 0 (.int (mI 0))) 53 i = tpz σ i 0 := (t1.2.2.2.2.2.1 i g.1 g.2).1.1
    have k := (wf.2.2.2.1 i g.1 g.2).1
    unfold isKind at k
    have st2 := b_X12_kindOf_5 (a0 := 51) (x1 := i) (xs0 := 0) (h := uF 10 h 51 0 (.int (mI 0))) w (wr_id (by decide) (by decide)) t1.1 (fun _ => by omega)
    simp only [Nat.reduceAdd, if_true] at st2
    rw [e] at st2
    exact ⟨_, st.trans (st2 (by omega)), t1, t2, t3⟩
  · rw [bZ_t g] at st t1 t2 t3
    have st2 := b_X12_kindOf_5 (a0 := 51) (x1 := i) (xs0 := 1) (h := uF 10 h 51 0 (.int (mI 1))) w (wr_id (by decide) (by decide)) t1.1 (fun q => absurd q (by decide)) (by rw [if_neg (by decide)]; decide)
    rw [if_neg (by decide)] at st2
    exact ⟨_, st.trans st2, t1, t2, t3⟩
theorem i_X12_coarsenessOf_0 : am_i m_X12_coarsenessOf 0 = some (0, .aload_n 0, 1, [], 0) := rfl
theorem i_X12_coarsenessOf_1 : am_i m_X12_coarsenessOf 1 = some (1, .iload_n 1, 1, [], 0) := rfl
theorem i_X12_coarsenessOf_2 : am_i m_X12_coarsenessOf 2 = some (2, .invokevirtual 328, 3, [88, 10], 0) := rfl
theorem b_X12_coarsenessOf_0 {a0 : Nat} {x1 : Int} {h : am_H} (k1 : K10 h a0) : rn m_X12_coarsenessOf 0 [.ref a0, .int (mI x1)] [] h = cl m_X12_coarsenessOf 5 [.ref a0, .int (mI x1)] [] (rn m_X12_noPicture 0 [.ref a0, .int (mI x1)] [] h) := by
  refine (tq_aload_n i_X12_coarsenessOf_0 rfl (isA_ref _) rfl).trans ?_
  refine (tq_iload_n i_X12_coarsenessOf_1 rfl rfl).trans ?_
  exact c_X12_noPicture i_X12_coarsenessOf_2 (K10_s k1) (ltd d_X12_coarsenessOf (by decide)) stOk_0 rfl
theorem i_X12_coarsenessOf_5 : am_i m_X12_coarsenessOf 5 = some (5, .ifCond .eq 7, 3, [], 0) := rfl
theorem i_X12_coarsenessOf_8 : am_i m_X12_coarsenessOf 8 = some (8, .iconst 0, 1, [], 0) := rfl
theorem i_X12_coarsenessOf_9 : am_i m_X12_coarsenessOf 9 = some (9, .goto 9, 3, [], 0) := rfl
theorem i_X12_coarsenessOf_12 : am_i m_X12_coarsenessOf 12 = some (12, .aload_n 0, 1, [], 0) := rfl
theorem i_X12_coarsenessOf_13 : am_i m_X12_coarsenessOf 13 = some (13, .getfield 43, 3, [10, 11, 0], 0) := rfl
theorem i_X12_coarsenessOf_16 : am_i m_X12_coarsenessOf 16 = some (16, .iload_n 1, 1, [], 0) := rfl
theorem i_X12_coarsenessOf_17 : am_i m_X12_coarsenessOf 17 = some (17, .iaload, 1, [], 0) := rfl
theorem i_X12_coarsenessOf_18 : am_i m_X12_coarsenessOf 18 = some (18, .ireturn, 1, [], 0) := rfl
theorem b_X12_coarsenessOf_5 {a0 : Nat} {x1 xs0 x1' xs0' : Int} {h : am_H} (w1 : wr x1 = x1') (ws0 : wr xs0 = xs0') (k1 : K10 h a0) (g2 : (xs0' = 0) → (0 ≤ x1' ∧ x1' < (12 : Int))) : rn m_X12_coarsenessOf 5 [.ref a0, .int (mI x1)] [.int (mI xs0)] h = some (.inl (some (.int (mI (if xs0' = 0 then (gZ h (a0 + 3) x1' : Int) else 0)))), h) := by
  refine (tq_if_eq (pt := 12) i_X12_coarsenessOf_5 ws0 (by decide) rfl).trans ?_
  refine Eq.trans (b := if xs0' = 0 then rn m_X12_coarsenessOf 18 [.ref a0, .int (mI x1)] [.int (mI (gZ h (a0 + 3) x1'))] h else rn m_X12_coarsenessOf 18 [.ref a0, .int (mI x1)] [.int (mI 0)] h) (ite_congr rfl (fun c1 => ?_) (fun c1 => ?_)) ?_
  · refine (tq_aload_n i_X12_coarsenessOf_12 rfl (isA_ref _) rfl).trans ?_
    refine (tq_getfield i_X12_coarsenessOf_13 (K10_s k1) (gR (g_10_11 (K10_s k1)) (K10_e11 k1)) (isV_ref _) rfl).trans ?_
    refine (tq_iload_n i_X12_coarsenessOf_16 rfl rfl).trans ?_
    refine (tq_iaload i_X12_coarsenessOf_17 (K10_s11 k1) (by decide) w1 (g2 c1).1 (lt_gn (K10_n11 k1) (g2 c1).2) rfl).trans ?_
    rfl
  · refine (tq_iconst i_X12_coarsenessOf_8 rfl).trans ?_
    refine (tq_goto (pc' := 18) i_X12_coarsenessOf_9 (by decide)).trans ?_
    rfl
  refine Eq.trans ite_I ?_
  exact tq_ireturn i_X12_coarsenessOf_18 r_X12_coarsenessOf rfl
theorem m_coarsenessOf (rm : RM σ h D) (wf : WfS σ c) {i : Int} (w : wr i = i) : (0 ≤ i ∧ i < tz σ 7 → MRs σ h D (rn m_X12_coarsenessOf 0 [.ref 51, .int (mI i)] [] h) (.int (mI (tpz σ i 3))) 0 0 0) ∧ (¬ (0 ≤ i ∧ i < tz σ 7) → MRs σ h D (rn m_X12_coarsenessOf 0 [.ref 51, .int (mI i)] [] h) (.int (mI 0)) 1 0 0) := by
  have n := WFn wf
  obtain ⟨t1, t2, t3, tm⟩ := thr_ok (D := D) (z := bZ (¬ (0 ≤ i ∧ i < tz σ 7))) rm (wr_bZ _)
  have st := b_X12_coarsenessOf_0 (a0 := 51) (x1 := i) (h := h) rm.1
  rw [nPic rm wf w, cl_v] at st
  refine ⟨fun g => ?_, fun g => ?_⟩
  · rw [bZ_f (fun q => q g)] at st t1 t2 t3
    have e : gZ (uF 10 h 51 0 (.int (mI 0))) 54 i = tpz σ i 3 := (t1.2.2.2.2.2.1 i g.1 g.2).1.2.1
    have st2 := b_X12_coarsenessOf_5 (a0 := 51) (x1 := i) (xs0 := 0) (h := uF 10 h 51 0 (.int (mI 0))) w (wr_id (by decide) (by decide)) t1.1 (fun _ => by omega)
    simp only [Nat.reduceAdd, if_true] at st2
    rw [e] at st2
    exact ⟨_, st.trans st2, t1, t2, t3⟩
  · rw [bZ_t g] at st t1 t2 t3
    have st2 := b_X12_coarsenessOf_5 (a0 := 51) (x1 := i) (xs0 := 1) (h := uF 10 h 51 0 (.int (mI 1))) w (wr_id (by decide) (by decide)) t1.1 (fun q => absurd q (by decide))
    rw [if_neg (by decide)] at st2
    exact ⟨_, st.trans st2, t1, t2, t3⟩
theorem i_X12_errorOf_0 : am_i m_X12_errorOf 0 = some (0, .aload_n 0, 1, [], 0) := rfl
theorem i_X12_errorOf_1 : am_i m_X12_errorOf 1 = some (1, .iload_n 1, 1, [], 0) := rfl
theorem i_X12_errorOf_2 : am_i m_X12_errorOf 2 = some (2, .invokevirtual 328, 3, [88, 10], 0) := rfl
theorem b_X12_errorOf_0 {a0 : Nat} {x1 : Int} {h : am_H} (k1 : K10 h a0) : rn m_X12_errorOf 0 [.ref a0, .int (mI x1)] [] h = cl m_X12_errorOf 5 [.ref a0, .int (mI x1)] [] (rn m_X12_noPicture 0 [.ref a0, .int (mI x1)] [] h) := by
  refine (tq_aload_n i_X12_errorOf_0 rfl (isA_ref _) rfl).trans ?_
  refine (tq_iload_n i_X12_errorOf_1 rfl rfl).trans ?_
  exact c_X12_noPicture i_X12_errorOf_2 (K10_s k1) (ltd d_X12_errorOf (by decide)) stOk_0 rfl
theorem i_X12_errorOf_5 : am_i m_X12_errorOf 5 = some (5, .ifCond .eq 7, 3, [], 0) := rfl
theorem i_X12_errorOf_8 : am_i m_X12_errorOf 8 = some (8, .lconst 0, 1, [], 0) := rfl
theorem i_X12_errorOf_9 : am_i m_X12_errorOf 9 = some (9, .goto 9, 3, [], 0) := rfl
theorem i_X12_errorOf_12 : am_i m_X12_errorOf 12 = some (12, .aload_n 0, 1, [], 0) := rfl
theorem i_X12_errorOf_13 : am_i m_X12_errorOf 13 = some (13, .getfield 65, 3, [10, 18, 0], 0) := rfl
theorem i_X12_errorOf_16 : am_i m_X12_errorOf 16 = some (16, .iload_n 1, 1, [], 0) := rfl
theorem i_X12_errorOf_17 : am_i m_X12_errorOf 17 = some (17, .laload, 1, [], 0) := rfl
theorem i_X12_errorOf_18 : am_i m_X12_errorOf 18 = some (18, .lreturn, 1, [], 0) := rfl
theorem b_X12_errorOf_5 {a0 : Nat} {x1 xs0 x1' xs0' : Int} {h : am_H} (w1 : wr x1 = x1') (ws0 : wr xs0 = xs0') (k1 : K10 h a0) (g2 : (xs0' = 0) → (0 ≤ x1' ∧ x1' < (12 : Int))) : rn m_X12_errorOf 5 [.ref a0, .int (mI x1)] [.int (mI xs0)] h = some (.inl (some (.long (mL (if xs0' = 0 then gJ h (a0 + 10) x1' else 0)))), h) := by
  refine (tq_if_eq (pt := 12) i_X12_errorOf_5 ws0 (by decide) rfl).trans ?_
  refine Eq.trans (b := if xs0' = 0 then rn m_X12_errorOf 18 [.ref a0, .int (mI x1)] [.long (mL (gJ h (a0 + 10) x1'))] h else rn m_X12_errorOf 18 [.ref a0, .int (mI x1)] [.long (mL 0)] h) (ite_congr rfl (fun c1 => ?_) (fun c1 => ?_)) ?_
  · refine (tq_aload_n i_X12_errorOf_12 rfl (isA_ref _) rfl).trans ?_
    refine (tq_getfield i_X12_errorOf_13 (K10_s k1) (gR (g_10_18 (K10_s k1)) (K10_e18 k1)) (isV_ref _) rfl).trans ?_
    refine (tq_iload_n i_X12_errorOf_16 rfl rfl).trans ?_
    refine (tq_laload i_X12_errorOf_17 (K10_s18 k1) w1 (g2 c1).1 (lt_gn (K10_n18 k1) (g2 c1).2) rfl).trans ?_
    rfl
  · refine (tq_lconst i_X12_errorOf_8 rfl).trans ?_
    refine (tq_goto (pc' := 18) i_X12_errorOf_9 (by decide)).trans ?_
    rfl
  refine Eq.trans ite_J ?_
  exact tq_lreturn i_X12_errorOf_18 r_X12_errorOf
theorem m_errorOf (rm : RM σ h D) (wf : WfS σ c) {i : Int} (w : wr i = i) : (0 ≤ i ∧ i < tz σ 7 → MRs σ h D (rn m_X12_errorOf 0 [.ref 51, .int (mI i)] [] h) (.long (mL (tpz σ i 7))) 0 0 0) ∧ (¬ (0 ≤ i ∧ i < tz σ 7) → MRs σ h D (rn m_X12_errorOf 0 [.ref 51, .int (mI i)] [] h) (.long (mL 0)) 1 0 0) := by
  have n := WFn wf
  obtain ⟨t1, t2, t3, tm⟩ := thr_ok (D := D) (z := bZ (¬ (0 ≤ i ∧ i < tz σ 7))) rm (wr_bZ _)
  have st := b_X12_errorOf_0 (a0 := 51) (x1 := i) (h := h) rm.1
  rw [nPic rm wf w, cl_v] at st
  refine ⟨fun g => ?_, fun g => ?_⟩
  · rw [bZ_f (fun q => q g)] at st t1 t2 t3
    have e : gJ (uF 10 h 51 0 (.int (mI 0))) 61 i = tpz σ i 7 := (t1.2.2.2.2.2.1 i g.1 g.2).1.2.2.2.2.2.2.2.2
    have st2 := b_X12_errorOf_5 (a0 := 51) (x1 := i) (xs0 := 0) (h := uF 10 h 51 0 (.int (mI 0))) w (wr_id (by decide) (by decide)) t1.1 (fun _ => by omega)
    simp only [Nat.reduceAdd, if_true] at st2
    rw [e] at st2
    exact ⟨_, st.trans st2, t1, t2, t3⟩
  · rw [bZ_t g] at st t1 t2 t3
    have st2 := b_X12_errorOf_5 (a0 := 51) (x1 := i) (xs0 := 1) (h := uF 10 h 51 0 (.int (mI 1))) w (wr_id (by decide) (by decide)) t1.1 (fun q => absurd q (by decide))
    rw [if_neg (by decide)] at st2
    exact ⟨_, st.trans st2, t1, t2, t3⟩
theorem qr_sq {x y : Int} (hx : 0 ≤ x ∧ x < 16) (hy : 0 ≤ y ∧ y < 16) : qr x y = rs (sq x y) := by
  rw [rs_sq hx hy]
  unfold qr
  omega
theorem i_X12_partAt_0 : am_i m_X12_partAt 0 = some (0, .aload_n 0, 1, [], 0) := rfl
theorem i_X12_partAt_1 : am_i m_X12_partAt 1 = some (1, .iload_n 1, 1, [], 0) := rfl
theorem i_X12_partAt_2 : am_i m_X12_partAt 2 = some (2, .iload_n 2, 1, [], 0) := rfl
theorem i_X12_partAt_3 : am_i m_X12_partAt 3 = some (3, .iload_n 3, 1, [], 0) := rfl
theorem i_X12_partAt_4 : am_i m_X12_partAt 4 = some (4, .invokevirtual 335, 3, [136, 10], 0) := rfl
theorem b_X12_partAt_0 {a0 : Nat} {x1 x2 x3 : Int} {h : am_H} (k1 : K10 h a0) : rn m_X12_partAt 0 [.ref a0, .int (mI x1), .int (mI x2), .int (mI x3)] [] h = cl m_X12_partAt 7 [.ref a0, .int (mI x1), .int (mI x2), .int (mI x3)] [] (rn m_X12_noPlace 0 [.ref a0, .int (mI x1), .int (mI x2), .int (mI x3)] [] h) := by
  refine (tq_aload_n i_X12_partAt_0 rfl (isA_ref _) rfl).trans ?_
  refine (tq_iload_n i_X12_partAt_1 rfl rfl).trans ?_
  refine (tq_iload_n i_X12_partAt_2 rfl rfl).trans ?_
  refine (tq_iload_n i_X12_partAt_3 rfl rfl).trans ?_
  exact c_X12_noPlace i_X12_partAt_4 (K10_s k1) (ltd d_X12_partAt (by decide)) stOk_0 rfl
theorem i_X12_partAt_7 : am_i m_X12_partAt 7 = some (7, .ifCond .eq 7, 3, [], 0) := rfl
theorem i_X12_partAt_10 : am_i m_X12_partAt 10 = some (10, .iconst 0, 1, [], 0) := rfl
theorem i_X12_partAt_11 : am_i m_X12_partAt 11 = some (11, .goto 15, 3, [], 0) := rfl
theorem i_X12_partAt_14 : am_i m_X12_partAt 14 = some (14, .aload_n 0, 1, [], 0) := rfl
theorem i_X12_partAt_15 : am_i m_X12_partAt 15 = some (15, .getfield 80, 3, [10, 22, 0], 0) := rfl
theorem i_X12_partAt_18 : am_i m_X12_partAt 18 = some (18, .iload_n 1, 1, [], 0) := rfl
theorem i_X12_partAt_19 : am_i m_X12_partAt 19 = some (19, .aaload, 1, [], 0) := rfl
theorem i_X12_partAt_20 : am_i m_X12_partAt 20 = some (20, .iload_n 2, 1, [], 0) := rfl
theorem i_X12_partAt_21 : am_i m_X12_partAt 21 = some (21, .iload_n 3, 1, [], 0) := rfl
theorem i_X12_partAt_22 : am_i m_X12_partAt 22 = some (22, .invokestatic 338, 3, [38], 0) := rfl
theorem i_X12_partAt_25 : am_i m_X12_partAt 25 = some (25, .iaload, 1, [], 0) := rfl
theorem i_X12_partAt_26 : am_i m_X12_partAt 26 = some (26, .ireturn, 1, [], 0) := rfl
theorem b_X12_partAt_7 {a0 b_19 n_b_19 : Nat} {x1 x2 x3 xs0 x1' x2' x3' xs0' : Int} {h : am_H} (w1 : wr x1 = x1') (w2 : wr x2 = x2') (w3 : wr x3 = x3') (ws0 : wr xs0 = xs0') (k1 : K10 h a0) (g2 : (xs0' = 0) → (0 ≤ x1' ∧ x1' < (12 : Int))) (e3 : (xs0' = 0) → (gA h (a0 + 14) x1' = some b_19)) (g4 : (xs0' = 0) → (0 ≤ x2' ∧ x2' < 16)) (g5 : (xs0' = 0) → (0 ≤ x3' ∧ x3' < 16)) (n6 : (xs0' = 0) → (gn h b_19 = n_b_19)) (s7 : (xs0' = 0) → (sh h b_19 = (1, 0))) (g8 : (xs0' = 0) → (0 ≤ qr x2' x3' ∧ qr x2' x3' < (n_b_19 : Int))) : rn m_X12_partAt 7 [.ref a0, .int (mI x1), .int (mI x2), .int (mI x3)] [.int (mI xs0)] h = some (.inl (some (.int (mI (if xs0' = 0 then (gZ h b_19 (qr x2' x3') : Int) else 0)))), h) := by
  refine (tq_if_eq (pt := 14) i_X12_partAt_7 ws0 (by decide) rfl).trans ?_
  refine Eq.trans (b := if xs0' = 0 then rn m_X12_partAt 26 [.ref a0, .int (mI x1), .int (mI x2), .int (mI x3)] [.int (mI (gZ h b_19 (qr x2' x3')))] h else rn m_X12_partAt 26 [.ref a0, .int (mI x1), .int (mI x2), .int (mI x3)] [.int (mI 0)] h) (ite_congr rfl (fun c1 => ?_) (fun c1 => ?_)) ?_
  · refine (tq_aload_n i_X12_partAt_14 rfl (isA_ref _) rfl).trans ?_
    refine (tq_getfield i_X12_partAt_15 (K10_s k1) (gR (g_10_22 (K10_s k1)) (K10_e22 k1)) (isV_ref _) rfl).trans ?_
    refine (tq_iload_n i_X12_partAt_18 rfl rfl).trans ?_
    refine (tq_aaload i_X12_partAt_19 (K10_s22 k1) w1 (g2 c1).1 (lt_gn (K10_n22 k1) (g2 c1).2) rfl).trans ?_
    rw [(e3 c1)]
    simp only [am_rv]
    refine (tq_iload_n i_X12_partAt_20 rfl rfl).trans ?_
    refine (tq_iload_n i_X12_partAt_21 rfl rfl).trans ?_
    refine (c_X12_square i_X12_partAt_22 (ltd d_X12_partAt (by decide)) (stOk_1 _) rfl).trans ?_
    refine (congrArg (cl _ _ _ _) (square12_ok w2 w3 (g4 c1) (g5 c1))).trans ?_
    refine (cl_v _ _ _ _ _ _).trans ?_
    refine (tq_iaload i_X12_partAt_25 (s7 c1) (by decide) (wr_qr _ _) (g8 c1).1 (lt_gn (n6 c1) (g8 c1).2) rfl).trans ?_
    rfl
  · refine (tq_iconst i_X12_partAt_10 rfl).trans ?_
    refine (tq_goto (pc' := 26) i_X12_partAt_11 (by decide)).trans ?_
    rfl
  refine Eq.trans ite_I ?_
  exact tq_ireturn i_X12_partAt_26 r_X12_partAt rfl
theorem m_partAt (rm : RM σ h D) (wf : WfS σ c) {i x y : Int} (w : wr i = i) (wx : wr x = x) (wy : wr y = y) : (isPl σ i x y → MRs σ h D (rn m_X12_partAt 0 [.ref 51, .int (mI i), .int (mI x), .int (mI y)] [] h) (.int (mI (tpd σ i 0 (sq x y)))) 0 0 0) ∧ (¬ isPl σ i x y → MRs σ h D (rn m_X12_partAt 0 [.ref 51, .int (mI i), .int (mI x), .int (mI y)] [] h) (.int (mI 0)) 1 0 0) := by
  have n := WFn wf
  unfold isPl
  obtain ⟨t1, t2, t3, tm⟩ := thr_ok (D := D) (z := bZ (¬ ((0 ≤ i ∧ i < tz σ 7) ∧ (0 ≤ x ∧ x < 16) ∧ 0 ≤ y ∧ y < 16))) rm (wr_bZ _)
  have st := b_X12_partAt_0 (a0 := 51) (x1 := i) (x2 := x) (x3 := y) (h := h) rm.1
  rw [nPl rm wf w wx wy, cl_v] at st
  refine ⟨fun g => ?_, fun g => ?_⟩
  · rw [bZ_f (fun q => q g)] at st t1 t2 t3
    obtain ⟨Z, z1, z2, z3, z4⟩ := (t1.2.2.2.2.2.1 i g.1.1 g.1.2).2.2.1.2.1
    have sb := sq_b x y
    have rb := rs_b (sq x y)
    have st2 := b_X12_partAt_7 (a0 := 51) (b_19 := Z) (n_b_19 := 16) (x1 := i) (x2 := x) (x3 := y) (xs0 := 0) (h := uF 10 h 51 0 (.int (mI 0))) w wx wy (wr_id (by decide) (by decide)) t1.1 (fun _ => by omega) (fun _ => z1) (fun _ => g.2.1) (fun _ => g.2.2) (fun _ => z3.2) (fun _ => z3.1) (fun _ => by rw [qr_sq g.2.1 g.2.2]; omega)
    rw [if_pos rfl, qr_sq g.2.1 g.2.2, z4 _ sb.1 sb.2] at st2
    exact ⟨_, st.trans st2, t1, t2, t3⟩
  · rw [bZ_t g] at st t1 t2 t3
    have st2 := b_X12_partAt_7 (a0 := 51) (b_19 := 0) (n_b_19 := 16) (x1 := i) (x2 := x) (x3 := y) (xs0 := 1) (h := uF 10 h 51 0 (.int (mI 1))) w wx wy (wr_id (by decide) (by decide)) t1.1 (fun q => absurd q (by decide)) (fun q => absurd q (by decide)) (fun q => absurd q (by decide)) (fun q => absurd q (by decide)) (fun q => absurd q (by decide)) (fun q => absurd q (by decide)) (fun q => absurd q (by decide))
    rw [if_neg (by decide)] at st2
    exact ⟨_, st.trans st2, t1, t2, t3⟩
theorem i_X12_modeAt_0 : am_i m_X12_modeAt 0 = some (0, .aload_n 0, 1, [], 0) := rfl
theorem i_X12_modeAt_1 : am_i m_X12_modeAt 1 = some (1, .iload_n 1, 1, [], 0) := rfl
theorem i_X12_modeAt_2 : am_i m_X12_modeAt 2 = some (2, .iload_n 2, 1, [], 0) := rfl
theorem i_X12_modeAt_3 : am_i m_X12_modeAt 3 = some (3, .iload_n 3, 1, [], 0) := rfl
theorem i_X12_modeAt_4 : am_i m_X12_modeAt 4 = some (4, .invokevirtual 335, 3, [136, 10], 0) := rfl
theorem b_X12_modeAt_0 {a0 : Nat} {x1 x2 x3 : Int} {h : am_H} (k1 : K10 h a0) : rn m_X12_modeAt 0 [.ref a0, .int (mI x1), .int (mI x2), .int (mI x3)] [] h = cl m_X12_modeAt 7 [.ref a0, .int (mI x1), .int (mI x2), .int (mI x3)] [] (rn m_X12_noPlace 0 [.ref a0, .int (mI x1), .int (mI x2), .int (mI x3)] [] h) := by
  refine (tq_aload_n i_X12_modeAt_0 rfl (isA_ref _) rfl).trans ?_
  refine (tq_iload_n i_X12_modeAt_1 rfl rfl).trans ?_
  refine (tq_iload_n i_X12_modeAt_2 rfl rfl).trans ?_
  refine (tq_iload_n i_X12_modeAt_3 rfl rfl).trans ?_
  exact c_X12_noPlace i_X12_modeAt_4 (K10_s k1) (ltd d_X12_modeAt (by decide)) stOk_0 rfl
theorem i_X12_modeAt_7 : am_i m_X12_modeAt 7 = some (7, .ifCond .eq 7, 3, [], 0) := rfl
theorem i_X12_modeAt_10 : am_i m_X12_modeAt 10 = some (10, .iconst 0, 1, [], 0) := rfl
theorem i_X12_modeAt_11 : am_i m_X12_modeAt 11 = some (11, .goto 15, 3, [], 0) := rfl
theorem i_X12_modeAt_14 : am_i m_X12_modeAt 14 = some (14, .aload_n 0, 1, [], 0) := rfl
theorem i_X12_modeAt_15 : am_i m_X12_modeAt 15 = some (15, .getfield 83, 3, [10, 23, 0], 0) := rfl
theorem i_X12_modeAt_18 : am_i m_X12_modeAt 18 = some (18, .iload_n 1, 1, [], 0) := rfl
theorem i_X12_modeAt_19 : am_i m_X12_modeAt 19 = some (19, .aaload, 1, [], 0) := rfl
theorem i_X12_modeAt_20 : am_i m_X12_modeAt 20 = some (20, .iload_n 2, 1, [], 0) := rfl
theorem i_X12_modeAt_21 : am_i m_X12_modeAt 21 = some (21, .iload_n 3, 1, [], 0) := rfl
theorem i_X12_modeAt_22 : am_i m_X12_modeAt 22 = some (22, .invokestatic 338, 3, [38], 0) := rfl
theorem i_X12_modeAt_25 : am_i m_X12_modeAt 25 = some (25, .iaload, 1, [], 0) := rfl
theorem i_X12_modeAt_26 : am_i m_X12_modeAt 26 = some (26, .ireturn, 1, [], 0) := rfl
theorem b_X12_modeAt_7 {a0 b_19 n_b_19 : Nat} {x1 x2 x3 xs0 x1' x2' x3' xs0' : Int} {h : am_H} (w1 : wr x1 = x1') (w2 : wr x2 = x2') (w3 : wr x3 = x3') (ws0 : wr xs0 = xs0') (k1 : K10 h a0) (g2 : (xs0' = 0) → (0 ≤ x1' ∧ x1' < (12 : Int))) (e3 : (xs0' = 0) → (gA h (a0 + 15) x1' = some b_19)) (g4 : (xs0' = 0) → (0 ≤ x2' ∧ x2' < 16)) (g5 : (xs0' = 0) → (0 ≤ x3' ∧ x3' < 16)) (n6 : (xs0' = 0) → (gn h b_19 = n_b_19)) (s7 : (xs0' = 0) → (sh h b_19 = (1, 0))) (g8 : (xs0' = 0) → (0 ≤ qr x2' x3' ∧ qr x2' x3' < (n_b_19 : Int))) : rn m_X12_modeAt 7 [.ref a0, .int (mI x1), .int (mI x2), .int (mI x3)] [.int (mI xs0)] h = some (.inl (some (.int (mI (if xs0' = 0 then (gZ h b_19 (qr x2' x3') : Int) else 0)))), h) := by
  refine (tq_if_eq (pt := 14) i_X12_modeAt_7 ws0 (by decide) rfl).trans ?_
  refine Eq.trans (b := if xs0' = 0 then rn m_X12_modeAt 26 [.ref a0, .int (mI x1), .int (mI x2), .int (mI x3)] [.int (mI (gZ h b_19 (qr x2' x3')))] h else rn m_X12_modeAt 26 [.ref a0, .int (mI x1), .int (mI x2), .int (mI x3)] [.int (mI 0)] h) (ite_congr rfl (fun c1 => ?_) (fun c1 => ?_)) ?_
  · refine (tq_aload_n i_X12_modeAt_14 rfl (isA_ref _) rfl).trans ?_
    refine (tq_getfield i_X12_modeAt_15 (K10_s k1) (gR (g_10_23 (K10_s k1)) (K10_e23 k1)) (isV_ref _) rfl).trans ?_
    refine (tq_iload_n i_X12_modeAt_18 rfl rfl).trans ?_
    refine (tq_aaload i_X12_modeAt_19 (K10_s23 k1) w1 (g2 c1).1 (lt_gn (K10_n23 k1) (g2 c1).2) rfl).trans ?_
    rw [(e3 c1)]
    simp only [am_rv]
    refine (tq_iload_n i_X12_modeAt_20 rfl rfl).trans ?_
    refine (tq_iload_n i_X12_modeAt_21 rfl rfl).trans ?_
    refine (c_X12_square i_X12_modeAt_22 (ltd d_X12_modeAt (by decide)) (stOk_1 _) rfl).trans ?_
    refine (congrArg (cl _ _ _ _) (square12_ok w2 w3 (g4 c1) (g5 c1))).trans ?_
    refine (cl_v _ _ _ _ _ _).trans ?_
    refine (tq_iaload i_X12_modeAt_25 (s7 c1) (by decide) (wr_qr _ _) (g8 c1).1 (lt_gn (n6 c1) (g8 c1).2) rfl).trans ?_
    rfl
  · refine (tq_iconst i_X12_modeAt_10 rfl).trans ?_
    refine (tq_goto (pc' := 26) i_X12_modeAt_11 (by decide)).trans ?_
    rfl
  refine Eq.trans ite_I ?_
  exact tq_ireturn i_X12_modeAt_26 r_X12_modeAt rfl
theorem m_modeAt (rm : RM σ h D) (wf : WfS σ c) {i x y : Int} (w : wr i = i) (wx : wr x = x) (wy : wr y = y) : (isPl σ i x y → MRs σ h D (rn m_X12_modeAt 0 [.ref 51, .int (mI i), .int (mI x), .int (mI y)] [] h) (.int (mI (tpd σ i 1 (sq x y)))) 0 0 0) ∧ (¬ isPl σ i x y → MRs σ h D (rn m_X12_modeAt 0 [.ref 51, .int (mI i), .int (mI x), .int (mI y)] [] h) (.int (mI 0)) 1 0 0) := by
  have n := WFn wf
  unfold isPl
  obtain ⟨t1, t2, t3, tm⟩ := thr_ok (D := D) (z := bZ (¬ ((0 ≤ i ∧ i < tz σ 7) ∧ (0 ≤ x ∧ x < 16) ∧ 0 ≤ y ∧ y < 16))) rm (wr_bZ _)
  have st := b_X12_modeAt_0 (a0 := 51) (x1 := i) (x2 := x) (x3 := y) (h := h) rm.1
  rw [nPl rm wf w wx wy, cl_v] at st
  refine ⟨fun g => ?_, fun g => ?_⟩
  · rw [bZ_f (fun q => q g)] at st t1 t2 t3
    obtain ⟨Z, z1, z2, z3, z4⟩ := (t1.2.2.2.2.2.1 i g.1.1 g.1.2).2.2.1.2.2.1
    have sb := sq_b x y
    have rb := rs_b (sq x y)
    have st2 := b_X12_modeAt_7 (a0 := 51) (b_19 := Z) (n_b_19 := 16) (x1 := i) (x2 := x) (x3 := y) (xs0 := 0) (h := uF 10 h 51 0 (.int (mI 0))) w wx wy (wr_id (by decide) (by decide)) t1.1 (fun _ => by omega) (fun _ => z1) (fun _ => g.2.1) (fun _ => g.2.2) (fun _ => z3.2) (fun _ => z3.1) (fun _ => by rw [qr_sq g.2.1 g.2.2]; omega)
    rw [if_pos rfl, qr_sq g.2.1 g.2.2, z4 _ sb.1 sb.2] at st2
    exact ⟨_, st.trans st2, t1, t2, t3⟩
  · rw [bZ_t g] at st t1 t2 t3
    have st2 := b_X12_modeAt_7 (a0 := 51) (b_19 := 0) (n_b_19 := 16) (x1 := i) (x2 := x) (x3 := y) (xs0 := 1) (h := uF 10 h 51 0 (.int (mI 1))) w wx wy (wr_id (by decide) (by decide)) t1.1 (fun q => absurd q (by decide)) (fun q => absurd q (by decide)) (fun q => absurd q (by decide)) (fun q => absurd q (by decide)) (fun q => absurd q (by decide)) (fun q => absurd q (by decide)) (fun q => absurd q (by decide))
    rw [if_neg (by decide)] at st2
    exact ⟨_, st.trans st2, t1, t2, t3⟩
theorem i_X12_levelAt_0 : am_i m_X12_levelAt 0 = some (0, .aload_n 0, 1, [], 0) := rfl
theorem i_X12_levelAt_1 : am_i m_X12_levelAt 1 = some (1, .iload_n 1, 1, [], 0) := rfl
theorem i_X12_levelAt_2 : am_i m_X12_levelAt 2 = some (2, .iload_n 2, 1, [], 0) := rfl
theorem i_X12_levelAt_3 : am_i m_X12_levelAt 3 = some (3, .iload_n 3, 1, [], 0) := rfl
theorem i_X12_levelAt_4 : am_i m_X12_levelAt 4 = some (4, .invokevirtual 335, 3, [136, 10], 0) := rfl
theorem b_X12_levelAt_0 {a0 : Nat} {x1 x2 x3 : Int} {h : am_H} (k1 : K10 h a0) : rn m_X12_levelAt 0 [.ref a0, .int (mI x1), .int (mI x2), .int (mI x3)] [] h = cl m_X12_levelAt 7 [.ref a0, .int (mI x1), .int (mI x2), .int (mI x3)] [] (rn m_X12_noPlace 0 [.ref a0, .int (mI x1), .int (mI x2), .int (mI x3)] [] h) := by
  refine (tq_aload_n i_X12_levelAt_0 rfl (isA_ref _) rfl).trans ?_
  refine (tq_iload_n i_X12_levelAt_1 rfl rfl).trans ?_
  refine (tq_iload_n i_X12_levelAt_2 rfl rfl).trans ?_
  refine (tq_iload_n i_X12_levelAt_3 rfl rfl).trans ?_
  exact c_X12_noPlace i_X12_levelAt_4 (K10_s k1) (ltd d_X12_levelAt (by decide)) stOk_0 rfl
theorem i_X12_levelAt_7 : am_i m_X12_levelAt 7 = some (7, .ifCond .eq 7, 3, [], 0) := rfl
theorem i_X12_levelAt_10 : am_i m_X12_levelAt 10 = some (10, .iconst 0, 1, [], 0) := rfl
theorem i_X12_levelAt_11 : am_i m_X12_levelAt 11 = some (11, .goto 16, 3, [], 0) := rfl
theorem i_X12_levelAt_14 : am_i m_X12_levelAt 14 = some (14, .aload_n 0, 1, [], 0) := rfl
theorem i_X12_levelAt_15 : am_i m_X12_levelAt 15 = some (15, .getfield 74, 3, [10, 20, 0], 0) := rfl
theorem i_X12_levelAt_18 : am_i m_X12_levelAt 18 = some (18, .iload_n 1, 1, [], 0) := rfl
theorem i_X12_levelAt_19 : am_i m_X12_levelAt 19 = some (19, .aaload, 1, [], 0) := rfl
theorem i_X12_levelAt_20 : am_i m_X12_levelAt 20 = some (20, .bipush 16, 2, [], 16) := rfl
theorem i_X12_levelAt_22 : am_i m_X12_levelAt 22 = some (22, .iload_n 3, 1, [], 0) := rfl
theorem i_X12_levelAt_23 : am_i m_X12_levelAt 23 = some (23, .imul, 1, [], 0) := rfl
theorem i_X12_levelAt_24 : am_i m_X12_levelAt 24 = some (24, .iload_n 2, 1, [], 0) := rfl
theorem i_X12_levelAt_25 : am_i m_X12_levelAt 25 = some (25, .iadd, 1, [], 0) := rfl
theorem i_X12_levelAt_26 : am_i m_X12_levelAt 26 = some (26, .iaload, 1, [], 0) := rfl
theorem i_X12_levelAt_27 : am_i m_X12_levelAt 27 = some (27, .ireturn, 1, [], 0) := rfl
theorem b_X12_levelAt_7 {a0 b_19 n_b_19 : Nat} {x1 x2 x3 xs0 x1' xs0' : Int} {h : am_H} (w1 : wr x1 = x1') (ws0 : wr xs0 = xs0') (k1 : K10 h a0) (g2 : (xs0' = 0) → (0 ≤ x1' ∧ x1' < (12 : Int))) (e3 : (xs0' = 0) → (gA h (a0 + 12) x1' = some b_19)) (n4 : (xs0' = 0) → (gn h b_19 = n_b_19)) (s5 : (xs0' = 0) → (sh h b_19 = (1, 0))) (g6 : (xs0' = 0) → (0 ≤ wr ((16 * x3) + x2) ∧ wr ((16 * x3) + x2) < (n_b_19 : Int))) : rn m_X12_levelAt 7 [.ref a0, .int (mI x1), .int (mI x2), .int (mI x3)] [.int (mI xs0)] h = some (.inl (some (.int (mI (if xs0' = 0 then (gZ h b_19 (wr ((16 * x3) + x2)) : Int) else 0)))), h) := by
  refine (tq_if_eq (pt := 14) i_X12_levelAt_7 ws0 (by decide) rfl).trans ?_
  refine Eq.trans (b := if xs0' = 0 then rn m_X12_levelAt 27 [.ref a0, .int (mI x1), .int (mI x2), .int (mI x3)] [.int (mI (gZ h b_19 (wr ((16 * x3) + x2))))] h else rn m_X12_levelAt 27 [.ref a0, .int (mI x1), .int (mI x2), .int (mI x3)] [.int (mI 0)] h) (ite_congr rfl (fun c1 => ?_) (fun c1 => ?_)) ?_
  · refine (tq_aload_n i_X12_levelAt_14 rfl (isA_ref _) rfl).trans ?_
    refine (tq_getfield i_X12_levelAt_15 (K10_s k1) (gR (g_10_20 (K10_s k1)) (K10_e20 k1)) (isV_ref _) rfl).trans ?_
    refine (tq_iload_n i_X12_levelAt_18 rfl rfl).trans ?_
    refine (tq_aaload i_X12_levelAt_19 (K10_s20 k1) w1 (g2 c1).1 (lt_gn (K10_n20 k1) (g2 c1).2) rfl).trans ?_
    rw [(e3 c1)]
    simp only [am_rv]
    refine (tq_bipush i_X12_levelAt_20 rfl).trans ?_
    refine (tq_iload_n i_X12_levelAt_22 rfl rfl).trans ?_
    refine (tq_imul i_X12_levelAt_23 rfl).trans ?_
    refine (tq_iload_n i_X12_levelAt_24 rfl rfl).trans ?_
    refine (tq_iadd i_X12_levelAt_25 rfl).trans ?_
    refine (tq_iaload i_X12_levelAt_26 (s5 c1) (by decide) rfl (g6 c1).1 (lt_gn (n4 c1) (g6 c1).2) rfl).trans ?_
    rfl
  · refine (tq_iconst i_X12_levelAt_10 rfl).trans ?_
    refine (tq_goto (pc' := 27) i_X12_levelAt_11 (by decide)).trans ?_
    rfl
  refine Eq.trans ite_I ?_
  exact tq_ireturn i_X12_levelAt_27 r_X12_levelAt rfl
theorem m_levelAt (rm : RM σ h D) (wf : WfS σ c) {i x y : Int} (w : wr i = i) (wx : wr x = x) (wy : wr y = y) : (isPl σ i x y → MRs σ h D (rn m_X12_levelAt 0 [.ref 51, .int (mI i), .int (mI x), .int (mI y)] [] h) (.int (mI (tpd σ i 4 (16 * y + x)))) 0 0 0) ∧ (¬ isPl σ i x y → MRs σ h D (rn m_X12_levelAt 0 [.ref 51, .int (mI i), .int (mI x), .int (mI y)] [] h) (.int (mI 0)) 1 0 0) := by
  have n := WFn wf
  unfold isPl
  obtain ⟨t1, t2, t3, tm⟩ := thr_ok (D := D) (z := bZ (¬ ((0 ≤ i ∧ i < tz σ 7) ∧ (0 ≤ x ∧ x < 16) ∧ 0 ≤ y ∧ y < 16))) rm (wr_bZ _)
  have st := b_X12_levelAt_0 (a0 := 51) (x1 := i) (x2 := x) (x3 := y) (h := h) rm.1
  rw [nPl rm wf w wx wy, cl_v] at st
  refine ⟨fun g => ?_, fun g => ?_⟩
  · rw [bZ_f (fun q => q g)] at st t1 t2 t3
    obtain ⟨Z, z1, z2, z3, z4⟩ := (t1.2.2.2.2.2.1 i g.1.1 g.1.2).2.2.1.1
    obtain ⟨b0, b1, b2⟩ := w16 g.2.1 g.2.2
    have st2 := b_X12_levelAt_7 (a0 := 51) (b_19 := Z) (n_b_19 := 256) (x1 := i) (x2 := x) (x3 := y) (xs0 := 0) (h := uF 10 h 51 0 (.int (mI 0))) w (wr_id (by decide) (by decide)) t1.1 (fun _ => by omega) (fun _ => z1) (fun _ => z3.2) (fun _ => z3.1) (fun _ => by rw [b0]; omega)
    rw [if_pos rfl, b0, z4 _ b1 b2] at st2
    exact ⟨_, st.trans st2, t1, t2, t3⟩
  · rw [bZ_t g] at st t1 t2 t3
    have st2 := b_X12_levelAt_7 (a0 := 51) (b_19 := 0) (n_b_19 := 256) (x1 := i) (x2 := x) (x3 := y) (xs0 := 1) (h := uF 10 h 51 0 (.int (mI 1))) w (wr_id (by decide) (by decide)) t1.1 (fun q => absurd q (by decide)) (fun q => absurd q (by decide)) (fun q => absurd q (by decide)) (fun q => absurd q (by decide)) (fun q => absurd q (by decide))
    rw [if_neg (by decide)] at st2
    exact ⟨_, st.trans st2, t1, t2, t3⟩
theorem i_X12_built_0 : am_i m_X12_built 0 = some (0, .aload_n 0, 1, [], 0) := rfl
theorem i_X12_built_1 : am_i m_X12_built 1 = some (1, .iload_n 1, 1, [], 0) := rfl
theorem i_X12_built_2 : am_i m_X12_built 2 = some (2, .iload_n 2, 1, [], 0) := rfl
theorem i_X12_built_3 : am_i m_X12_built 3 = some (3, .iload_n 3, 1, [], 0) := rfl
theorem i_X12_built_4 : am_i m_X12_built 4 = some (4, .invokevirtual 335, 3, [136, 10], 0) := rfl
theorem b_X12_built_0 {a0 : Nat} {x1 x2 x3 : Int} {h : am_H} (k1 : K10 h a0) : rn m_X12_built 0 [.ref a0, .int (mI x1), .int (mI x2), .int (mI x3)] [] h = cl m_X12_built 7 [.ref a0, .int (mI x1), .int (mI x2), .int (mI x3)] [] (rn m_X12_noPlace 0 [.ref a0, .int (mI x1), .int (mI x2), .int (mI x3)] [] h) := by
  refine (tq_aload_n i_X12_built_0 rfl (isA_ref _) rfl).trans ?_
  refine (tq_iload_n i_X12_built_1 rfl rfl).trans ?_
  refine (tq_iload_n i_X12_built_2 rfl rfl).trans ?_
  refine (tq_iload_n i_X12_built_3 rfl rfl).trans ?_
  exact c_X12_noPlace i_X12_built_4 (K10_s k1) (ltd d_X12_built (by decide)) stOk_0 rfl
theorem i_X12_built_7 : am_i m_X12_built 7 = some (7, .ifCond .eq 7, 3, [], 0) := rfl
theorem i_X12_built_10 : am_i m_X12_built 10 = some (10, .iconst 0, 1, [], 0) := rfl
theorem i_X12_built_11 : am_i m_X12_built 11 = some (11, .goto 16, 3, [], 0) := rfl
theorem i_X12_built_14 : am_i m_X12_built 14 = some (14, .aload_n 0, 1, [], 0) := rfl
theorem i_X12_built_15 : am_i m_X12_built 15 = some (15, .getfield 70, 3, [10, 19, 0], 0) := rfl
theorem i_X12_built_18 : am_i m_X12_built 18 = some (18, .iload_n 1, 1, [], 0) := rfl
theorem i_X12_built_19 : am_i m_X12_built 19 = some (19, .aaload, 1, [], 0) := rfl
theorem i_X12_built_20 : am_i m_X12_built 20 = some (20, .bipush 16, 2, [], 16) := rfl
theorem i_X12_built_22 : am_i m_X12_built 22 = some (22, .iload_n 3, 1, [], 0) := rfl
theorem i_X12_built_23 : am_i m_X12_built 23 = some (23, .imul, 1, [], 0) := rfl
theorem i_X12_built_24 : am_i m_X12_built 24 = some (24, .iload_n 2, 1, [], 0) := rfl
theorem i_X12_built_25 : am_i m_X12_built 25 = some (25, .iadd, 1, [], 0) := rfl
theorem i_X12_built_26 : am_i m_X12_built 26 = some (26, .iaload, 1, [], 0) := rfl
theorem i_X12_built_27 : am_i m_X12_built 27 = some (27, .ireturn, 1, [], 0) := rfl
theorem b_X12_built_7 {a0 b_19 n_b_19 : Nat} {x1 x2 x3 xs0 x1' xs0' : Int} {h : am_H} (w1 : wr x1 = x1') (ws0 : wr xs0 = xs0') (k1 : K10 h a0) (g2 : (xs0' = 0) → (0 ≤ x1' ∧ x1' < (12 : Int))) (e3 : (xs0' = 0) → (gA h (a0 + 11) x1' = some b_19)) (n4 : (xs0' = 0) → (gn h b_19 = n_b_19)) (s5 : (xs0' = 0) → (sh h b_19 = (1, 0))) (g6 : (xs0' = 0) → (0 ≤ wr ((16 * x3) + x2) ∧ wr ((16 * x3) + x2) < (n_b_19 : Int))) : rn m_X12_built 7 [.ref a0, .int (mI x1), .int (mI x2), .int (mI x3)] [.int (mI xs0)] h = some (.inl (some (.int (mI (if xs0' = 0 then (gZ h b_19 (wr ((16 * x3) + x2)) : Int) else 0)))), h) := by
  refine (tq_if_eq (pt := 14) i_X12_built_7 ws0 (by decide) rfl).trans ?_
  refine Eq.trans (b := if xs0' = 0 then rn m_X12_built 27 [.ref a0, .int (mI x1), .int (mI x2), .int (mI x3)] [.int (mI (gZ h b_19 (wr ((16 * x3) + x2))))] h else rn m_X12_built 27 [.ref a0, .int (mI x1), .int (mI x2), .int (mI x3)] [.int (mI 0)] h) (ite_congr rfl (fun c1 => ?_) (fun c1 => ?_)) ?_
  · refine (tq_aload_n i_X12_built_14 rfl (isA_ref _) rfl).trans ?_
    refine (tq_getfield i_X12_built_15 (K10_s k1) (gR (g_10_19 (K10_s k1)) (K10_e19 k1)) (isV_ref _) rfl).trans ?_
    refine (tq_iload_n i_X12_built_18 rfl rfl).trans ?_
    refine (tq_aaload i_X12_built_19 (K10_s19 k1) w1 (g2 c1).1 (lt_gn (K10_n19 k1) (g2 c1).2) rfl).trans ?_
    rw [(e3 c1)]
    simp only [am_rv]
    refine (tq_bipush i_X12_built_20 rfl).trans ?_
    refine (tq_iload_n i_X12_built_22 rfl rfl).trans ?_
    refine (tq_imul i_X12_built_23 rfl).trans ?_
    refine (tq_iload_n i_X12_built_24 rfl rfl).trans ?_
    refine (tq_iadd i_X12_built_25 rfl).trans ?_
    refine (tq_iaload i_X12_built_26 (s5 c1) (by decide) rfl (g6 c1).1 (lt_gn (n4 c1) (g6 c1).2) rfl).trans ?_
    rfl
  · refine (tq_iconst i_X12_built_10 rfl).trans ?_
    refine (tq_goto (pc' := 27) i_X12_built_11 (by decide)).trans ?_
    rfl
  refine Eq.trans ite_I ?_
  exact tq_ireturn i_X12_built_27 r_X12_built rfl
theorem m_built (rm : RM σ h D) (wf : WfS σ c) {i x y : Int} (w : wr i = i) (wx : wr x = x) (wy : wr y = y) : (isPl σ i x y → MRs σ h D (rn m_X12_built 0 [.ref 51, .int (mI i), .int (mI x), .int (mI y)] [] h) (.int (mI (tpd σ i 5 (16 * y + x)))) 0 0 0) ∧ (¬ isPl σ i x y → MRs σ h D (rn m_X12_built 0 [.ref 51, .int (mI i), .int (mI x), .int (mI y)] [] h) (.int (mI 0)) 1 0 0) := by
  have n := WFn wf
  unfold isPl
  obtain ⟨t1, t2, t3, tm⟩ := thr_ok (D := D) (z := bZ (¬ ((0 ≤ i ∧ i < tz σ 7) ∧ (0 ≤ x ∧ x < 16) ∧ 0 ≤ y ∧ y < 16))) rm (wr_bZ _)
  have st := b_X12_built_0 (a0 := 51) (x1 := i) (x2 := x) (x3 := y) (h := h) rm.1
  rw [nPl rm wf w wx wy, cl_v] at st
  refine ⟨fun g => ?_, fun g => ?_⟩
  · rw [bZ_f (fun q => q g)] at st t1 t2 t3
    obtain ⟨Z, z1, z2, z3, z4⟩ := (t1.2.2.2.2.2.1 i g.1.1 g.1.2).2.1
    obtain ⟨b0, b1, b2⟩ := w16 g.2.1 g.2.2
    have st2 := b_X12_built_7 (a0 := 51) (b_19 := Z) (n_b_19 := gn (uF 10 h 51 0 (.int (mI 0))) Z) (x1 := i) (x2 := x) (x3 := y) (xs0 := 0) (h := uF 10 h 51 0 (.int (mI 0))) w (wr_id (by decide) (by decide)) t1.1 (fun _ => by omega) (fun _ => z1) (fun _ => rfl) (fun _ => z3.1) (fun _ => by rw [b0, z3.2]; omega)
    rw [if_pos rfl, b0, z4 _ b1 b2] at st2
    exact ⟨_, st.trans st2, t1, t2, t3⟩
  · rw [bZ_t g] at st t1 t2 t3
    have st2 := b_X12_built_7 (a0 := 51) (b_19 := 0) (n_b_19 := 256) (x1 := i) (x2 := x) (x3 := y) (xs0 := 1) (h := uF 10 h 51 0 (.int (mI 1))) w (wr_id (by decide) (by decide)) t1.1 (fun q => absurd q (by decide)) (fun q => absurd q (by decide)) (fun q => absurd q (by decide)) (fun q => absurd q (by decide)) (fun q => absurd q (by decide))
    rw [if_neg (by decide)] at st2
    exact ⟨_, st.trans st2, t1, t2, t3⟩
end MQ
