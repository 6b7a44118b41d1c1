/-! ===== settings, joining: the class ===== -/
def upz (σ : St) (k : Nat) (v : Int) : St := (fun j => if j = k then v else σ.1 j, σ.2)
theorem upz_ne {σ : St} {k j : Nat} {v : Int} (n : j ≠ k) : tz (upz σ k v) j = tz σ j := if_neg n
def stj (σ : St) (x : Int) : St := (fun j => if j = 9 then x else if j = 10 then -1 else if j = 11 then 0 else if j = 12 then 0 else σ.1 j, (σ.2.1, (σ.2.2.1, (σ.2.2.2.1, (σ.2.2.2.2.1, (fun _ => 128, (fun _ _ => 128, fun _ => 0)))))))
/-- what the class's calls change but for coding -/
def SC0 : Nat → Nat → Prop := fun a _ => (2 ≤ a ∧ a ≤ 6) ∨ (16 ≤ a ∧ a ≤ 50)
section SC
variable {σ σ' : St} {h h' : am_H} {D : Nat} {c : Int}
/-- the class with other settings -/
theorem RC_set (m : Md (fun a k => (a = 2 ∧ 2 ≤ k ∧ k ≤ 5) ∨ (a = 5 ∧ k ≤ 2)) h h') (e2 : σ'.2 = σ.2) (ez : ∀ j, 7 ≤ j → tz σ' j = tz σ j) (s : RCs σ' h') (rc : RC σ h D) : RC σ' h' D := by
  obtain ⟨a1, a2, al⟩ := RC_al rc
  obtain ⟨r1, r2, r6, r7, r8, r9, r10, rw⟩ := rc
  have e3 : tc σ' = tc σ := by unfold tc; rw [e2]
  have e4 : tk σ' = tk σ := by unfold tk; rw [e2]
  have e5 : tpz σ' = tpz σ := by unfold tpz; rw [e2]
  have e6 : tpd σ' = tpd σ := by unfold tpd; rw [e2]
  have e7 : tsp σ' = tsp σ := by unfold tsp; rw [e2]
  have e8 : tkp σ' = tkp σ := by unfold tkp; rw [e2]
  have e9 : tkc σ' = tkc σ := by unfold tkc; rw [e2]
  have p8 : RCk σ' h' := by
    have := RCk_fr (md_fr m) al (by omega) r8
    unfold RCk at *
    rw [e4, ez 8 (by decide)]
    exact this
  have p9 : RCp σ' h' D := by
    have := RCp_fr (md_fr m) al (by omega) (fun a k q w => by have := q.1; omega) r9
    unfold RCp at *
    rw [e5, e6, ez 7 (by decide)]
    exact this
  have p10 : RCd σ' h' := by
    have := RCd_fr (md_fr m) al (fun a k a0 _ => by omega) r10
    unfold RCd at *
    rw [e7, e8, e9, ez 9 (by decide), ez 10 (by decide), ez 11 (by decide), ez 12 (by decide), ez 13 (by decide), ez 14 (by decide)]
    exact this
  exact ⟨K9_sm m.1 r1, RCD_fr (md_fr m) al (by omega) r2, by rw [e3]; exact (md_Z m (by omega)).trans r6, s, p8, p9, p10, RW_fr (md_fr m) al (by omega) rw⟩
theorem i_X11_setCoarseness_0 : am_i m_X11_setCoarseness 0 = some (0, .iload_n 1, 1, [], 0) := rfl
theorem i_X11_setCoarseness_1 : am_i m_X11_setCoarseness 1 = some (1, .iconst 1, 1, [], 1) := rfl
theorem i_X11_setCoarseness_2 : am_i m_X11_setCoarseness 2 = some (2, .if_icmp .lt 9, 3, [], 0) := rfl
theorem i_X11_setCoarseness_5 : am_i m_X11_setCoarseness 5 = some (5, .iload_n 1, 1, [], 0) := rfl
theorem i_X11_setCoarseness_6 : am_i m_X11_setCoarseness 6 = some (6, .bipush 40, 2, [], 40) := rfl
theorem i_X11_setCoarseness_8 : am_i m_X11_setCoarseness 8 = some (8, .if_icmp .le 13, 3, [], 0) := rfl
theorem i_X11_setCoarseness_11 : am_i m_X11_setCoarseness 11 = some (11, .new 86, 3, [0, 0], 0) := rfl
theorem i_X11_setCoarseness_21 : am_i m_X11_setCoarseness 21 = some (21, .aload_n 0, 1, [], 0) := rfl
theorem i_X11_setCoarseness_22 : am_i m_X11_setCoarseness 22 = some (22, .getfield 16, 3, [9, 2, 0], 0) := rfl
theorem i_X11_setCoarseness_25 : am_i m_X11_setCoarseness 25 = some (25, .istore_n 2, 1, [], 0) := rfl
theorem i_X11_setCoarseness_26 : am_i m_X11_setCoarseness 26 = some (26, .aload_n 0, 1, [], 0) := rfl
theorem i_X11_setCoarseness_27 : am_i m_X11_setCoarseness 27 = some (27, .iload_n 1, 1, [], 0) := rfl
theorem i_X11_setCoarseness_28 : am_i m_X11_setCoarseness 28 = some (28, .putfield 16, 3, [9, 2, 0], 0) := rfl
theorem i_X11_setCoarseness_31 : am_i m_X11_setCoarseness 31 = some (31, .iload_n 2, 1, [], 0) := rfl
theorem i_X11_setCoarseness_32 : am_i m_X11_setCoarseness 32 = some (32, .ireturn, 1, [], 0) := rfl
theorem b_X11_setCoarseness_0 {a0 : Nat} {x1 x1' : Int} {h : am_H} (w1 : wr x1 = x1') (k1 : K9 h a0) : rn m_X11_setCoarseness 0 [.ref a0, .int (mI x1), am_J] [] h = if x1' < 1 then some (.inr 0, hexc h) else if x1' ≤ 40 then some (.inl (some (.int (mI (fZ h a0 2)))), uF 9 h a0 2 (.int (mI x1))) else some (.inr 0, hexc h) := by
  refine (tq_iload_n i_X11_setCoarseness_0 rfl rfl).trans ?_
  refine (tq_iconst i_X11_setCoarseness_1 rfl).trans ?_
  refine (tq_icmp_lt (pt := 11) i_X11_setCoarseness_2 w1 w_1 (by decide) rfl).trans ?_
  refine ite_congr rfl (fun c1 => ?_) (fun c1 => ?_)
  · exact tq_newx i_X11_setCoarseness_11
  · refine (tq_iload_n i_X11_setCoarseness_5 rfl rfl).trans ?_
    refine (tq_bipush i_X11_setCoarseness_6 rfl).trans ?_
    refine (tq_icmp_le (pt := 21) i_X11_setCoarseness_8 w1 w_40 (by decide) rfl).trans ?_
    refine ite_congr rfl (fun c2 => ?_) (fun c2 => ?_)
    · refine (tq_aload_n i_X11_setCoarseness_21 rfl (isA_ref _) rfl).trans ?_
      refine (tq_getfield i_X11_setCoarseness_22 (K9_s k1) (g_9_2 (K9_s k1)) (isV_I _) rfl).trans ?_
      refine (tq_istore_n (L' := [.ref a0, .int (mI x1), .int (mI (fZ h a0 2))]) i_X11_setCoarseness_25 rfl rfl).trans ?_
      refine (tq_aload_n i_X11_setCoarseness_26 rfl (isA_ref _) rfl).trans ?_
      refine (tq_iload_n i_X11_setCoarseness_27 rfl rfl).trans ?_
      refine (tq_putfield i_X11_setCoarseness_28 (K9_s k1) (okf_9_2 _) rfl).trans ?_
      refine (tq_iload_n i_X11_setCoarseness_31 rfl rfl).trans ?_
      exact tq_ireturn i_X11_setCoarseness_32 r_X11_setCoarseness rfl
    · exact tq_newx i_X11_setCoarseness_11
theorem i_X11_setTools_0 : am_i m_X11_setTools 0 = some (0, .iload_n 1, 1, [], 0) := rfl
theorem i_X11_setTools_1 : am_i m_X11_setTools 1 = some (1, .ifCond .lt 9, 3, [], 0) := rfl
theorem i_X11_setTools_4 : am_i m_X11_setTools 4 = some (4, .iload_n 1, 1, [], 0) := rfl
theorem i_X11_setTools_5 : am_i m_X11_setTools 5 = some (5, .bipush 7, 2, [], 7) := rfl
theorem i_X11_setTools_7 : am_i m_X11_setTools 7 = some (7, .if_icmp .le 13, 3, [], 0) := rfl
theorem i_X11_setTools_10 : am_i m_X11_setTools 10 = some (10, .new 86, 3, [0, 0], 0) := rfl
theorem i_X11_setTools_20 : am_i m_X11_setTools 20 = some (20, .aload_n 0, 1, [], 0) := rfl
theorem i_X11_setTools_21 : am_i m_X11_setTools 21 = some (21, .getfield 20, 3, [9, 3, 0], 0) := rfl
theorem i_X11_setTools_24 : am_i m_X11_setTools 24 = some (24, .istore_n 2, 1, [], 0) := rfl
theorem i_X11_setTools_25 : am_i m_X11_setTools 25 = some (25, .aload_n 0, 1, [], 0) := rfl
theorem i_X11_setTools_26 : am_i m_X11_setTools 26 = some (26, .iload_n 1, 1, [], 0) := rfl
theorem i_X11_setTools_27 : am_i m_X11_setTools 27 = some (27, .putfield 20, 3, [9, 3, 0], 0) := rfl
theorem i_X11_setTools_30 : am_i m_X11_setTools 30 = some (30, .iload_n 2, 1, [], 0) := rfl
theorem i_X11_setTools_31 : am_i m_X11_setTools 31 = some (31, .ireturn, 1, [], 0) := rfl
theorem b_X11_setTools_0 {a0 : Nat} {x1 x1' : Int} {h : am_H} (w1 : wr x1 = x1') (k1 : K9 h a0) : rn m_X11_setTools 0 [.ref a0, .int (mI x1), am_J] [] h = if x1' < 0 then some (.inr 0, hexc h) else if x1' ≤ 7 then some (.inl (some (.int (mI (fZ h a0 3)))), uF 9 h a0 3 (.int (mI x1))) else some (.inr 0, hexc h) := by
  refine (tq_iload_n i_X11_setTools_0 rfl rfl).trans ?_
  refine (tq_if_lt (pt := 10) i_X11_setTools_1 w1 (by decide) rfl).trans ?_
  refine ite_congr rfl (fun c1 => ?_) (fun c1 => ?_)
  · exact tq_newx i_X11_setTools_10
  · refine (tq_iload_n i_X11_setTools_4 rfl rfl).trans ?_
    refine (tq_bipush i_X11_setTools_5 rfl).trans ?_
    refine (tq_icmp_le (pt := 20) i_X11_setTools_7 w1 w_7 (by decide) rfl).trans ?_
    refine ite_congr rfl (fun c2 => ?_) (fun c2 => ?_)
    · refine (tq_aload_n i_X11_setTools_20 rfl (isA_ref _) rfl).trans ?_
      refine (tq_getfield i_X11_setTools_21 (K9_s k1) (g_9_3 (K9_s k1)) (isV_I _) rfl).trans ?_
      refine (tq_istore_n (L' := [.ref a0, .int (mI x1), .int (mI (fZ h a0 3))]) i_X11_setTools_24 rfl rfl).trans ?_
      refine (tq_aload_n i_X11_setTools_25 rfl (isA_ref _) rfl).trans ?_
      refine (tq_iload_n i_X11_setTools_26 rfl rfl).trans ?_
      refine (tq_putfield i_X11_setTools_27 (K9_s k1) (okf_9_3 _) rfl).trans ?_
      refine (tq_iload_n i_X11_setTools_30 rfl rfl).trans ?_
      exact tq_ireturn i_X11_setTools_31 r_X11_setTools rfl
    · exact tq_newx i_X11_setTools_10
theorem i_X11_setSlices_0 : am_i m_X11_setSlices 0 = some (0, .iload_n 1, 1, [], 0) := rfl
theorem i_X11_setSlices_1 : am_i m_X11_setSlices 1 = some (1, .iconst 1, 1, [], 1) := rfl
theorem i_X11_setSlices_2 : am_i m_X11_setSlices 2 = some (2, .if_icmp .lt 8, 3, [], 0) := rfl
theorem i_X11_setSlices_5 : am_i m_X11_setSlices 5 = some (5, .iload_n 1, 1, [], 0) := rfl
theorem i_X11_setSlices_6 : am_i m_X11_setSlices 6 = some (6, .iconst 2, 1, [], 2) := rfl
theorem i_X11_setSlices_7 : am_i m_X11_setSlices 7 = some (7, .if_icmp .le 13, 3, [], 0) := rfl
theorem i_X11_setSlices_10 : am_i m_X11_setSlices 10 = some (10, .new 86, 3, [0, 0], 0) := rfl
theorem i_X11_setSlices_20 : am_i m_X11_setSlices 20 = some (20, .aload_n 0, 1, [], 0) := rfl
theorem i_X11_setSlices_21 : am_i m_X11_setSlices 21 = some (21, .getfield 23, 3, [9, 4, 0], 0) := rfl
theorem i_X11_setSlices_24 : am_i m_X11_setSlices 24 = some (24, .istore_n 2, 1, [], 0) := rfl
theorem i_X11_setSlices_25 : am_i m_X11_setSlices 25 = some (25, .aload_n 0, 1, [], 0) := rfl
theorem i_X11_setSlices_26 : am_i m_X11_setSlices 26 = some (26, .iload_n 1, 1, [], 0) := rfl
theorem i_X11_setSlices_27 : am_i m_X11_setSlices 27 = some (27, .putfield 23, 3, [9, 4, 0], 0) := rfl
theorem i_X11_setSlices_30 : am_i m_X11_setSlices 30 = some (30, .iload_n 2, 1, [], 0) := rfl
theorem i_X11_setSlices_31 : am_i m_X11_setSlices 31 = some (31, .ireturn, 1, [], 0) := rfl
theorem b_X11_setSlices_0 {a0 : Nat} {x1 x1' : Int} {h : am_H} (w1 : wr x1 = x1') (k1 : K9 h a0) : rn m_X11_setSlices 0 [.ref a0, .int (mI x1), am_J] [] h = if x1' < 1 then some (.inr 0, hexc h) else if x1' ≤ 2 then some (.inl (some (.int (mI (fZ h a0 4)))), uF 9 h a0 4 (.int (mI x1))) else some (.inr 0, hexc h) := by
  refine (tq_iload_n i_X11_setSlices_0 rfl rfl).trans ?_
  refine (tq_iconst i_X11_setSlices_1 rfl).trans ?_
  refine (tq_icmp_lt (pt := 10) i_X11_setSlices_2 w1 w_1 (by decide) rfl).trans ?_
  refine ite_congr rfl (fun c1 => ?_) (fun c1 => ?_)
  · exact tq_newx i_X11_setSlices_10
  · refine (tq_iload_n i_X11_setSlices_5 rfl rfl).trans ?_
    refine (tq_iconst i_X11_setSlices_6 rfl).trans ?_
    refine (tq_icmp_le (pt := 20) i_X11_setSlices_7 w1 w_2 (by decide) rfl).trans ?_
    refine ite_congr rfl (fun c2 => ?_) (fun c2 => ?_)
    · refine (tq_aload_n i_X11_setSlices_20 rfl (isA_ref _) rfl).trans ?_
      refine (tq_getfield i_X11_setSlices_21 (K9_s k1) (g_9_4 (K9_s k1)) (isV_I _) rfl).trans ?_
      refine (tq_istore_n (L' := [.ref a0, .int (mI x1), .int (mI (fZ h a0 4))]) i_X11_setSlices_24 rfl rfl).trans ?_
      refine (tq_aload_n i_X11_setSlices_25 rfl (isA_ref _) rfl).trans ?_
      refine (tq_iload_n i_X11_setSlices_26 rfl rfl).trans ?_
      refine (tq_putfield i_X11_setSlices_27 (K9_s k1) (okf_9_4 _) rfl).trans ?_
      refine (tq_iload_n i_X11_setSlices_30 rfl rfl).trans ?_
      exact tq_ireturn i_X11_setSlices_31 r_X11_setSlices rfl
    · exact tq_newx i_X11_setSlices_10
theorem i_X11_setBucket_0 : am_i m_X11_setBucket 0 = some (0, .iload_n 1, 1, [], 0) := rfl
theorem i_X11_setBucket_1 : am_i m_X11_setBucket 1 = some (1, .ifCond .lt 19, 3, [], 0) := rfl
theorem i_X11_setBucket_4 : am_i m_X11_setBucket 4 = some (4, .iload_n 1, 1, [], 0) := rfl
theorem i_X11_setBucket_5 : am_i m_X11_setBucket 5 = some (5, .ldc 140, 2, [], 99999) := rfl
theorem i_X11_setBucket_7 : am_i m_X11_setBucket 7 = some (7, .if_icmp .gt 13, 3, [], 0) := rfl
theorem i_X11_setBucket_10 : am_i m_X11_setBucket 10 = some (10, .iload_n 2, 1, [], 0) := rfl
theorem i_X11_setBucket_11 : am_i m_X11_setBucket 11 = some (11, .ifCond .lt 9, 3, [], 0) := rfl
theorem i_X11_setBucket_14 : am_i m_X11_setBucket 14 = some (14, .iload_n 2, 1, [], 0) := rfl
theorem i_X11_setBucket_15 : am_i m_X11_setBucket 15 = some (15, .ldc 140, 2, [], 99999) := rfl
theorem i_X11_setBucket_17 : am_i m_X11_setBucket 17 = some (17, .if_icmp .le 13, 3, [], 0) := rfl
theorem i_X11_setBucket_20 : am_i m_X11_setBucket 20 = some (20, .new 86, 3, [0, 0], 0) := rfl
theorem i_X11_setBucket_30 : am_i m_X11_setBucket 30 = some (30, .aload_n 0, 1, [], 0) := rfl
theorem i_X11_setBucket_31 : am_i m_X11_setBucket 31 = some (31, .getfield 33, 3, [9, 6, 0], 0) := rfl
theorem i_X11_setBucket_34 : am_i m_X11_setBucket 34 = some (34, .invokevirtual 141, 3, [3, 0], 0) := rfl
theorem i_X11_setBucket_37 : am_i m_X11_setBucket 37 = some (37, .ifCond .eq 13, 3, [], 0) := rfl
theorem i_X11_setBucket_40 : am_i m_X11_setBucket 40 = some (40, .aload_n 0, 1, [], 0) := rfl
theorem i_X11_setBucket_41 : am_i m_X11_setBucket 41 = some (41, .getfield 33, 3, [9, 6, 0], 0) := rfl
theorem i_X11_setBucket_44 : am_i m_X11_setBucket 44 = some (44, .getfield 145, 3, [0, 2, 1], 0) := rfl
theorem i_X11_setBucket_47 : am_i m_X11_setBucket 47 = some (47, .goto 4, 3, [], 0) := rfl
theorem i_X11_setBucket_50 : am_i m_X11_setBucket 50 = some (50, .iconst (-1), 1, [], -1) := rfl
theorem i_X11_setBucket_51 : am_i m_X11_setBucket 51 = some (51, .istore_n 3, 1, [], 0) := rfl
theorem i_X11_setBucket_52 : am_i m_X11_setBucket 52 = some (52, .aload_n 0, 1, [], 0) := rfl
theorem i_X11_setBucket_53 : am_i m_X11_setBucket 53 = some (53, .getfield 33, 3, [9, 6, 0], 0) := rfl
theorem i_X11_setBucket_56 : am_i m_X11_setBucket 56 = some (56, .iload_n 1, 1, [], 0) := rfl
theorem i_X11_setBucket_57 : am_i m_X11_setBucket 57 = some (57, .iload_n 2, 1, [], 0) := rfl
theorem i_X11_setBucket_58 : am_i m_X11_setBucket 58 = some (58, .invokevirtual 148, 3, [4, 0], 0) := rfl
theorem i_X11_setBucket_61 : am_i m_X11_setBucket 61 = some (61, .iload_n 3, 1, [], 0) := rfl
theorem i_X11_setBucket_62 : am_i m_X11_setBucket 62 = some (62, .ireturn, 1, [], 0) := rfl
theorem b_X11_setBucket_0 {a0 : Nat} {x1 x2 x1' x2' : Int} {h : am_H} (w1 : wr x1 = x1') (w2 : wr x2 = x2') (k1 : K9 h a0) : rn m_X11_setBucket 0 [.ref a0, .int (mI x1), .int (mI x2), am_J] [] h = if x1' < 0 then some (.inr 0, hexc h) else if 99999 < x1' then some (.inr 0, hexc h) else if x2' < 0 then some (.inr 0, hexc h) else if x2' ≤ 99999 then some (.inl (some (.int (mI (if (¬ ((fZ h (a0 + 3) 0) ≤ 0)) then (fZ h (a0 + 3) 2 : Int) else (-1))))), uF 0 (uF 0 (uF 0 h (a0 + 3) 0 (.int (mI x1))) (a0 + 3) 1 (.int (mI x2))) (a0 + 3) 2 (.int (mI 0))) else some (.inr 0, hexc h) := by
  refine (tq_iload_n i_X11_setBucket_0 rfl rfl).trans ?_
  refine (tq_if_lt (pt := 20) i_X11_setBucket_1 w1 (by decide) rfl).trans ?_
  refine ite_congr rfl (fun c1 => ?_) (fun c1 => ?_)
  · exact tq_newx i_X11_setBucket_20
  · refine (tq_iload_n i_X11_setBucket_4 rfl rfl).trans ?_
    refine (tq_ldc i_X11_setBucket_5 rfl).trans ?_
    refine (tq_icmp_gt (pt := 20) i_X11_setBucket_7 w1 w_99999 (by decide) rfl).trans ?_
    refine ite_congr rfl (fun c2 => ?_) (fun c2 => ?_)
    · exact tq_newx i_X11_setBucket_20
    · refine (tq_iload_n i_X11_setBucket_10 rfl rfl).trans ?_
      refine (tq_if_lt (pt := 20) i_X11_setBucket_11 w2 (by decide) rfl).trans ?_
      refine ite_congr rfl (fun c3 => ?_) (fun c3 => ?_)
      · exact tq_newx i_X11_setBucket_20
      · refine (tq_iload_n i_X11_setBucket_14 rfl rfl).trans ?_
        refine (tq_ldc i_X11_setBucket_15 rfl).trans ?_
        refine (tq_icmp_le (pt := 30) i_X11_setBucket_17 w2 w_99999 (by decide) rfl).trans ?_
        refine ite_congr rfl (fun c4 => ?_) (fun c4 => ?_)
        · refine (tq_aload_n i_X11_setBucket_30 rfl (isA_ref _) rfl).trans ?_
          refine (tq_getfield i_X11_setBucket_31 (K9_s k1) (gR (g_9_6 (K9_s k1)) (K9_e6 k1)) (isV_ref _) rfl).trans ?_
          refine (c_X0_isThere i_X11_setBucket_34 (K0_s (K9_k6 k1)) (ltd d_X11_setBucket (by decide)) stOk_0 rfl).trans ?_
          refine (congrArg (cl _ _ _ _) (b_X0_isThere_0 (K9_k6 k1))).trans ?_
          refine (cl_v _ _ _ _ _ _).trans ?_
          refine (tq_ifb_eq (pt := 50) i_X11_setBucket_37 (by decide) rfl).trans ?_
          refine Eq.trans (b := if (¬ ((fZ h (a0 + 3) 0) ≤ 0)) then rn m_X11_setBucket 51 [.ref a0, .int (mI x1), .int (mI x2), am_J] [.int (mI (fZ h (a0 + 3) 2))] h else rn m_X11_setBucket 51 [.ref a0, .int (mI x1), .int (mI x2), am_J] [.int (mI (-1))] h) (ite_congr rfl (fun c5 => ?_) (fun c5 => ?_)) ?_
          · refine (tq_aload_n i_X11_setBucket_40 rfl (isA_ref _) rfl).trans ?_
            refine (tq_getfield i_X11_setBucket_41 (K9_s k1) (gR (g_9_6 (K9_s k1)) (K9_e6 k1)) (isV_ref _) rfl).trans ?_
            refine (tq_getfield i_X11_setBucket_44 (K0_s (K9_k6 k1)) (g_0_2 (K0_s (K9_k6 k1))) (isV_I _) rfl).trans ?_
            refine (tq_goto (pc' := 51) i_X11_setBucket_47 (by decide)).trans ?_
            rfl
          · refine (tq_iconst i_X11_setBucket_50 rfl).trans ?_
            rfl
          refine Eq.trans ite_I ?_
          refine (tq_istore_n (L' := [.ref a0, .int (mI x1), .int (mI x2), .int (mI (if (¬ ((fZ h (a0 + 3) 0) ≤ 0)) then (fZ h (a0 + 3) 2 : Int) else (-1)))]) i_X11_setBucket_51 rfl rfl).trans ?_
          refine (tq_aload_n i_X11_setBucket_52 rfl (isA_ref _) rfl).trans ?_
          refine (tq_getfield i_X11_setBucket_53 (K9_s k1) (gR (g_9_6 (K9_s k1)) (K9_e6 k1)) (isV_ref _) rfl).trans ?_
          refine (tq_iload_n i_X11_setBucket_56 rfl rfl).trans ?_
          refine (tq_iload_n i_X11_setBucket_57 rfl rfl).trans ?_
          refine (c_X0_put i_X11_setBucket_58 (K0_s (K9_k6 k1)) (ltd d_X11_setBucket (by decide)) stOk_0 rfl).trans ?_
          refine (congrArg (cl _ _ _ _) (b_X0_put_0 (K9_k6 k1))).trans ?_
          refine (cl_n _ _ _ _ _).trans ?_
          refine (tq_iload_n i_X11_setBucket_61 rfl rfl).trans ?_
          exact tq_ireturn i_X11_setBucket_62 r_X11_setBucket rfl
        · exact tq_newx i_X11_setBucket_20
theorem c_setCoarseness (rc : RC σ h D) {x : Int} (w : wr x = x) : (1 ≤ x ∧ x ≤ 40 → ∃ h', rn m_X11_setCoarseness 0 [.ref 2, .int (mI x), am_J] [] h = some (.inl (some (.int (mI (tz σ 0)))), h') ∧ RC (upz σ 0 x) h' D ∧ Md SC0 h h') ∧ (¬ (1 ≤ x ∧ x ≤ 40) → rn m_X11_setCoarseness 0 [.ref 2, .int (mI x), am_J] [] h = some (.inr 0, hexc h)) := by
  have st := b_X11_setCoarseness_0 (a0 := 2) (x1 := x) (h := h) w rc.1
  have s := rc.2.2.2.1
  rw [s.1.1] at st
  refine ⟨fun g => ?_, fun g => ?_⟩
  · rw [if_neg (by omega), if_pos g.2] at st
    have m : Md (fun a k => a = 2 ∧ k = 2) h (uF 9 h 2 2 (.int (mI x))) := Md_uF (Sm_uF_9_2 _ _ _)
    have f : fZ (uF 9 h 2 2 (.int (mI x))) 2 2 = x := by rw [fZ_uF_eq (K9_s rc.1) (okf_9_2 _), w]
    obtain ⟨⟨s1, s2, s3, s4⟩, ⟨s5, s6, s7⟩, s8, s9⟩ := s
    refine ⟨_, st, RC_set (σ := σ) (σ' := upz σ 0 x) (Md_mono m fun a k q => by omega) rfl (fun j hj => upz_ne (by omega)) ⟨⟨f, (md_fZ m (by omega)).trans s2, (md_fZ m (by omega)).trans s3, (md_fZ m (by omega)).trans s4⟩, ⟨(md_fZ m (by omega)).trans s5, (md_fZ m (by omega)).trans s6, (md_fZ m (by omega)).trans s7⟩, (md_fZ m (by omega)).trans s8, (md_fZ m (by omega)).trans s9⟩ rc, Md_mono m fun a k q => by unfold SC0; omega⟩
  · by_cases c1 : x < 1
    · rw [if_pos c1] at st; exact st
    · rw [if_neg c1, if_neg (by omega)] at st; exact st
theorem c_setTools (rc : RC σ h D) {x : Int} (w : wr x = x) : (0 ≤ x ∧ x ≤ 7 → ∃ h', rn m_X11_setTools 0 [.ref 2, .int (mI x), am_J] [] h = some (.inl (some (.int (mI (tz σ 1)))), h') ∧ RC (upz σ 1 x) h' D ∧ Md SC0 h h') ∧ (¬ (0 ≤ x ∧ x ≤ 7) → rn m_X11_setTools 0 [.ref 2, .int (mI x), am_J] [] h = some (.inr 0, hexc h)) := by
  have st := b_X11_setTools_0 (a0 := 2) (x1 := x) (h := h) w rc.1
  have s := rc.2.2.2.1
  rw [s.1.2.1] at st
  refine ⟨fun g => ?_, fun g => ?_⟩
  · rw [if_neg (by omega), if_pos g.2] at st
    have m : Md (fun a k => a = 2 ∧ k = 3) h (uF 9 h 2 3 (.int (mI x))) := Md_uF (Sm_uF_9_3 _ _ _)
    have f : fZ (uF 9 h 2 3 (.int (mI x))) 2 3 = x := by rw [fZ_uF_eq (K9_s rc.1) (okf_9_3 _), w]
    obtain ⟨⟨s1, s2, s3, s4⟩, ⟨s5, s6, s7⟩, s8, s9⟩ := s
    refine ⟨_, st, RC_set (σ := σ) (σ' := upz σ 1 x) (Md_mono m fun a k q => by omega) rfl (fun j hj => upz_ne (by omega)) ⟨⟨(md_fZ m (by omega)).trans s1, f, (md_fZ m (by omega)).trans s3, (md_fZ m (by omega)).trans s4⟩, ⟨(md_fZ m (by omega)).trans s5, (md_fZ m (by omega)).trans s6, (md_fZ m (by omega)).trans s7⟩, (md_fZ m (by omega)).trans s8, (md_fZ m (by omega)).trans s9⟩ rc, Md_mono m fun a k q => by unfold SC0; omega⟩
  · by_cases c1 : x < 0
    · rw [if_pos c1] at st; exact st
    · rw [if_neg c1, if_neg (by omega)] at st; exact st
theorem c_setSlices (rc : RC σ h D) {x : Int} (w : wr x = x) : (1 ≤ x ∧ x ≤ 2 → ∃ h', rn m_X11_setSlices 0 [.ref 2, .int (mI x), am_J] [] h = some (.inl (some (.int (mI (tz σ 2)))), h') ∧ RC (upz σ 2 x) h' D ∧ Md SC0 h h') ∧ (¬ (1 ≤ x ∧ x ≤ 2) → rn m_X11_setSlices 0 [.ref 2, .int (mI x), am_J] [] h = some (.inr 0, hexc h)) := by
  have st := b_X11_setSlices_0 (a0 := 2) (x1 := x) (h := h) w rc.1
  have s := rc.2.2.2.1
  rw [s.1.2.2.1] at st
  refine ⟨fun g => ?_, fun g => ?_⟩
  · rw [if_neg (by omega), if_pos g.2] at st
    have m : Md (fun a k => a = 2 ∧ k = 4) h (uF 9 h 2 4 (.int (mI x))) := Md_uF (Sm_uF_9_4 _ _ _)
    have f : fZ (uF 9 h 2 4 (.int (mI x))) 2 4 = x := by rw [fZ_uF_eq (K9_s rc.1) (okf_9_4 _), w]
    obtain ⟨⟨s1, s2, s3, s4⟩, ⟨s5, s6, s7⟩, s8, s9⟩ := s
    refine ⟨_, st, RC_set (σ := σ) (σ' := upz σ 2 x) (Md_mono m fun a k q => by omega) rfl (fun j hj => upz_ne (by omega)) ⟨⟨(md_fZ m (by omega)).trans s1, (md_fZ m (by omega)).trans s2, f, (md_fZ m (by omega)).trans s4⟩, ⟨(md_fZ m (by omega)).trans s5, (md_fZ m (by omega)).trans s6, (md_fZ m (by omega)).trans s7⟩, (md_fZ m (by omega)).trans s8, (md_fZ m (by omega)).trans s9⟩ rc, Md_mono m fun a k q => by unfold SC0; omega⟩
  · by_cases c1 : x < 1
    · rw [if_pos c1] at st; exact st
    · rw [if_neg c1, if_neg (by omega)] at st; exact st
def isB2 (x y : Int) : Prop := (0 ≤ x ∧ x ≤ 99999) ∧ 0 ≤ y ∧ y ≤ 99999
def stb (σ : St) (x y : Int) : St := upz (upz (upz σ 4 x) 5 y) 6 0
theorem c_setBucket (rc : RC σ h D) {x y : Int} (w1 : wr x = x) (w2 : wr y = y) : (isB2 x y → ∃ h', rn m_X11_setBucket 0 [.ref 2, .int (mI x), .int (mI y), am_J] [] h = some (.inl (some (.int (mI (if 0 < tz σ 4 then tz σ 6 else -1)))), h') ∧ RC (stb σ x y) h' D ∧ Md SC0 h h') ∧ (¬ isB2 x y → rn m_X11_setBucket 0 [.ref 2, .int (mI x), .int (mI y), am_J] [] h = some (.inr 0, hexc h)) := by
  have st := b_X11_setBucket_0 (a0 := 2) (x1 := x) (x2 := y) (h := h) w1 w2 rc.1
  simp only [Nat.reduceAdd] at st
  have s := rc.2.2.2.1
  rw [s.2.1.1, s.2.1.2.2] at st
  unfold isB2
  refine ⟨fun g => ?_, fun g => ?_⟩
  · rw [if_neg (by omega), if_neg (by omega), if_neg (by omega), if_pos (by omega)] at st
    have k5 : K0 h 5 := K9_k6 rc.1
    have eb : (if (¬ (tz σ 4 ≤ 0)) then (tz σ 6 : Int) else (-1)) = if 0 < tz σ 4 then tz σ 6 else -1 := by
      by_cases q : 0 < tz σ 4
      · rw [if_pos q, if_pos (by omega)]
      · rw [if_neg q, if_neg (by omega)]
    rw [eb] at st
    obtain ⟨hA, eA⟩ : ∃ u, u = uF 0 (uF 0 (uF 0 h 5 0 (.int (mI x))) 5 1 (.int (mI y))) 5 2 (.int (mI 0)) := ⟨_, rfl⟩
    have m : Md (fun a k => a = 5 ∧ k ≤ 2) h hA := by
      rw [eA]
      exact Md_tr (Md_mono (Md_uF (Sm_uF_0_0 _ _ _)) fun a k q => ⟨q.1, by omega⟩) (Md_tr (Md_mono (Md_uF (Sm_uF_0_1 _ _ _)) fun a k q => ⟨q.1, by omega⟩) (Md_mono (Md_uF (Sm_uF_0_2 _ _ _)) fun a k q => ⟨q.1, by omega⟩))
    have k0 := K0_s k5
    have f0 : fZ hA 5 0 = x := by rw [eA, fZ_uF_k (by decide), fZ_uF_k (by decide), fZ_uF_eq k0 (okf_0_0 _), w1]
    have f1 : fZ hA 5 1 = y := by rw [eA, fZ_uF_k (by decide), fZ_uF_eq ((sh_uF _ _ _ _ _ _).trans k0) (okf_0_1 _), w2]
    have f2 : fZ hA 5 2 = 0 := by rw [eA, fZ_uF_eq ((sh_uF _ _ _ _ _ _).trans ((sh_uF _ _ _ _ _ _).trans k0)) (okf_0_2 _), wr_id (by decide) (by decide)]
    rw [← eA] at st
    clear eA
    obtain ⟨⟨s1, s2, s3, s4⟩, ⟨s5, s6, s7⟩, s8, s9⟩ := s
    exact ⟨hA, st, RC_set (σ := σ) (σ' := stb σ x y) (Md_mono m fun a k q => Or.inr q) rfl (fun j hj => by
      show (if j = 6 then (0 : Int) else if j = 5 then y else if j = 4 then x else tz σ j) = tz σ j
      rw [if_neg (by omega), if_neg (by omega), if_neg (by omega)]) ⟨⟨(md_fZ m (by omega)).trans s1, (md_fZ m (by omega)).trans s2, (md_fZ m (by omega)).trans s3, (md_fZ m (by omega)).trans s4⟩, ⟨f0, f1, f2⟩, (md_fZ m (by omega)).trans s8, (md_fZ m (by omega)).trans s9⟩ rc, Md_mono m fun a k q => by unfold SC0; omega⟩
  · by_cases c1 : x < 0
    · rw [if_pos c1] at st; exact st
    · rw [if_neg c1] at st
      by_cases c2 : 99999 < x
      · rw [if_pos c2] at st; exact st
      · rw [if_neg c2] at st
        by_cases c3 : y < 0
        · rw [if_pos c3] at st; exact st
        · rw [if_neg c3, if_neg (by omega)] at st; exact st
/-- the class with another decoder -/
theorem RC_dec (m : Md (SDR 36) h h') (e : ∀ j, j ≤ 8 → tz σ' j = tz σ j) (e3 : tc σ' = tc σ) (e4 : tk σ' = tk σ) (e5 : tpz σ' = tpz σ) (e6 : tpd σ' = tpd σ) (d : RCd σ' h') (rc : RC σ h D) : RC σ' h' D := by
  obtain ⟨a1, a2, al⟩ := RC_al rc
  obtain ⟨r1, r2, r6, r7, r8, r9, r10, rw⟩ := rc
  have n : ∀ a k, a < 36 ∨ 50 < a → ¬ SDR 36 a k := fun a k ha q => by unfold SDR at q; omega
  have p7 : RCs σ' h' := by
    have := RCs_fr (md_fr m) al (fun k _ => n _ _ (by omega)) (fun k _ => n _ _ (by omega)) r7
    unfold RCs at *
    rw [e 0 (by decide), e 1 (by decide), e 2 (by decide), e 3 (by decide), e 4 (by decide), e 5 (by decide), e 6 (by decide), e 7 (by decide), e 8 (by decide)]
    exact this
  have p8 : RCk σ' h' := by
    have := RCk_fr (md_fr m) al (n _ _ (by omega)) r8
    unfold RCk at *
    rw [e4, e 8 (by decide)]
    exact this
  have p9 : RCp σ' h' D := by
    have := RCp_fr (md_fr m) al (n _ _ (by omega)) (fun a k q => n _ _ (by have := q.1; omega)) r9
    unfold RCp at *
    rw [e5, e6, e 7 (by decide)]
    exact this
  exact ⟨K9_sm m.1 r1, RCD_fr (md_fr m) al (n _ _ (by omega)) r2, by rw [e3]; exact (md_Z m (n _ _ (by omega))).trans r6, p7, p8, p9, d, RW_fr (md_fr m) al (n _ _ (by omega)) rw⟩
theorem i_X11_join_0 : am_i m_X11_join 0 = some (0, .iload_n 1, 1, [], 0) := rfl
theorem i_X11_join_1 : am_i m_X11_join 1 = some (1, .ifCond .lt 11, 3, [], 0) := rfl
theorem i_X11_join_4 : am_i m_X11_join 4 = some (4, .iload_n 1, 1, [], 0) := rfl
theorem i_X11_join_5 : am_i m_X11_join 5 = some (5, .aload_n 0, 1, [], 0) := rfl
theorem i_X11_join_6 : am_i m_X11_join 6 = some (6, .getfield 43, 3, [9, 8, 0], 0) := rfl
theorem i_X11_join_9 : am_i m_X11_join 9 = some (9, .if_icmp .le 14, 3, [], 0) := rfl
theorem i_X11_join_12 : am_i m_X11_join 12 = some (12, .new 155, 3, [1, 0], 0) := rfl
theorem i_X11_join_23 : am_i m_X11_join 23 = some (23, .aload_n 0, 1, [], 0) := rfl
theorem i_X11_join_24 : am_i m_X11_join 24 = some (24, .getfield 74, 3, [9, 14, 0], 0) := rfl
theorem i_X11_join_27 : am_i m_X11_join 27 = some (27, .getfield 295, 3, [3, 7, 1], 0) := rfl
theorem i_X11_join_30 : am_i m_X11_join 30 = some (30, .istore_n 2, 1, [], 0) := rfl
theorem i_X11_join_31 : am_i m_X11_join 31 = some (31, .aload_n 0, 1, [], 0) := rfl
theorem i_X11_join_32 : am_i m_X11_join 32 = some (32, .getfield 74, 3, [9, 14, 0], 0) := rfl
theorem i_X11_join_35 : am_i m_X11_join 35 = some (35, .iload_n 1, 1, [], 0) := rfl
theorem i_X11_join_36 : am_i m_X11_join 36 = some (36, .invokevirtual 78, 3, [59, 3], 0) := rfl
theorem b_X11_join_0 {a0 : Nat} {x1 x1' : Int} {h : am_H} (w1 : wr x1 = x1') (k1 : K9 h a0) : rn m_X11_join 0 [.ref a0, .int (mI x1), am_J] [] h = if x1' < 0 then some (.inr 1, hexc h) else if x1' ≤ (fZ h a0 8) then cl m_X11_join 39 [.ref a0, .int (mI x1), .int (mI (fZ h (a0 + 34) 7))] [] (rn m_X3_startAt 0 [.ref (a0 + 34), .int (mI x1)] [] h) else some (.inr 1, hexc h) := by
  refine (tq_iload_n i_X11_join_0 rfl rfl).trans ?_
  refine (tq_if_lt (pt := 12) i_X11_join_1 w1 (by decide) rfl).trans ?_
  refine ite_congr rfl (fun c1 => ?_) (fun c1 => ?_)
  · exact tq_newx i_X11_join_12
  · refine (tq_iload_n i_X11_join_4 rfl rfl).trans ?_
    refine (tq_aload_n i_X11_join_5 rfl (isA_ref _) rfl).trans ?_
    refine (tq_getfield i_X11_join_6 (K9_s k1) (g_9_8 (K9_s k1)) (isV_I _) rfl).trans ?_
    refine (tq_icmp_le (pt := 23) i_X11_join_9 w1 (wr_fZ _ _ _) (by decide) rfl).trans ?_
    refine ite_congr rfl (fun c2 => ?_) (fun c2 => ?_)
    · refine (tq_aload_n i_X11_join_23 rfl (isA_ref _) rfl).trans ?_
      refine (tq_getfield i_X11_join_24 (K9_s k1) (gR (g_9_14 (K9_s k1)) (K9_e14 k1)) (isV_ref _) rfl).trans ?_
      refine (tq_getfield i_X11_join_27 (K3_s (K9_k14 k1)) (g_3_7 (K3_s (K9_k14 k1))) (isV_I _) rfl).trans ?_
      refine (tq_istore_n (L' := [.ref a0, .int (mI x1), .int (mI (fZ h (a0 + 34) 7))]) i_X11_join_30 rfl rfl).trans ?_
      refine (tq_aload_n i_X11_join_31 rfl (isA_ref _) rfl).trans ?_
      refine (tq_getfield i_X11_join_32 (K9_s k1) (gR (g_9_14 (K9_s k1)) (K9_e14 k1)) (isV_ref _) rfl).trans ?_
      refine (tq_iload_n i_X11_join_35 rfl rfl).trans ?_
      exact c_X3_startAt i_X11_join_36 (K3_s (K9_k14 k1)) (ltd d_X11_join (by decide)) stOk_0 rfl
    · exact tq_newx i_X11_join_12
theorem i_X11_join_39 : am_i m_X11_join 39 = some (39, .iload_n 2, 1, [], 0) := rfl
theorem i_X11_join_40 : am_i m_X11_join 40 = some (40, .ireturn, 1, [], 0) := rfl
theorem b_X11_join_39 {v0 v1 : Value} {x2 : Int} {h : am_H} : rn m_X11_join 39 [v0, v1, .int (mI x2)] [] h = some (.inl (some (.int (mI x2))), h) := by
  refine (tq_iload_n i_X11_join_39 rfl rfl).trans ?_
  exact tq_ireturn i_X11_join_40 r_X11_join rfl
theorem c_join (rc : RC σ h D) (wf : WfS σ c) {x : Int} (w : wr x = x) : (0 ≤ x ∧ x ≤ tz σ 7 → ∃ h', rn m_X11_join 0 [.ref 2, .int (mI x), am_J] [] h = some (.inl (some (.int (mI (tz σ 12)))), h') ∧ RC (stj σ x) h' D ∧ Md SC0 h h') ∧ (¬ (0 ≤ x ∧ x ≤ tz σ 7) → rn m_X11_join 0 [.ref 2, .int (mI x), am_J] [] h = some (.inr 1, hexc h)) := by
  have n := WFn wf
  have st := b_X11_join_0 (a0 := 2) (x1 := x) (h := h) w rc.1
  simp only [Nat.reduceAdd] at st
  have en : fZ h 2 8 = tz σ 7 := rc.2.2.2.1.2.2.1
  have dd := rc.2.2.2.2.2.2.1
  rw [en, dd.1.2.2.2.1] at st
  refine ⟨fun g => ?_, fun g => ?_⟩
  · rw [if_neg (by omega), if_pos g.2] at st
    obtain ⟨h2, e2, m2, ⟨q3, q4, q5, q7, q10, q11⟩, g12, g13, g14, g11⟩ := startAt_ok (A := 36) (x := x) (K9_k14 rc.1) (by omega)
    rw [e2, cl_n, b_X11_join_39] at st
    refine ⟨h2, st, RC_dec (σ := σ) (σ' := stj σ x) m2 (fun j hj => ?_) rfl rfl rfl rfl ⟨⟨q3, q4, q5, q7, q10.trans dd.1.2.2.2.2.1, q11.trans dd.1.2.2.2.2.2⟩, g12, fun j i j0 j1 i0 i1 => g13 _ (by omega) (by omega), g14, ?_⟩ rc, Md_mono m2 fun a k q => by unfold SDR at q; unfold SC0; omega⟩
    · show (if j = 9 then x else if j = 10 then -1 else if j = 11 then 0 else if j = 12 then 0 else tz σ j) = tz σ j
      rw [if_neg (by omega), if_neg (by omega), if_neg (by omega), if_neg (by omega)]
    · have : gZ h2 47 = gZ h 47 := g11
      rw [this]
      exact dd.2.2.2.2
  · by_cases c1 : x < 0
    · rw [if_pos c1] at st; exact st
    · rw [if_neg c1, if_neg (by omega)] at st; exact st
end SC
