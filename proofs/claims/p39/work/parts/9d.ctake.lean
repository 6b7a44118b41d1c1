/-! ===== the class codes: the draft taken, the bucket ===== -/
section CT
variable {h h' : am_H} {D : Nat}
def STk : Nat → Nat → Prop := fun a k => a = 6 ∨ (a = 2 ∧ (k = 8 ∨ k = 11 ∨ k = 9)) ∨ a = 16
theorem i_X11_takeDraft_0 : am_i m_X11_takeDraft 0 = some (0, .aload_n 0, 1, [], 0) := rfl
theorem i_X11_takeDraft_1 : am_i m_X11_takeDraft 1 = some (1, .getfield 43, 3, [9, 8, 0], 0) := rfl
theorem i_X11_takeDraft_4 : am_i m_X11_takeDraft 4 = some (4, .ifCond .lt 15, 3, [], 0) := rfl
theorem i_X11_takeDraft_7 : am_i m_X11_takeDraft 7 = some (7, .aload_n 0, 1, [], 0) := rfl
theorem i_X11_takeDraft_8 : am_i m_X11_takeDraft 8 = some (8, .getfield 43, 3, [9, 8, 0], 0) := rfl
theorem i_X11_takeDraft_11 : am_i m_X11_takeDraft 11 = some (11, .aload_n 0, 1, [], 0) := rfl
theorem i_X11_takeDraft_12 : am_i m_X11_takeDraft 12 = some (12, .getfield 39, 3, [9, 7, 0], 0) := rfl
theorem i_X11_takeDraft_15 : am_i m_X11_takeDraft 15 = some (15, .arraylength, 1, [], 0) := rfl
theorem i_X11_takeDraft_16 : am_i m_X11_takeDraft 16 = some (16, .if_icmp .lt 4, 3, [], 0) := rfl
theorem i_X11_takeDraft_19 : am_i m_X11_takeDraft 19 = some (19, .return_, 1, [], 0) := rfl
theorem i_X11_takeDraft_20 : am_i m_X11_takeDraft 20 = some (20, .aload_n 0, 1, [], 0) := rfl
theorem i_X11_takeDraft_21 : am_i m_X11_takeDraft 21 = some (21, .getfield 39, 3, [9, 7, 0], 0) := rfl
theorem i_X11_takeDraft_24 : am_i m_X11_takeDraft 24 = some (24, .aload_n 0, 1, [], 0) := rfl
theorem i_X11_takeDraft_25 : am_i m_X11_takeDraft 25 = some (25, .getfield 43, 3, [9, 8, 0], 0) := rfl
theorem i_X11_takeDraft_28 : am_i m_X11_takeDraft 28 = some (28, .aload_n 0, 1, [], 0) := rfl
theorem i_X11_takeDraft_29 : am_i m_X11_takeDraft 29 = some (29, .getfield 47, 3, [9, 9, 0], 0) := rfl
theorem i_X11_takeDraft_32 : am_i m_X11_takeDraft 32 = some (32, .aastore, 1, [], 0) := rfl
theorem i_X11_takeDraft_33 : am_i m_X11_takeDraft 33 = some (33, .aload_n 0, 1, [], 0) := rfl
theorem i_X11_takeDraft_34 : am_i m_X11_takeDraft 34 = some (34, .getfield 47, 3, [9, 9, 0], 0) := rfl
theorem i_X11_takeDraft_37 : am_i m_X11_takeDraft 37 = some (37, .getfield 329, 3, [6, 6, 1], 0) := rfl
theorem i_X11_takeDraft_40 : am_i m_X11_takeDraft 40 = some (40, .ifCond .eq 37, 3, [], 0) := rfl
theorem i_X11_takeDraft_43 : am_i m_X11_takeDraft 43 = some (43, .aload_n 0, 1, [], 0) := rfl
theorem i_X11_takeDraft_44 : am_i m_X11_takeDraft 44 = some (44, .getfield 51, 3, [9, 10, 0], 0) := rfl
theorem i_X11_takeDraft_47 : am_i m_X11_takeDraft 47 = some (47, .iconst 1, 1, [], 1) := rfl
theorem i_X11_takeDraft_48 : am_i m_X11_takeDraft 48 = some (48, .invokestatic 332, 3, [35], 0) := rfl
theorem i_X11_takeDraft_77 : am_i m_X11_takeDraft 77 = some (77, .aload_n 0, 1, [], 0) := rfl
theorem i_X11_takeDraft_78 : am_i m_X11_takeDraft 78 = some (78, .dup, 1, [], 0) := rfl
theorem i_X11_takeDraft_79 : am_i m_X11_takeDraft 79 = some (79, .getfield 43, 3, [9, 8, 0], 0) := rfl
theorem i_X11_takeDraft_82 : am_i m_X11_takeDraft 82 = some (82, .iconst 1, 1, [], 1) := rfl
theorem i_X11_takeDraft_83 : am_i m_X11_takeDraft 83 = some (83, .iadd, 1, [], 0) := rfl
theorem i_X11_takeDraft_84 : am_i m_X11_takeDraft 84 = some (84, .putfield 43, 3, [9, 8, 0], 0) := rfl
theorem i_X11_takeDraft_87 : am_i m_X11_takeDraft 87 = some (87, .aload_n 0, 1, [], 0) := rfl
theorem i_X11_takeDraft_88 : am_i m_X11_takeDraft 88 = some (88, .new 37, 3, [6], 0) := rfl
theorem b_X11_takeDraft_0 {a0 a0_draft : Nat} {h : am_H} (k1 : K9 h a0) (e2 : fA h a0 9 = some a0_draft) (g3 : (¬ ((fZ h a0 8) < 0)) → ((fZ h a0 8) < (12 : Int)) → (0 ≤ fZ h a0 8 ∧ fZ h a0 8 < (12 : Int))) (k4 : K6 h a0_draft) : rn m_X11_takeDraft 0 [.ref a0] [] h = if (fZ h a0 8) < 0 then some (.inl none, h) else if (fZ h a0 8) < (12 : Int) then if (fZ h a0_draft 6) = 0 then rn m_X11_takeDraft 91 [.ref a0] [.ref (hnx (uF 9 (uA h (a0 + 4) (fZ h a0 8) (some a0_draft)) a0 8 (.int (mI ((fZ h a0 8) + 1))))), .ref a0] (aO 6 (uF 9 (uA h (a0 + 4) (fZ h a0 8) (some a0_draft)) a0 8 (.int (mI ((fZ h a0 8) + 1))))) else cl m_X11_takeDraft 51 [.ref a0] [] (rn m_X7_shift 0 [.ref (a0 + 14), .int (mI 1), am_J] [] (uA h (a0 + 4) (fZ h a0 8) (some a0_draft))) else some (.inl none, h) := by
  refine (tq_aload_n i_X11_takeDraft_0 rfl (isA_ref _) rfl).trans ?_
  refine (tq_getfield i_X11_takeDraft_1 (K9_s k1) (g_9_8 (K9_s k1)) (isV_I _) rfl).trans ?_
  refine (tq_if_lt (pt := 19) i_X11_takeDraft_4 (wr_fZ _ _ _) (by decide) rfl).trans ?_
  refine ite_congr rfl (fun c1 => ?_) (fun c1 => ?_)
  · exact tq_return i_X11_takeDraft_19 r_X11_takeDraft
  · refine (tq_aload_n i_X11_takeDraft_7 rfl (isA_ref _) rfl).trans ?_
    refine (tq_getfield i_X11_takeDraft_8 (K9_s k1) (g_9_8 (K9_s k1)) (isV_I _) rfl).trans ?_
    refine (tq_aload_n i_X11_takeDraft_11 rfl (isA_ref _) rfl).trans ?_
    refine (tq_getfield i_X11_takeDraft_12 (K9_s k1) (gR (g_9_7 (K9_s k1)) (K9_e7 k1)) (isV_ref _) rfl).trans ?_
    refine (tq_alen i_X11_takeDraft_15 (K9_s7 k1) (by decide) (by decide) rfl).trans ?_
    rw [(K9_n7 k1)]
    refine (tq_icmp_lt (pt := 20) i_X11_takeDraft_16 (wr_fZ _ _ _) (wr_len (K9_s7 k1) (K9_n7 k1) (by decide) (by decide)) (by decide) rfl).trans ?_
    refine ite_congr rfl (fun c2 => ?_) (fun c2 => ?_)
    · refine (tq_aload_n i_X11_takeDraft_20 rfl (isA_ref _) rfl).trans ?_
      refine (tq_getfield i_X11_takeDraft_21 (K9_s k1) (gR (g_9_7 (K9_s k1)) (K9_e7 k1)) (isV_ref _) rfl).trans ?_
      refine (tq_aload_n i_X11_takeDraft_24 rfl (isA_ref _) rfl).trans ?_
      refine (tq_getfield i_X11_takeDraft_25 (K9_s k1) (g_9_8 (K9_s k1)) (isV_I _) rfl).trans ?_
      refine (tq_aload_n i_X11_takeDraft_28 rfl (isA_ref _) rfl).trans ?_
      refine (tq_getfield i_X11_takeDraft_29 (K9_s k1) (gR (g_9_9 (K9_s k1)) e2) (isV_ref _) rfl).trans ?_
      refine (tq_aastore (r := (some a0_draft)) i_X11_takeDraft_32 (K9_s7 k1) (elok_5 (K6_s k4)) (wr_fZ _ _ _) (g3 c1 c2).1 (lt_gn (K9_n7 k1) (g3 c1 c2).2) rfl).trans ?_
      refine (tq_aload_n i_X11_takeDraft_33 rfl (isA_ref _) rfl).trans ?_
      refine (tq_getfield i_X11_takeDraft_34 ((sh_uA _ _ _ _ _).trans (K9_s k1)) (gR ((g_9_9 ((sh_uA _ _ _ _ _).trans (K9_s k1))).trans (congrArg am_rv (fA_uA _ _ _ _ _ _))) e2) (isV_ref _) rfl).trans ?_
      refine (tq_getfield i_X11_takeDraft_37 ((sh_uA _ _ _ _ _).trans (K6_s k4)) ((g_6_6 ((sh_uA _ _ _ _ _).trans (K6_s k4))).trans (congrArg (fun z => Value.int (mI z)) (fZ_uA _ _ _ _ _ _))) (isV_I _) rfl).trans ?_
      refine (tq_if_eq (pt := 77) i_X11_takeDraft_40 (wr_fZ _ _ _) (by decide) rfl).trans ?_
      refine ite_congr rfl (fun c3 => ?_) (fun c3 => ?_)
      · refine (tq_aload_n i_X11_takeDraft_77 rfl (isA_ref _) rfl).trans ?_
        refine (tq_dup i_X11_takeDraft_78 rfl rfl).trans ?_
        refine (tq_getfield i_X11_takeDraft_79 ((sh_uA _ _ _ _ _).trans (K9_s k1)) ((g_9_8 ((sh_uA _ _ _ _ _).trans (K9_s k1))).trans (congrArg (fun z => Value.int (mI z)) (fZ_uA _ _ _ _ _ _))) (isV_I _) rfl).trans ?_
        refine (tq_iconst i_X11_takeDraft_82 rfl).trans ?_
        refine (tq_iadd i_X11_takeDraft_83 rfl).trans ?_
        refine (tq_putfield i_X11_takeDraft_84 ((sh_uA _ _ _ _ _).trans (K9_s k1)) (okf_9_8 _) rfl).trans ?_
        refine (tq_aload_n i_X11_takeDraft_87 rfl (isA_ref _) rfl).trans ?_
        exact tq_new i_X11_takeDraft_88 rfl
      · refine (tq_aload_n i_X11_takeDraft_43 rfl (isA_ref _) rfl).trans ?_
        refine (tq_getfield i_X11_takeDraft_44 ((sh_uA _ _ _ _ _).trans (K9_s k1)) (gR ((g_9_10 ((sh_uA _ _ _ _ _).trans (K9_s k1))).trans (congrArg am_rv (fA_uA _ _ _ _ _ _))) (K9_e10 k1)) (isV_ref _) rfl).trans ?_
        refine (tq_iconst i_X11_takeDraft_47 rfl).trans ?_
        exact c_X7_shift i_X11_takeDraft_48 (ltd d_X11_takeDraft (by decide)) (isA_ref _) stOk_0 rfl
    · exact tq_return i_X11_takeDraft_19 r_X11_takeDraft
theorem i_X11_takeDraft_51 : am_i m_X11_takeDraft 51 = some (51, .aload_n 0, 1, [], 0) := rfl
theorem i_X11_takeDraft_52 : am_i m_X11_takeDraft 52 = some (52, .getfield 51, 3, [9, 10, 0], 0) := rfl
theorem i_X11_takeDraft_55 : am_i m_X11_takeDraft 55 = some (55, .iconst 0, 1, [], 0) := rfl
theorem i_X11_takeDraft_56 : am_i m_X11_takeDraft 56 = some (56, .aload_n 0, 1, [], 0) := rfl
theorem i_X11_takeDraft_57 : am_i m_X11_takeDraft 57 = some (57, .getfield 43, 3, [9, 8, 0], 0) := rfl
theorem i_X11_takeDraft_60 : am_i m_X11_takeDraft 60 = some (60, .invokestatic 109, 3, [33], 0) := rfl
theorem i_X11_takeDraft_63 : am_i m_X11_takeDraft 63 = some (63, .aload_n 0, 1, [], 0) := rfl
theorem i_X11_takeDraft_64 : am_i m_X11_takeDraft 64 = some (64, .aload_n 0, 1, [], 0) := rfl
theorem i_X11_takeDraft_65 : am_i m_X11_takeDraft 65 = some (65, .getfield 54, 3, [9, 11, 0], 0) := rfl
theorem i_X11_takeDraft_68 : am_i m_X11_takeDraft 68 = some (68, .iconst 1, 1, [], 1) := rfl
theorem i_X11_takeDraft_69 : am_i m_X11_takeDraft 69 = some (69, .iadd, 1, [], 0) := rfl
theorem i_X11_takeDraft_70 : am_i m_X11_takeDraft 70 = some (70, .iconst 3, 1, [], 3) := rfl
theorem i_X11_takeDraft_71 : am_i m_X11_takeDraft 71 = some (71, .invokestatic 336, 3, [0, 2], 0) := rfl
theorem i_X11_takeDraft_74 : am_i m_X11_takeDraft 74 = some (74, .putfield 54, 3, [9, 11, 0], 0) := rfl
theorem b_X11_takeDraft_51 {a0 : Nat} {h : am_H} (k1 : K9 h a0) (g2 : (0 : Int) ≤ 0 ∧ 0 < (3 : Int)) : rn m_X11_takeDraft 51 [.ref a0] [] h = rn m_X11_takeDraft 91 [.ref a0] [.ref (hnx (uF 9 (uF 9 (uZ h (a0 + 14) 0 (fZ h a0 8)) a0 11 (.int (mI (min (wr ((fZ h a0 11) + 1)) 3)))) a0 8 (.int (mI ((fZ h a0 8) + 1))))), .ref a0] (aO 6 (uF 9 (uF 9 (uZ h (a0 + 14) 0 (fZ h a0 8)) a0 11 (.int (mI (min (wr ((fZ h a0 11) + 1)) 3)))) a0 8 (.int (mI ((fZ h a0 8) + 1))))) := by
  refine (tq_aload_n i_X11_takeDraft_51 rfl (isA_ref _) rfl).trans ?_
  refine (tq_getfield i_X11_takeDraft_52 (K9_s k1) (gR (g_9_10 (K9_s k1)) (K9_e10 k1)) (isV_ref _) rfl).trans ?_
  refine (tq_iconst i_X11_takeDraft_55 rfl).trans ?_
  refine (tq_aload_n i_X11_takeDraft_56 rfl (isA_ref _) rfl).trans ?_
  refine (tq_getfield i_X11_takeDraft_57 (K9_s k1) (g_9_8 (K9_s k1)) (isV_I _) rfl).trans ?_
  refine (c_X7_put i_X11_takeDraft_60 (ltd d_X11_takeDraft (by decide)) (isA_ref _) stOk_0 rfl).trans ?_
  refine (congrArg (cl _ _ _ _) (put_ok w_0 (K9_n10 k1) (K9_s10 k1) g2)).trans ?_
  refine (cl_n _ _ _ _ _).trans ?_
  refine (tq_aload_n i_X11_takeDraft_63 rfl (isA_ref _) rfl).trans ?_
  refine (tq_aload_n i_X11_takeDraft_64 rfl (isA_ref _) rfl).trans ?_
  refine (tq_getfield i_X11_takeDraft_65 ((sh_uZ _ _ _ _ _).trans (K9_s k1)) ((g_9_11 ((sh_uZ _ _ _ _ _).trans (K9_s k1))).trans (congrArg (fun z => Value.int (mI z)) (fZ_uZ _ _ _ _ _ _))) (isV_I _) rfl).trans ?_
  refine (tq_iconst i_X11_takeDraft_68 rfl).trans ?_
  refine (tq_iadd i_X11_takeDraft_69 rfl).trans ?_
  refine (tq_iconst i_X11_takeDraft_70 rfl).trans ?_
  refine (tq_min i_X11_takeDraft_71 rfl w_3 (Nat.le_of_ble_eq_true rfl) rfl).trans ?_
  refine (tq_putfield i_X11_takeDraft_74 ((sh_uZ _ _ _ _ _).trans (K9_s k1)) (okf_9_11 _) rfl).trans ?_
  refine (tq_aload_n i_X11_takeDraft_77 rfl (isA_ref _) rfl).trans ?_
  refine (tq_dup i_X11_takeDraft_78 rfl rfl).trans ?_
  refine (tq_getfield i_X11_takeDraft_79 ((sh_uF _ _ _ _ _ _).trans ((sh_uZ _ _ _ _ _).trans (K9_s k1))) ((g_9_8 ((sh_uF _ _ _ _ _ _).trans ((sh_uZ _ _ _ _ _).trans (K9_s k1)))).trans (congrArg (fun z => Value.int (mI z)) ((fZ_uF_nk ((sh_uZ _ _ _ _ _).trans (K9_s k1)) (okf_9_11 _) (by decide)).trans (fZ_uZ _ _ _ _ _ _)))) (isV_I _) rfl).trans ?_
  refine (tq_iconst i_X11_takeDraft_82 rfl).trans ?_
  refine (tq_iadd i_X11_takeDraft_83 rfl).trans ?_
  refine (tq_putfield i_X11_takeDraft_84 ((sh_uF _ _ _ _ _ _).trans ((sh_uZ _ _ _ _ _).trans (K9_s k1))) (okf_9_8 _) rfl).trans ?_
  refine (tq_aload_n i_X11_takeDraft_87 rfl (isA_ref _) rfl).trans ?_
  exact tq_new i_X11_takeDraft_88 rfl
theorem i_X11_takeDraft_91 : am_i m_X11_takeDraft 91 = some (91, .dup, 1, [], 0) := rfl
theorem i_X11_takeDraft_92 : am_i m_X11_takeDraft 92 = some (92, .invokespecial 46, 3, [66], 0) := rfl
theorem b_X11_takeDraft_91 {v0 : Value} {as0 as1 : Nat} {h : am_H} : rn m_X11_takeDraft 91 [v0] [.ref as0, .ref as1] h = cl m_X11_takeDraft 95 [v0] [.ref as0, .ref as1] (rn m_X6_init 0 [.ref as0] [] h) := by
  refine (tq_dup i_X11_takeDraft_91 rfl rfl).trans ?_
  exact c_X6_init i_X11_takeDraft_92 (ltd d_X11_takeDraft (by decide)) (stOk_2 _ _) rfl
theorem i_X11_takeDraft_95 : am_i m_X11_takeDraft 95 = some (95, .putfield 47, 3, [9, 9, 0], 0) := rfl
theorem i_X11_takeDraft_98 : am_i m_X11_takeDraft 98 = some (98, .return_, 1, [], 0) := rfl
theorem b_X11_takeDraft_95 {v0 : Value} {as0 as1 : Nat} {h : am_H} (k1 : K9 h as1) : rn m_X11_takeDraft 95 [v0] [.ref as0, .ref as1] h = some (.inl none, uF 9 h as1 9 (.ref as0)) := by
  refine (tq_putfield i_X11_takeDraft_95 (K9_s k1) (okfA_9_9 (isA_ref _)) rfl).trans ?_
  exact tq_return i_X11_takeDraft_98 r_X11_takeDraft
theorem draft_tail {hh : am_H} (k9 : K9 hh 2) (al : 51 < hnx hh) : ∃ h', rn m_X11_takeDraft 91 [.ref 2] [.ref (hnx hh), .ref 2] (aO 6 hh) = some (.inl none, h') ∧ Fr (fun a k => a = 2 ∧ k = 9) 9 592 hh h' ∧ hnx h' = hnx hh + 9 ∧ K6 h' (hnx hh) ∧ (∀ i, gZ h' (hnx hh + 8) i = 0) ∧ fA h' 2 9 = some (hnx hh) ∧ K9 h' 2 := by
  obtain ⟨h1, e1, F1, nx1, k6, z1⟩ := x6init_ok hh
  have k91 : K9 h1 2 := K9_fr F1 (by omega) k9
  rw [b_X11_takeDraft_91, e1, cl_n, b_X11_takeDraft_95 k91]
  have m : Md (fun a k => a = 2 ∧ k = 9) h1 (uF 9 h1 2 9 (.ref (hnx hh))) := Md_uF (Sm_uF_9_9 _ _ _)
  exact ⟨_, rfl, Fr_mono (Fr_tr (U := fun a k => a = 2 ∧ k = 9) F1 (md_fr m) (fun _ _ _ q => q.elim) (fun _ _ _ q => q)) (fun _ _ _ q => q) (by omega) (by omega), (hnx_uF _ _ _ _ _).trans nx1, K6_sm m.1 k6, fun i => (md_gZ m (by omega) i).trans (z1 i), fA_uF_eq (r := some (hnx hh)) (K9_s k91) (okfA_9_9 (isA_ref _)), K9_sm m.1 k91⟩
theorem takeDraft_ok (k9 : K9 h 2) (al : 51 < hnx h) (eD : fA h 2 9 = some D) (k6 : K6 h D) (hD : 51 < D ∨ D = 7) {n k8 kp : Int} (en : fZ h 2 8 = n) (hn : 0 ≤ n ∧ n < 12) (e8 : fZ h 2 11 = k8) (h8 : 0 ≤ k8 ∧ k8 ≤ 3) (ek : fZ h D 6 = kp) : ∃ h', rn m_X11_takeDraft 0 [.ref 2] [] h = some (.inl none, h') ∧ Fr STk 9 592 h h' ∧ hnx h' = hnx h + 9 ∧ K6 h' (hnx h) ∧ (∀ i, gZ h' (hnx h + 8) i = 0) ∧ fA h' 2 9 = some (hnx h) ∧ K9 h' 2 ∧ gA h' 6 n = some D ∧ (∀ i, i ≠ n → gA h' 6 i = gA h 6 i) ∧ fZ h' 2 8 = n + 1 ∧ fZ h' 2 11 = (if kp = 0 then k8 else min (k8 + 1) 3) ∧ ∀ j, 0 ≤ j → j < 3 → gZ h' 16 j = if kp = 0 then gZ h 16 j else if j = 0 then n else gZ h 16 (j - 1) := by
  have st := b_X11_takeDraft_0 (a0 := 2) (a0_draft := D) (h := h) k9 eD (fun _ _ => by omega) k6
  simp only [Nat.reduceAdd] at st
  rw [en, ek, if_neg (by omega), if_pos hn.2] at st
  have mU : Md (fun a _ => a = 6) h (uA h 6 n (some D)) := Md_uA _ _ _ _
  have s6 : sh h 6 = (4, 5) := K9_s7 k9
  have gU : gA (uA h 6 n (some D)) 6 n = some D := gA_uA_eq _ (by rw [s6]) rfl
  have gU' : ∀ i, i ≠ n → gA (uA h 6 n (some D)) 6 i = gA h 6 i := fun i e => gA_uA_nj _ (by rw [s6]) e
  have nxU : hnx (uA h 6 n (some D)) = hnx h := mU.1.2.2.2.1
  have kU := K9_sm mU.1 k9
  have eU : fZ (uA h 6 n (some D)) 2 8 = n := (md_fZ mU (by omega)).trans en
  have e8U : fZ (uA h 6 n (some D)) 2 11 = k8 := (md_fZ mU (by omega)).trans e8
  have zU : ∀ j, gZ (uA h 6 n (some D)) 16 j = gZ h 16 j := fun j => md_gZ mU (by omega) j
  generalize uA h 6 n (some D) = hU at *
  by_cases q : kp = 0
  · rw [if_pos q] at st
    have mV : Md (fun a k => a = 2 ∧ k = 8) hU (uF 9 hU 2 8 (.int (mI (n + 1)))) := Md_uF (Sm_uF_9_8 _ _ _)
    have fV : fZ (uF 9 hU 2 8 (.int (mI (n + 1)))) 2 8 = n + 1 := by rw [fZ_uF_eq (K9_s kU) (okf_9_8 _), wr_id (by omega) (by omega)]
    have nxV : hnx (uF 9 hU 2 8 (.int (mI (n + 1)))) = hnx h := mV.1.2.2.2.1.trans nxU
    have kV := K9_sm mV.1 kU
    generalize uF 9 hU 2 8 (.int (mI (n + 1))) = hV at *
    obtain ⟨h', e', F', nx', k6', z', a', k9'⟩ := draft_tail (hh := hV) kV (by omega)
    rw [nxV] at e' nx' k6' z' a'
    have F : Fr STk 9 592 h h' := Fr_mono (Fr_tr (U := STk) (md_fr mU) (Fr_tr (U := STk) (md_fr mV) F' (fun a k _ q => by unfold STk; omega) (fun a k _ q => by unfold STk; omega)) (fun a k _ q => by unfold STk; omega) (fun _ _ _ q => q)) (fun _ _ _ q => q) (by omega) (by omega)
    refine ⟨h', ?_, F, nx', k6', z', a', k9', ?_, fun i hi => ?_, ?_, ?_, fun j j0 j1 => ?_⟩
    · rw [nxV] at st
      exact st.trans e'
    · rw [F'.1.gA1 (by omega) (by omega), md_gA mV (by omega)]; exact gU
    · rw [F'.1.gA1 (by omega) (by omega), md_gA mV (by omega)]; exact gU' i hi
    · rw [F'.1.fZ1 (by omega) (by omega)]; exact fV
    · rw [if_pos q, F'.1.fZ1 (by omega) (by omega)]; exact (md_fZ mV (by omega)).trans e8U
    · rw [if_pos q, F'.1.gZ1 _ (by omega) (by omega), md_gZ mV (by omega)]; exact zU j
  · rw [if_neg q] at st
    obtain ⟨hs, es, ms, zs⟩ := shift_md (h := hU) (a := 16) (n := 3) (k := 1) (K9_s10 kU) (K9_n10 kU) (by omega) (by omega)
    have ks := K9_sm ms.1 kU
    have e8s : fZ hs 2 8 = n := (md_fZ ms (by omega)).trans eU
    have e11s : fZ hs 2 11 = k8 := (md_fZ ms (by omega)).trans e8U
    rw [es, cl_n, b_X11_takeDraft_51 ks (by decide)] at st
    simp only [Nat.reduceAdd] at st
    rw [e8s, e11s, wr_id (z := k8 + 1) (by omega) (by omega)] at st
    have mW : Md (fun a _ => a = 16) hs (uZ hs 16 0 n) := Md_uZ _ _ _ _
    have zW : ∀ j, gZ (uZ hs 16 0 n) 16 j = if j = 0 then n else gZ hs 16 j := fun j => by
      rw [gZ_uZ' (sh1 (K9_s10 ks)), wr_id (by omega) (by omega)]
    have kW := K9_sm mW.1 ks
    have nxW : hnx (uZ hs 16 0 n) = hnx h := mW.1.2.2.2.1.trans (ms.1.2.2.2.1.trans nxU)
    generalize uZ hs 16 0 n = hW at *
    have mX : Md (fun a k => a = 2 ∧ k = 11) hW (uF 9 hW 2 11 (.int (mI (min (k8 + 1) 3)))) := Md_uF (Sm_uF_9_11 _ _ _)
    have fX : fZ (uF 9 hW 2 11 (.int (mI (min (k8 + 1) 3)))) 2 11 = min (k8 + 1) 3 := by rw [fZ_uF_eq (K9_s kW) (okf_9_11 _), wr_id (by omega) (by omega)]
    have kX := K9_sm mX.1 kW
    generalize uF 9 hW 2 11 (.int (mI (min (k8 + 1) 3))) = hX at *
    have mV : Md (fun a k => a = 2 ∧ k = 8) hX (uF 9 hX 2 8 (.int (mI (n + 1)))) := Md_uF (Sm_uF_9_8 _ _ _)
    have fV : fZ (uF 9 hX 2 8 (.int (mI (n + 1)))) 2 8 = n + 1 := by rw [fZ_uF_eq (K9_s kX) (okf_9_8 _), wr_id (by omega) (by omega)]
    have nxV : hnx (uF 9 hX 2 8 (.int (mI (n + 1)))) = hnx h := mV.1.2.2.2.1.trans (mX.1.2.2.2.1.trans nxW)
    have kV := K9_sm mV.1 kX
    generalize uF 9 hX 2 8 (.int (mI (n + 1))) = hV at *
    obtain ⟨h', e', F', nx', k6', z', a', k9'⟩ := draft_tail (hh := hV) kV (by omega)
    rw [nxV] at e' nx' k6' z' a'
    have mT : Md STk h hV := Md_tr (Md_mono mU fun a k q => by unfold STk; omega) (Md_tr (Md_mono ms fun a k q => by unfold STk; omega) (Md_tr (Md_mono mW fun a k q => by unfold STk; omega) (Md_tr (Md_mono mX fun a k q => by unfold STk; omega) (Md_mono mV fun a k q => by unfold STk; omega))))
    have F : Fr STk 9 592 h h' := Fr_mono (Fr_tr (U := STk) (md_fr mT) F' (fun _ _ _ q => q) (fun a k _ q => by unfold STk; omega)) (fun _ _ _ q => q) (by omega) (by omega)
    refine ⟨h', ?_, F, nx', k6', z', a', k9', ?_, fun i hi => ?_, ?_, ?_, fun j j0 j1 => ?_⟩
    · rw [nxV] at st
      exact st.trans e'
    · rw [F'.1.gA1 (by omega) (by omega), md_gA mV (by omega), md_gA mX (by omega), md_gA mW (by omega), md_gA ms (by omega)]; exact gU
    · rw [F'.1.gA1 (by omega) (by omega), md_gA mV (by omega), md_gA mX (by omega), md_gA mW (by omega), md_gA ms (by omega)]; exact gU' i hi
    · rw [F'.1.fZ1 (by omega) (by omega)]; exact fV
    · rw [if_neg q, F'.1.fZ1 (by omega) (by omega)]; exact (md_fZ mV (by omega)).trans fX
    · rw [if_neg q, F'.1.gZ1 _ (by omega) (by omega), md_gZ mV (by omega), md_gZ mX (by omega), zW j]
      by_cases j00 : j = 0
      · rw [if_pos j00, if_pos j00]
      · rw [if_neg j00, if_neg j00, zs j, if_pos (by omega)]
        exact zU (j - 1)
end CT
/-! ===== the bucket and the coarseness after a picture ===== -/
def bkt (σ : St) (B : Int) : Int := (if tz σ 6 ≤ tz σ 5 then 0 else tz σ 6 - tz σ 5) + B
def nbt (σ : St) (B : Int) : Int := if 0 < tz σ 4 then bkt σ B else tz σ 6
def stv (σ : St) (x : Int) : Int := if 0 < tz σ 4 then (if 4 * x ≤ 3 * tz σ 4 then (if tz σ 4 ≤ 4 * x then tz σ 0 else if tz σ 0 ≤ 1 then tz σ 0 else tz σ 0 - 1) else if 40 ≤ tz σ 0 then tz σ 0 else tz σ 0 + 1) else tz σ 0
def ovf (σ : St) (B : Int) : Prop := 0 < tz σ 4 ∧ tz σ 4 < bkt σ B
section CB
variable {σ : St} {h h' : am_H} {D : Nat} {c : Int}
theorem i_X0_take_0 : am_i m_X0_take 0 = some (0, .aload_n 0, 1, [], 0) := rfl
theorem i_X0_take_1 : am_i m_X0_take 1 = some (1, .invokevirtual 21, 3, [3, 0], 0) := rfl
theorem i_X0_take_4 : am_i m_X0_take 4 = some (4, .ifCond .eq 12, 3, [], 0) := rfl
theorem i_X0_take_7 : am_i m_X0_take 7 = some (7, .aload_n 0, 1, [], 0) := rfl
theorem i_X0_take_8 : am_i m_X0_take 8 = some (8, .aload_n 0, 1, [], 0) := rfl
theorem i_X0_take_9 : am_i m_X0_take 9 = some (9, .iload_n 1, 1, [], 0) := rfl
theorem i_X0_take_10 : am_i m_X0_take 10 = some (10, .invokevirtual 25, 3, [2, 0], 0) := rfl
theorem i_X0_take_13 : am_i m_X0_take 13 = some (13, .putfield 18, 3, [0, 2, 0], 0) := rfl
theorem i_X0_take_16 : am_i m_X0_take 16 = some (16, .return_, 1, [], 0) := rfl
theorem b_X0_take_0 {a0 : Nat} {x1 : Int} {h : am_H} (k1 : K0 h a0) : rn m_X0_take 0 [.ref a0, .int (mI x1)] [] h = if (¬ ((fZ h a0 0) ≤ 0)) then some (.inl none, uF 0 h a0 2 (.int (mI ((if (fZ h a0 2) ≤ (fZ h a0 1) then 0 else (fZ h a0 2) - (fZ h a0 1)) + x1)))) else some (.inl none, h) := by
  refine (tq_aload_n i_X0_take_0 rfl (isA_ref _) rfl).trans ?_
  refine (c_X0_isThere i_X0_take_1 (K0_s k1) (ltd d_X0_take (by decide)) stOk_0 rfl).trans ?_
  refine (congrArg (cl _ _ _ _) (b_X0_isThere_0 k1)).trans ?_
  refine (cl_v _ _ _ _ _ _).trans ?_
  refine (tq_ifb_eq (pt := 16) i_X0_take_4 (by decide) rfl).trans ?_
  refine ite_congr rfl (fun c1 => ?_) (fun c1 => ?_)
  · refine (tq_aload_n i_X0_take_7 rfl (isA_ref _) rfl).trans ?_
    refine (tq_aload_n i_X0_take_8 rfl (isA_ref _) rfl).trans ?_
    refine (tq_iload_n i_X0_take_9 rfl rfl).trans ?_
    refine (c_X0_filledWith i_X0_take_10 (K0_s k1) (ltd d_X0_take (by decide)) (stOk_1 _) rfl).trans ?_
    refine (congrArg (cl _ _ _ _) (b_X0_filledWith_0 k1)).trans ?_
    refine (cl_v _ _ _ _ _ _).trans ?_
    refine (tq_putfield i_X0_take_13 (K0_s k1) (okf_0_2 _) rfl).trans ?_
    exact tq_return i_X0_take_16 r_X0_take
  · exact tq_return i_X0_take_16 r_X0_take
theorem i_X0_steer_0 : am_i m_X0_steer 0 = some (0, .aload_n 0, 1, [], 0) := rfl
theorem i_X0_steer_1 : am_i m_X0_steer 1 = some (1, .invokevirtual 21, 3, [3, 0], 0) := rfl
theorem i_X0_steer_4 : am_i m_X0_steer 4 = some (4, .ifCond .eq 28, 3, [], 0) := rfl
theorem i_X0_steer_7 : am_i m_X0_steer 7 = some (7, .iconst 4, 1, [], 4) := rfl
theorem i_X0_steer_8 : am_i m_X0_steer 8 = some (8, .aload_n 0, 1, [], 0) := rfl
theorem i_X0_steer_9 : am_i m_X0_steer 9 = some (9, .getfield 18, 3, [0, 2, 0], 0) := rfl
theorem i_X0_steer_12 : am_i m_X0_steer 12 = some (12, .imul, 1, [], 0) := rfl
theorem i_X0_steer_13 : am_i m_X0_steer 13 = some (13, .iconst 3, 1, [], 3) := rfl
theorem i_X0_steer_14 : am_i m_X0_steer 14 = some (14, .aload_n 0, 1, [], 0) := rfl
theorem i_X0_steer_15 : am_i m_X0_steer 15 = some (15, .getfield 9, 3, [0, 0, 0], 0) := rfl
theorem i_X0_steer_18 : am_i m_X0_steer 18 = some (18, .imul, 1, [], 0) := rfl
theorem i_X0_steer_19 : am_i m_X0_steer 19 = some (19, .if_icmp .le 13, 3, [], 0) := rfl
theorem i_X0_steer_22 : am_i m_X0_steer 22 = some (22, .iload_n 1, 1, [], 0) := rfl
theorem i_X0_steer_23 : am_i m_X0_steer 23 = some (23, .bipush 40, 2, [], 40) := rfl
theorem i_X0_steer_25 : am_i m_X0_steer 25 = some (25, .if_icmp .ge 7, 3, [], 0) := rfl
theorem i_X0_steer_28 : am_i m_X0_steer 28 = some (28, .iload_n 1, 1, [], 0) := rfl
theorem i_X0_steer_29 : am_i m_X0_steer 29 = some (29, .iconst 1, 1, [], 1) := rfl
theorem i_X0_steer_30 : am_i m_X0_steer 30 = some (30, .iadd, 1, [], 0) := rfl
theorem i_X0_steer_31 : am_i m_X0_steer 31 = some (31, .ireturn, 1, [], 0) := rfl
theorem i_X0_steer_32 : am_i m_X0_steer 32 = some (32, .aload_n 0, 1, [], 0) := rfl
theorem i_X0_steer_33 : am_i m_X0_steer 33 = some (33, .invokevirtual 21, 3, [3, 0], 0) := rfl
theorem i_X0_steer_36 : am_i m_X0_steer 36 = some (36, .ifCond .eq 25, 3, [], 0) := rfl
theorem i_X0_steer_39 : am_i m_X0_steer 39 = some (39, .iconst 4, 1, [], 4) := rfl
theorem i_X0_steer_40 : am_i m_X0_steer 40 = some (40, .aload_n 0, 1, [], 0) := rfl
theorem i_X0_steer_41 : am_i m_X0_steer 41 = some (41, .getfield 18, 3, [0, 2, 0], 0) := rfl
theorem i_X0_steer_44 : am_i m_X0_steer 44 = some (44, .imul, 1, [], 0) := rfl
theorem i_X0_steer_45 : am_i m_X0_steer 45 = some (45, .aload_n 0, 1, [], 0) := rfl
theorem i_X0_steer_46 : am_i m_X0_steer 46 = some (46, .getfield 9, 3, [0, 0, 0], 0) := rfl
theorem i_X0_steer_49 : am_i m_X0_steer 49 = some (49, .if_icmp .ge 12, 3, [], 0) := rfl
theorem i_X0_steer_52 : am_i m_X0_steer 52 = some (52, .iload_n 1, 1, [], 0) := rfl
theorem i_X0_steer_53 : am_i m_X0_steer 53 = some (53, .iconst 1, 1, [], 1) := rfl
theorem i_X0_steer_54 : am_i m_X0_steer 54 = some (54, .if_icmp .le 7, 3, [], 0) := rfl
theorem i_X0_steer_57 : am_i m_X0_steer 57 = some (57, .iload_n 1, 1, [], 0) := rfl
theorem i_X0_steer_58 : am_i m_X0_steer 58 = some (58, .iconst 1, 1, [], 1) := rfl
theorem i_X0_steer_59 : am_i m_X0_steer 59 = some (59, .isub, 1, [], 0) := rfl
theorem i_X0_steer_60 : am_i m_X0_steer 60 = some (60, .ireturn, 1, [], 0) := rfl
theorem i_X0_steer_61 : am_i m_X0_steer 61 = some (61, .iload_n 1, 1, [], 0) := rfl
theorem i_X0_steer_62 : am_i m_X0_steer 62 = some (62, .ireturn, 1, [], 0) := rfl
theorem b_X0_steer_0 {a0 : Nat} {x1 x1' : Int} {h : am_H} (w1 : wr x1 = x1') (k1 : K0 h a0) : rn m_X0_steer 0 [.ref a0, .int (mI x1)] [] h = if (¬ ((fZ h a0 0) ≤ 0)) then if (wr (4 * (fZ h a0 2))) ≤ (wr (3 * (fZ h a0 0))) then if (¬ ((fZ h a0 0) ≤ 0)) then if (fZ h a0 0) ≤ (wr (4 * (fZ h a0 2))) then some (.inl (some (.int (mI x1))), h) else if x1' ≤ 1 then some (.inl (some (.int (mI x1))), h) else some (.inl (some (.int (mI (x1 - 1)))), h) else some (.inl (some (.int (mI x1))), h) else if 40 ≤ x1' then if (¬ ((fZ h a0 0) ≤ 0)) then if (fZ h a0 0) ≤ (wr (4 * (fZ h a0 2))) then some (.inl (some (.int (mI x1))), h) else if x1' ≤ 1 then some (.inl (some (.int (mI x1))), h) else some (.inl (some (.int (mI (x1 - 1)))), h) else some (.inl (some (.int (mI x1))), h) else some (.inl (some (.int (mI (x1 + 1)))), h) else if (¬ ((fZ h a0 0) ≤ 0)) then if (fZ h a0 0) ≤ (wr (4 * (fZ h a0 2))) then some (.inl (some (.int (mI x1))), h) else if x1' ≤ 1 then some (.inl (some (.int (mI x1))), h) else some (.inl (some (.int (mI (x1 - 1)))), h) else some (.inl (some (.int (mI x1))), h) := by
  refine (tq_aload_n i_X0_steer_0 rfl (isA_ref _) rfl).trans ?_
  refine (c_X0_isThere i_X0_steer_1 (K0_s k1) (ltd d_X0_steer (by decide)) stOk_0 rfl).trans ?_
  refine (congrArg (cl _ _ _ _) (b_X0_isThere_0 k1)).trans ?_
  refine (cl_v _ _ _ _ _ _).trans ?_
  refine (tq_ifb_eq (pt := 32) i_X0_steer_4 (by decide) rfl).trans ?_
  refine ite_congr rfl (fun c1 => ?_) (fun c1 => ?_)
  · refine (tq_iconst i_X0_steer_7 rfl).trans ?_
    refine (tq_aload_n i_X0_steer_8 rfl (isA_ref _) rfl).trans ?_
    refine (tq_getfield i_X0_steer_9 (K0_s k1) (g_0_2 (K0_s k1)) (isV_I _) rfl).trans ?_
    refine (tq_imul i_X0_steer_12 rfl).trans ?_
    refine (tq_iconst i_X0_steer_13 rfl).trans ?_
    refine (tq_aload_n i_X0_steer_14 rfl (isA_ref _) rfl).trans ?_
    refine (tq_getfield i_X0_steer_15 (K0_s k1) (g_0_0 (K0_s k1)) (isV_I _) rfl).trans ?_
    refine (tq_imul i_X0_steer_18 rfl).trans ?_
    refine (tq_icmp_le (pt := 32) i_X0_steer_19 rfl rfl (by decide) rfl).trans ?_
    refine ite_congr rfl (fun c2 => ?_) (fun c2 => ?_)
    · refine (tq_aload_n i_X0_steer_32 rfl (isA_ref _) rfl).trans ?_
      refine (c_X0_isThere i_X0_steer_33 (K0_s k1) (ltd d_X0_steer (by decide)) stOk_0 rfl).trans ?_
      refine (congrArg (cl _ _ _ _) (b_X0_isThere_0 k1)).trans ?_
      refine (cl_v _ _ _ _ _ _).trans ?_
      refine (tq_ifb_eq (pt := 61) i_X0_steer_36 (by decide) rfl).trans ?_
      refine ite_congr rfl (fun c3 => ?_) (fun c3 => ?_)
      · refine (tq_iconst i_X0_steer_39 rfl).trans ?_
        refine (tq_aload_n i_X0_steer_40 rfl (isA_ref _) rfl).trans ?_
        refine (tq_getfield i_X0_steer_41 (K0_s k1) (g_0_2 (K0_s k1)) (isV_I _) rfl).trans ?_
        refine (tq_imul i_X0_steer_44 rfl).trans ?_
        refine (tq_aload_n i_X0_steer_45 rfl (isA_ref _) rfl).trans ?_
        refine (tq_getfield i_X0_steer_46 (K0_s k1) (g_0_0 (K0_s k1)) (isV_I _) rfl).trans ?_
        refine (tq_icmp_ge (pt := 61) i_X0_steer_49 rfl (wr_fZ _ _ _) (by decide) rfl).trans ?_
        refine ite_congr rfl (fun c4 => ?_) (fun c4 => ?_)
        · refine (tq_iload_n i_X0_steer_61 rfl rfl).trans ?_
          exact tq_ireturn i_X0_steer_62 r_X0_steer rfl
        · refine (tq_iload_n i_X0_steer_52 rfl rfl).trans ?_
          refine (tq_iconst i_X0_steer_53 rfl).trans ?_
          refine (tq_icmp_le (pt := 61) i_X0_steer_54 w1 w_1 (by decide) rfl).trans ?_
          refine ite_congr rfl (fun c5 => ?_) (fun c5 => ?_)
          · refine (tq_iload_n i_X0_steer_61 rfl rfl).trans ?_
            exact tq_ireturn i_X0_steer_62 r_X0_steer rfl
          · refine (tq_iload_n i_X0_steer_57 rfl rfl).trans ?_
            refine (tq_iconst i_X0_steer_58 rfl).trans ?_
            refine (tq_isub i_X0_steer_59 rfl).trans ?_
            exact tq_ireturn i_X0_steer_60 r_X0_steer rfl
      · refine (tq_iload_n i_X0_steer_61 rfl rfl).trans ?_
        exact tq_ireturn i_X0_steer_62 r_X0_steer rfl
    · refine (tq_iload_n i_X0_steer_22 rfl rfl).trans ?_
      refine (tq_bipush i_X0_steer_23 rfl).trans ?_
      refine (tq_icmp_ge (pt := 32) i_X0_steer_25 w1 w_40 (by decide) rfl).trans ?_
      refine ite_congr rfl (fun c6 => ?_) (fun c6 => ?_)
      · refine (tq_aload_n i_X0_steer_32 rfl (isA_ref _) rfl).trans ?_
        refine (c_X0_isThere i_X0_steer_33 (K0_s k1) (ltd d_X0_steer (by decide)) stOk_0 rfl).trans ?_
        refine (congrArg (cl _ _ _ _) (b_X0_isThere_0 k1)).trans ?_
        refine (cl_v _ _ _ _ _ _).trans ?_
        refine (tq_ifb_eq (pt := 61) i_X0_steer_36 (by decide) rfl).trans ?_
        refine ite_congr rfl (fun c7 => ?_) (fun c7 => ?_)
        · refine (tq_iconst i_X0_steer_39 rfl).trans ?_
          refine (tq_aload_n i_X0_steer_40 rfl (isA_ref _) rfl).trans ?_
          refine (tq_getfield i_X0_steer_41 (K0_s k1) (g_0_2 (K0_s k1)) (isV_I _) rfl).trans ?_
          refine (tq_imul i_X0_steer_44 rfl).trans ?_
          refine (tq_aload_n i_X0_steer_45 rfl (isA_ref _) rfl).trans ?_
          refine (tq_getfield i_X0_steer_46 (K0_s k1) (g_0_0 (K0_s k1)) (isV_I _) rfl).trans ?_
          refine (tq_icmp_ge (pt := 61) i_X0_steer_49 rfl (wr_fZ _ _ _) (by decide) rfl).trans ?_
          refine ite_congr rfl (fun c8 => ?_) (fun c8 => ?_)
          · refine (tq_iload_n i_X0_steer_61 rfl rfl).trans ?_
            exact tq_ireturn i_X0_steer_62 r_X0_steer rfl
          · refine (tq_iload_n i_X0_steer_52 rfl rfl).trans ?_
            refine (tq_iconst i_X0_steer_53 rfl).trans ?_
            refine (tq_icmp_le (pt := 61) i_X0_steer_54 w1 w_1 (by decide) rfl).trans ?_
            refine ite_congr rfl (fun c9 => ?_) (fun c9 => ?_)
            · refine (tq_iload_n i_X0_steer_61 rfl rfl).trans ?_
              exact tq_ireturn i_X0_steer_62 r_X0_steer rfl
            · refine (tq_iload_n i_X0_steer_57 rfl rfl).trans ?_
              refine (tq_iconst i_X0_steer_58 rfl).trans ?_
              refine (tq_isub i_X0_steer_59 rfl).trans ?_
              exact tq_ireturn i_X0_steer_60 r_X0_steer rfl
        · refine (tq_iload_n i_X0_steer_61 rfl rfl).trans ?_
          exact tq_ireturn i_X0_steer_62 r_X0_steer rfl
      · refine (tq_iload_n i_X0_steer_28 rfl rfl).trans ?_
        refine (tq_iconst i_X0_steer_29 rfl).trans ?_
        refine (tq_iadd i_X0_steer_30 rfl).trans ?_
        exact tq_ireturn i_X0_steer_31 r_X0_steer rfl
  · refine (tq_aload_n i_X0_steer_32 rfl (isA_ref _) rfl).trans ?_
    refine (c_X0_isThere i_X0_steer_33 (K0_s k1) (ltd d_X0_steer (by decide)) stOk_0 rfl).trans ?_
    refine (congrArg (cl _ _ _ _) (b_X0_isThere_0 k1)).trans ?_
    refine (cl_v _ _ _ _ _ _).trans ?_
    refine (tq_ifb_eq (pt := 61) i_X0_steer_36 (by decide) rfl).trans ?_
    refine ite_congr rfl (fun c10 => ?_) (fun c10 => ?_)
    · refine (tq_iconst i_X0_steer_39 rfl).trans ?_
      refine (tq_aload_n i_X0_steer_40 rfl (isA_ref _) rfl).trans ?_
      refine (tq_getfield i_X0_steer_41 (K0_s k1) (g_0_2 (K0_s k1)) (isV_I _) rfl).trans ?_
      refine (tq_imul i_X0_steer_44 rfl).trans ?_
      refine (tq_aload_n i_X0_steer_45 rfl (isA_ref _) rfl).trans ?_
      refine (tq_getfield i_X0_steer_46 (K0_s k1) (g_0_0 (K0_s k1)) (isV_I _) rfl).trans ?_
      refine (tq_icmp_ge (pt := 61) i_X0_steer_49 rfl (wr_fZ _ _ _) (by decide) rfl).trans ?_
      refine ite_congr rfl (fun c11 => ?_) (fun c11 => ?_)
      · refine (tq_iload_n i_X0_steer_61 rfl rfl).trans ?_
        exact tq_ireturn i_X0_steer_62 r_X0_steer rfl
      · refine (tq_iload_n i_X0_steer_52 rfl rfl).trans ?_
        refine (tq_iconst i_X0_steer_53 rfl).trans ?_
        refine (tq_icmp_le (pt := 61) i_X0_steer_54 w1 w_1 (by decide) rfl).trans ?_
        refine ite_congr rfl (fun c12 => ?_) (fun c12 => ?_)
        · refine (tq_iload_n i_X0_steer_61 rfl rfl).trans ?_
          exact tq_ireturn i_X0_steer_62 r_X0_steer rfl
        · refine (tq_iload_n i_X0_steer_57 rfl rfl).trans ?_
          refine (tq_iconst i_X0_steer_58 rfl).trans ?_
          refine (tq_isub i_X0_steer_59 rfl).trans ?_
          exact tq_ireturn i_X0_steer_60 r_X0_steer rfl
    · refine (tq_iload_n i_X0_steer_61 rfl rfl).trans ?_
      exact tq_ireturn i_X0_steer_62 r_X0_steer rfl
theorem take0_ok (k0 : K0 h 5) (wf : WfS σ c) (e : fZ h 5 0 = tz σ 4 ∧ fZ h 5 1 = tz σ 5 ∧ fZ h 5 2 = tz σ 6) {B : Int} (hB : 0 ≤ B ∧ B ≤ 100000) : ∃ h', rn m_X0_take 0 [.ref 5, .int (mI B)] [] h = some (.inl none, h') ∧ Md (fun a k => a = 5 ∧ k = 2) h h' ∧ fZ h' 5 2 = nbt σ B := by
  have b5 := wf.1.2.2.2.2.2
  have st := b_X0_take_0 (a0 := 5) (x1 := B) (h := h) k0
  rw [e.1, e.2.1, e.2.2] at st
  unfold nbt
  by_cases q : 0 < tz σ 4
  · rw [if_pos (by omega)] at st
    rw [if_pos q]
    refine ⟨_, st, Md_uF (Sm_uF_0_2 _ _ _), ?_⟩
    rw [fZ_uF_eq (K0_s k0) (okf_0_2 _)]
    unfold bkt
    rw [wr_id]
    · split <;> omega
    · split <;> omega
  · rw [if_neg (by omega)] at st
    rw [if_neg q]
    exact ⟨h, st, Md_rf _ _, e.2.2⟩
theorem steer_ok (k0 : K0 h 5) (wf : WfS σ c) {x : Int} (e : fZ h 5 0 = tz σ 4 ∧ fZ h 5 2 = x) (hx : 0 ≤ x ∧ x ≤ 300000) : rn m_X0_steer 0 [.ref 5, .int (mI (tz σ 0))] [] h = some (.inl (some (.int (mI (stv σ x)))), h) := by
  have b0 := wf.1.1
  have b4 := wf.1.2.2.2.2.1
  have st := b_X0_steer_0 (a0 := 5) (x1 := tz σ 0) (h := h) (wr_id (by omega) (by omega)) k0
  rw [e.1, e.2, wr_id (z := 4 * x) (by omega) (by omega), wr_id (z := 3 * tz σ 4) (by omega) (by omega)] at st
  rw [st]
  unfold stv
  by_cases q : 0 < tz σ 4
  · rw [if_pos (by omega), if_pos q]
    by_cases q2 : 4 * x ≤ 3 * tz σ 4
    · rw [if_pos q2, if_pos q2, if_pos (by omega)]
      by_cases q3 : tz σ 4 ≤ 4 * x
      · rw [if_pos q3, if_pos q3]
      · rw [if_neg q3, if_neg q3]
        by_cases q4 : tz σ 0 ≤ 1
        · rw [if_pos q4, if_pos q4]
        · rw [if_neg q4, if_neg q4]
    · rw [if_neg q2, if_neg q2]
      by_cases q5 : 40 ≤ tz σ 0
      · rw [if_pos q5, if_pos q5, if_pos (by omega), if_pos (by omega)]
      · rw [if_neg q5, if_neg q5]
  · rw [if_neg (by omega), if_neg q]
    by_cases q3 : tz σ 4 ≤ 0
    · have : tz σ 4 = 0 := by omega
      repeat' (first | rfl | split)
      all_goals first | rfl | omega
    · omega
theorem i_X8_slice_0 : am_i m_X8_slice 0 = some (0, .iload_n 1, 1, [], 0) := rfl
theorem i_X8_slice_1 : am_i m_X8_slice 1 = some (1, .ifCond .ne 13, 3, [], 0) := rfl
theorem i_X8_slice_4 : am_i m_X8_slice 4 = some (4, .aload_n 0, 1, [], 0) := rfl
theorem i_X8_slice_5 : am_i m_X8_slice 5 = some (5, .getfield 12, 3, [7, 0, 0], 0) := rfl
theorem i_X8_slice_8 : am_i m_X8_slice 8 = some (8, .invokevirtual 115, 3, [48, 8], 0) := rfl
theorem i_X8_slice_14 : am_i m_X8_slice 14 = some (14, .aload_n 0, 1, [], 0) := rfl
theorem i_X8_slice_15 : am_i m_X8_slice 15 = some (15, .getfield 18, 3, [7, 1, 0], 0) := rfl
theorem i_X8_slice_18 : am_i m_X8_slice 18 = some (18, .invokevirtual 115, 3, [48, 8], 0) := rfl
theorem b_X8_slice_0 {a0 : Nat} {x1 x1' : Int} {h : am_H} (w1 : wr x1 = x1') (k1 : K7 h a0) : rn m_X8_slice 0 [.ref a0, .int (mI x1)] [] h = if ¬ x1' = 0 then cl m_X8_slice 21 [.ref a0, .int (mI x1)] [] (rn m_X10_written 0 [.ref (a0 + 4), am_J] [] h) else cl m_X8_slice 11 [.ref a0, .int (mI x1)] [] (rn m_X10_written 0 [.ref (a0 + 1), am_J] [] h) := by
  refine (tq_iload_n i_X8_slice_0 rfl rfl).trans ?_
  refine (tq_if_ne (pt := 14) i_X8_slice_1 w1 (by decide) rfl).trans ?_
  refine ite_congr rfl (fun c1 => ?_) (fun c1 => ?_)
  · refine (tq_aload_n i_X8_slice_14 rfl (isA_ref _) rfl).trans ?_
    refine (tq_getfield i_X8_slice_15 (K7_s k1) (gR (g_7_1 (K7_s k1)) (K7_e1 k1)) (isV_ref _) rfl).trans ?_
    exact c_X10_written i_X8_slice_18 (K8_s (K7_k1 k1)) (ltd d_X8_slice (by decide)) stOk_0 rfl
  · refine (tq_aload_n i_X8_slice_4 rfl (isA_ref _) rfl).trans ?_
    refine (tq_getfield i_X8_slice_5 (K7_s k1) (gR (g_7_0 (K7_s k1)) (K7_e0 k1)) (isV_ref _) rfl).trans ?_
    exact c_X10_written i_X8_slice_8 (K8_s (K7_k0 k1)) (ltd d_X8_slice (by decide)) stOk_0 rfl
theorem i_X8_slice_11 : am_i m_X8_slice 11 = some (11, .goto 10, 3, [], 0) := rfl
theorem b_X8_slice_11 {v0 v1 : Value} {as0 : Nat} {h : am_H} : rn m_X8_slice 11 [v0, v1] [.ref as0] h = rn m_X8_slice 21 [v0, v1] [.ref as0] h := by
  refine (tq_goto (pc' := 21) i_X8_slice_11 (by decide)).trans ?_
  rfl
theorem i_X8_slice_21 : am_i m_X8_slice 21 = some (21, .areturn, 1, [], 0) := rfl
theorem b_X8_slice_21 {v0 v1 : Value} {as0 : Nat} {h : am_H} : rn m_X8_slice 21 [v0, v1] [.ref as0] h = some (.inl (some (.ref as0)), h) := by
  exact tq_areturn i_X8_slice_21 (isA_ref _) r_X8_slice rfl
theorem slice_ret (k7 : K7 h 28) (al : 51 < hnx h) {x w n : Nat} (hw : (x = 0 ∧ w = 29) ∨ (x = 1 ∧ w = 32)) (e2 : fZ h w 2 = n) (hn : n ≤ 4096) : ∃ h', rn m_X8_slice 0 [.ref 28, .int (mI x)] [] h = some (.inl (some (.ref (hnx h))), h') ∧ Fr (fun _ _ => False) 1 n h h' ∧ hnx h' = hnx h + 1 ∧ sh h' (hnx h) = (1, 0) ∧ gn h' (hnx h) = n ∧ ∀ i, 0 ≤ i → i < (n : Int) → gZ h' (hnx h) i = gZ h (w + 2) i := by
  have st := b_X8_slice_0 (a0 := 28) (x1 := (x : Int)) (h := h) (wr_id (by omega) (by omega)) k7
  have k8 : K8 h w := by
    rcases hw with ⟨-, e⟩ | ⟨-, e⟩
    · rw [e]; exact K7_k0 k7
    · rw [e]; exact K7_k1 k7
  obtain ⟨h', e', r⟩ := written_ok k8 (by omega) e2 hn
  refine ⟨h', ?_, r⟩
  rw [st]
  simp only [Nat.reduceAdd]
  rcases hw with ⟨e, ew⟩ | ⟨e, ew⟩
  · subst ew
    rw [if_neg (by omega), e', cl_v, b_X8_slice_11, b_X8_slice_21]
  · subst ew
    rw [if_pos (by omega), e', cl_v, b_X8_slice_21]
end CB
