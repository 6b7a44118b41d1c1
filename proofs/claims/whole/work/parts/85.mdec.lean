/-! ===== the model's decoder: pictures leant on, concealed blocks ===== -/
theorem i_X12_leant_0 : am_i m_X12_leant 0 = some (0, .iload_n 1, 1, [], 0) := rfl
theorem i_X12_leant_1 : am_i m_X12_leant 1 = some (1, .iconst 0, 1, [], 0) := rfl
theorem i_X12_leant_2 : am_i m_X12_leant 2 = some (2, .aload_n 0, 1, [], 0) := rfl
theorem i_X12_leant_3 : am_i m_X12_leant 3 = some (3, .getfield 341, 3, [10, 45, 0], 0) := rfl
theorem i_X12_leant_6 : am_i m_X12_leant 6 = some (6, .iconst 1, 1, [], 1) := rfl
theorem i_X12_leant_7 : am_i m_X12_leant 7 = some (7, .isub, 1, [], 0) := rfl
theorem i_X12_leant_8 : am_i m_X12_leant 8 = some (8, .invokestatic 113, 3, [27], 0) := rfl
theorem i_X12_leant_11 : am_i m_X12_leant 11 = some (11, .ifCond .eq 10, 3, [], 0) := rfl
theorem i_X12_leant_14 : am_i m_X12_leant 14 = some (14, .aload_n 0, 1, [], 0) := rfl
theorem i_X12_leant_15 : am_i m_X12_leant 15 = some (15, .getfield 104, 3, [10, 43, 0], 0) := rfl
theorem i_X12_leant_18 : am_i m_X12_leant 18 = some (18, .iload_n 1, 1, [], 0) := rfl
theorem i_X12_leant_19 : am_i m_X12_leant 19 = some (19, .aaload, 1, [], 0) := rfl
theorem i_X12_leant_20 : am_i m_X12_leant 20 = some (20, .areturn, 1, [], 0) := rfl
theorem i_X12_leant_21 : am_i m_X12_leant 21 = some (21, .sipush 256, 3, [], 256) := rfl
theorem i_X12_leant_24 : am_i m_X12_leant 24 = some (24, .newarray .int, 2, [], 0) := rfl
theorem b_X12_leant_0 {a0 b_19 : Nat} {x1 x1' : Int} {h : am_H} (w1 : wr x1 = x1') (k1 : K10 h a0) (g2 : ((¬ (x1' < 0) ∧ (¬ ((wr ((fZ h a0 45) - 1)) < x1')))) → (0 ≤ x1' ∧ x1' < (3 : Int))) (e3 : ((¬ (x1' < 0) ∧ (¬ ((wr ((fZ h a0 45) - 1)) < x1')))) → (gA h (a0 + 21) x1' = some b_19)) : rn m_X12_leant 0 [.ref a0, .int (mI x1), am_J, am_J] [] h = if (¬ (x1' < 0) ∧ (¬ ((wr ((fZ h a0 45) - 1)) < x1'))) then some (.inl (some (.ref b_19)), h) else rn m_X12_leant 26 [.ref a0, .int (mI x1), am_J, am_J] [.ref (hnx h)] (aI 0 256 h) := by
  refine (tq_iload_n i_X12_leant_0 rfl rfl).trans ?_
  refine (tq_iconst i_X12_leant_1 rfl).trans ?_
  refine (tq_aload_n i_X12_leant_2 rfl (isA_ref _) rfl).trans ?_
  refine (tq_getfield i_X12_leant_3 (K10_s k1) (g_10_45 (K10_s k1)) (isV_I _) rfl).trans ?_
  refine (tq_iconst i_X12_leant_6 rfl).trans ?_
  refine (tq_isub i_X12_leant_7 rfl).trans ?_
  refine (c_X12_in i_X12_leant_8 (ltd d_X12_leant (by decide)) stOk_0 rfl).trans ?_
  refine (congrArg (cl _ _ _ _) (b_X12_in_0 w1 w_0 rfl)).trans ?_
  refine (cl_v _ _ _ _ _ _).trans ?_
  refine (tq_ifb_eq (pt := 21) i_X12_leant_11 (by decide) rfl).trans ?_
  refine ite_congr rfl (fun c1 => ?_) (fun c1 => ?_)
  · refine (tq_aload_n i_X12_leant_14 rfl (isA_ref _) rfl).trans ?_
    refine (tq_getfield i_X12_leant_15 (K10_s k1) (gR (g_10_43 (K10_s k1)) (K10_e43 k1)) (isV_ref _) rfl).trans ?_
    refine (tq_iload_n i_X12_leant_18 rfl rfl).trans ?_
    refine (tq_aaload i_X12_leant_19 (K10_s43 k1) w1 (g2 c1).1 (lt_gn (K10_n43 k1) (g2 c1).2) rfl).trans ?_
    rw [(e3 c1)]
    simp only [am_rv]
    exact tq_areturn i_X12_leant_20 (isA_ref _) r_X12_leant rfl
  · refine (tq_sipush i_X12_leant_21 rfl).trans ?_
    exact tq_newI (n := 256) (t := 0) i_X12_leant_24 w_256 (by decide) rfl (by decide) rfl rfl
theorem i_X12_leant_26 : am_i m_X12_leant 26 = some (26, .astore_n 2, 1, [], 0) := rfl
theorem i_X12_leant_27 : am_i m_X12_leant 27 = some (27, .iconst 0, 1, [], 0) := rfl
theorem i_X12_leant_28 : am_i m_X12_leant 28 = some (28, .istore_n 3, 1, [], 0) := rfl
theorem b_X12_leant_26 {v0 v1 v2 v3 : Value} {as0 : Nat} {h : am_H} : rn m_X12_leant 26 [v0, v1, v2, v3] [.ref as0] h = rn m_X12_leant 29 [v0, (am_k1 v1), .ref as0, .int (mI 0)] [] h := by
  refine (tq_astore_n (L' := [v0, (am_k1 v1), .ref as0, v3]) i_X12_leant_26 (isA_ref _) rfl rfl).trans ?_
  refine (tq_iconst i_X12_leant_27 rfl).trans ?_
  refine (tq_istore_n (L' := [v0, (am_k1 v1), .ref as0, .int (mI 0)]) i_X12_leant_28 rfl rfl).trans ?_
  rfl
theorem i_X12_leant_29 : am_i m_X12_leant 29 = some (29, .iload_n 3, 1, [], 0) := rfl
theorem i_X12_leant_30 : am_i m_X12_leant 30 = some (30, .sipush 256, 3, [], 256) := rfl
theorem i_X12_leant_33 : am_i m_X12_leant 33 = some (33, .if_icmp .ge 15, 3, [], 0) := rfl
theorem i_X12_leant_36 : am_i m_X12_leant 36 = some (36, .aload_n 2, 1, [], 0) := rfl
theorem i_X12_leant_37 : am_i m_X12_leant 37 = some (37, .iload_n 3, 1, [], 0) := rfl
theorem i_X12_leant_38 : am_i m_X12_leant 38 = some (38, .sipush 128, 3, [], 128) := rfl
theorem i_X12_leant_41 : am_i m_X12_leant 41 = some (41, .iastore, 1, [], 0) := rfl
theorem i_X12_leant_42 : am_i m_X12_leant 42 = some (42, .iinc 3 1, 3, [], 0) := rfl
theorem i_X12_leant_45 : am_i m_X12_leant 45 = some (45, .goto (-16), 3, [], 0) := rfl
theorem i_X12_leant_48 : am_i m_X12_leant 48 = some (48, .aload_n 2, 1, [], 0) := rfl
theorem i_X12_leant_49 : am_i m_X12_leant 49 = some (49, .areturn, 1, [], 0) := rfl
theorem b_X12_leant_29 {v0 v1 : Value} {a2 n_a2 : Nat} {x3 x3' : Int} {h : am_H} (w3 : wr x3 = x3') (n1 : gn h a2 = n_a2) (s2 : sh h a2 = (1, 0)) (g3 : (¬ (256 ≤ x3')) → (0 ≤ x3' ∧ x3' < (n_a2 : Int))) : rn m_X12_leant 29 [v0, v1, .ref a2, .int (mI x3)] [] h = if 256 ≤ x3' then some (.inl (some (.ref a2)), h) else rn m_X12_leant 29 [v0, v1, .ref a2, .int (mI (x3 + 1))] [] (uZ h a2 x3' 128) := by
  refine (tq_iload_n i_X12_leant_29 rfl rfl).trans ?_
  refine (tq_sipush i_X12_leant_30 rfl).trans ?_
  refine (tq_icmp_ge (pt := 48) i_X12_leant_33 w3 w_256 (by decide) rfl).trans ?_
  refine ite_congr rfl (fun c1 => ?_) (fun c1 => ?_)
  · refine (tq_aload_n i_X12_leant_48 rfl (isA_ref _) rfl).trans ?_
    exact tq_areturn i_X12_leant_49 (isA_ref _) r_X12_leant rfl
  · refine (tq_aload_n i_X12_leant_36 rfl (isA_ref _) rfl).trans ?_
    refine (tq_iload_n i_X12_leant_37 rfl rfl).trans ?_
    refine (tq_sipush i_X12_leant_38 rfl).trans ?_
    refine (tq_iastore i_X12_leant_41 s2 w3 (g3 c1).1 (lt_gn n1 (g3 c1).2) rfl).trans ?_
    refine (tq_iinc (L' := [v0, v1, .ref a2, .int (mI (x3 + 1))]) i_X12_leant_42 rfl rfl rfl).trans ?_
    refine (tq_goto (pc' := 29) i_X12_leant_45 (by decide)).trans ?_
    rfl
def RLf (h : am_H) (M B : Nat) (a : Int) (f : Int → Int) : Prop := (0 ≤ a ∧ a < fZ h M 45 → ∃ T, gA h (M + 21) a = some T ∧ T < B ∧ M + 22 < T ∧ (sh h T = (1, 0) ∧ gn h T = 256) ∧ ∀ i, 0 ≤ i → i < 256 → gZ h T i = f i) ∧ (¬ (0 ≤ a ∧ a < fZ h M 45) → ∀ i, 0 ≤ i → i < 256 → f i = 128)
theorem leant_ok {h : am_H} {M B : Nat} {a : Int} {f : Int → Int} (k : K10 h M) (hB : B ≤ hnx h) (wa : -1 ≤ a ∧ a ≤ 100) (al : M + 22 < hnx h) (c0 : 0 ≤ fZ h M 45 ∧ fZ h M 45 ≤ 3) (r : RLf h M B a f) : ∃ (h' : am_H) (T : Nat), rn m_X12_leant 0 [.ref M, .int (mI a), am_J, am_J] [] h = some (.inl (some (.ref T)), h') ∧ Fr (fun _ _ => False) 1 256 h h' ∧ (M + 22 < T ∧ T < hnx h' ∧ (T < B ∨ hnx h ≤ T)) ∧ (sh h' T = (1, 0) ∧ gn h' T = 256) ∧ ∀ i, 0 ≤ i → i < 256 → gZ h' T i = f i := by
  by_cases c : 0 ≤ a ∧ a < fZ h M 45
  · obtain ⟨T, eT, lT, MT, sT, gT⟩ := r.1 c
    have st := b_X12_leant_0 (a0 := M) (b_19 := T) (x1 := a) (h := h) (wr_id (by omega) (by omega)) k (fun _ => by omega) (fun _ => eT)
    rw [wr_id (z := fZ h M 45 - 1) (by omega) (by omega), if_pos (by omega)] at st
    exact ⟨h, T, st, Fr_mono (Fr_rf _ _) (fun _ _ _ q => q) (by omega) (by omega), ⟨MT, by omega, Or.inl lT⟩, sT, gT⟩
  · have st := b_X12_leant_0 (a0 := M) (b_19 := 0) (x1 := a) (h := h) (wr_id (by omega) (by omega)) k (fun g => by rw [wr_id (z := fZ h M 45 - 1) (by omega) (by omega)] at g; omega) (fun g => by rw [wr_id (z := fZ h M 45 - 1) (by omega) (by omega)] at g; omega)
    rw [wr_id (z := fZ h M 45 - 1) (by omega) (by omega), if_neg (by omega), b_X12_leant_26] at st
    have sA : sh (aI 0 256 h) (hnx h) = (1, 0) := sh_aI (by decide)
    have nA : gn (aI 0 256 h) (hnx h) = 256 := gn_aI _ _ _
    have f128 := r.2 c
    refine Exists.elim (lp (m := m_X12_leant) (pc := 29) (L := fun i (_ : Unit) => [.ref M, am_k1 (.int (mI a)), .ref (hnx h), .int (mI i)]) (N := 256) (P := fun r => ∃ h', r = some (.inl (some (.ref (hnx h))), h') ∧ Md (fun c _ => c = hnx h) (aI 0 256 h) h' ∧ ∀ i, 0 ≤ i → i < 256 → gZ h' (hnx h) i = 128) (fun i _ h' => 0 ≤ i ∧ Md (fun c _ => c = hnx h) (aI 0 256 h) h' ∧ ∀ j, 0 ≤ j → j < i → gZ h' (hnx h) j = 128) ?_ ?_ 0 () (aI 0 256 h) (by omega) ⟨by omega, Md_rf _ _, fun j j0 j1 => by omega⟩) fun h' hh => ⟨h', hnx h, st.trans hh.1, fr_new hh.2.1, ⟨al, by have := nx_new hh.2.1; omega, Or.inr (Nat.le_refl _)⟩, ⟨(md_sh hh.2.1 _).trans sA, (md_gn hh.2.1 _).trans nA⟩, fun i i0 i1 => by rw [hh.2.2 i i0 i1, f128 i i0 i1]⟩
    · intro i _ h' hi ⟨i0, md, hh⟩
      have s' := (md_sh md _).trans sA
      have st2 := b_X12_leant_29 (v0 := .ref M) (v1 := am_k1 (.int (mI a))) (a2 := hnx h) (n_a2 := 256) (h := h') (wr_id (z := i) (by omega) (by omega)) ((md_gn md _).trans nA) s' (fun _ => by omega)
      rw [if_neg (by omega)] at st2
      refine ⟨(), _, st2, by omega, Md_tr md (Md_uZ _ _ _ _), fun j j0 j1 => ?_⟩
      rw [gZ_uZ' (sh1 s')]
      by_cases e : j = i
      · rw [if_pos e, wr_id (by omega) (by omega)]
      · rw [if_neg e]
        exact hh j j0 (by omega)
    · intro _ h' ⟨i0, md, hh⟩
      have s' := (md_sh md _).trans sA
      have st2 := b_X12_leant_29 (v0 := .ref M) (v1 := am_k1 (.int (mI a))) (a2 := hnx h) (n_a2 := 256) (h := h') (wr_id (z := 256) (by omega) (by omega)) ((md_gn md _).trans nA) s' (fun g => absurd (by omega) g)
      rw [if_pos (by omega)] at st2
      exact ⟨h', st2, md, hh⟩
theorem i_X12_conceals_0 : am_i m_X12_conceals 0 = some (0, .iconst 0, 1, [], 0) := rfl
theorem i_X12_conceals_1 : am_i m_X12_conceals 1 = some (1, .istore 4, 2, [], 0) := rfl
theorem b_X12_conceals_0 {a0 a1 : Nat} {x2 x3 : Int} {h : am_H} : rn m_X12_conceals 0 [.ref a0, .ref a1, .int (mI x2), .int (mI x3), am_J, am_J] [] h = rn m_X12_conceals 3 [.ref a0, .ref a1, .int (mI x2), .int (mI x3), .int (mI 0), am_J] [] h := by
  refine (tq_iconst i_X12_conceals_0 rfl).trans ?_
  refine (tq_istore (L' := [.ref a0, .ref a1, .int (mI x2), .int (mI x3), .int (mI 0), am_J]) i_X12_conceals_1 rfl rfl).trans ?_
  rfl
theorem i_X12_conceals_3 : am_i m_X12_conceals 3 = some (3, .iload 4, 2, [], 0) := rfl
theorem i_X12_conceals_5 : am_i m_X12_conceals 5 = some (5, .bipush 64, 2, [], 64) := rfl
theorem i_X12_conceals_7 : am_i m_X12_conceals 7 = some (7, .if_icmp .ge 53, 3, [], 0) := rfl
theorem i_X12_conceals_10 : am_i m_X12_conceals 10 = some (10, .bipush 16, 2, [], 16) := rfl
theorem i_X12_conceals_12 : am_i m_X12_conceals 12 = some (12, .iload_n 3, 1, [], 0) := rfl
theorem i_X12_conceals_13 : am_i m_X12_conceals 13 = some (13, .iload 4, 2, [], 0) := rfl
theorem i_X12_conceals_15 : am_i m_X12_conceals 15 = some (15, .bipush 8, 2, [], 8) := rfl
theorem i_X12_conceals_17 : am_i m_X12_conceals 17 = some (17, .idiv, 1, [], 0) := rfl
theorem i_X12_conceals_18 : am_i m_X12_conceals 18 = some (18, .iadd, 1, [], 0) := rfl
theorem i_X12_conceals_19 : am_i m_X12_conceals 19 = some (19, .imul, 1, [], 0) := rfl
theorem i_X12_conceals_20 : am_i m_X12_conceals 20 = some (20, .iload_n 2, 1, [], 0) := rfl
theorem i_X12_conceals_21 : am_i m_X12_conceals 21 = some (21, .iadd, 1, [], 0) := rfl
theorem i_X12_conceals_22 : am_i m_X12_conceals 22 = some (22, .iload 4, 2, [], 0) := rfl
theorem i_X12_conceals_24 : am_i m_X12_conceals 24 = some (24, .bipush 8, 2, [], 8) := rfl
theorem i_X12_conceals_26 : am_i m_X12_conceals 26 = some (26, .irem, 1, [], 0) := rfl
theorem i_X12_conceals_27 : am_i m_X12_conceals 27 = some (27, .iadd, 1, [], 0) := rfl
theorem i_X12_conceals_28 : am_i m_X12_conceals 28 = some (28, .istore 5, 2, [], 0) := rfl
theorem i_X12_conceals_30 : am_i m_X12_conceals 30 = some (30, .aload_n 1, 1, [], 0) := rfl
theorem i_X12_conceals_31 : am_i m_X12_conceals 31 = some (31, .iload 5, 2, [], 0) := rfl
theorem i_X12_conceals_33 : am_i m_X12_conceals 33 = some (33, .aload_n 0, 1, [], 0) := rfl
theorem i_X12_conceals_34 : am_i m_X12_conceals 34 = some (34, .getfield 344, 3, [10, 41, 0], 0) := rfl
theorem i_X12_conceals_37 : am_i m_X12_conceals 37 = some (37, .ifnonnull 9, 3, [], 0) := rfl
theorem i_X12_conceals_40 : am_i m_X12_conceals 40 = some (40, .sipush 128, 3, [], 128) := rfl
theorem i_X12_conceals_43 : am_i m_X12_conceals 43 = some (43, .goto 10, 3, [], 0) := rfl
theorem i_X12_conceals_46 : am_i m_X12_conceals 46 = some (46, .aload_n 0, 1, [], 0) := rfl
theorem i_X12_conceals_47 : am_i m_X12_conceals 47 = some (47, .getfield 344, 3, [10, 41, 0], 0) := rfl
theorem i_X12_conceals_50 : am_i m_X12_conceals 50 = some (50, .iload 5, 2, [], 0) := rfl
theorem i_X12_conceals_52 : am_i m_X12_conceals 52 = some (52, .iaload, 1, [], 0) := rfl
theorem i_X12_conceals_53 : am_i m_X12_conceals 53 = some (53, .iastore, 1, [], 0) := rfl
theorem i_X12_conceals_54 : am_i m_X12_conceals 54 = some (54, .iinc 4 1, 3, [], 0) := rfl
theorem i_X12_conceals_57 : am_i m_X12_conceals 57 = some (57, .goto (-54), 3, [], 0) := rfl
theorem i_X12_conceals_60 : am_i m_X12_conceals 60 = some (60, .return_, 1, [], 0) := rfl
theorem b_X12_conceals_3 {a0 a1 a0_screen n_a0_screen n_a1 : Nat} {x2 x3 x4 x4' : Int} {v5 : Value} {h : am_H} (w4 : wr x4 = x4') (k1 : K10 h a0) (e2 : (¬ (64 ≤ x4')) → (¬ (fA h a0 41) = none) → (fA h a0 41 = some a0_screen)) (n3 : (¬ (64 ≤ x4')) → (¬ (fA h a0 41) = none) → (gn h a0_screen = n_a0_screen)) (s4 : (¬ (64 ≤ x4')) → (¬ (fA h a0 41) = none) → (sh h a0_screen = (1, 0))) (g5 : (¬ (64 ≤ x4')) → (¬ (fA h a0 41) = none) → (0 ≤ wr (((16 * (x3 + (Int.tdiv x4' 8))) + x2) + (Int.tmod x4' 8)) ∧ wr (((16 * (x3 + (Int.tdiv x4' 8))) + x2) + (Int.tmod x4' 8)) < (n_a0_screen : Int))) (n6 : gn h a1 = n_a1) (s7 : sh h a1 = (1, 0)) (g8 : (¬ (64 ≤ x4')) → (0 ≤ wr (((16 * (x3 + (Int.tdiv x4' 8))) + x2) + (Int.tmod x4' 8)) ∧ wr (((16 * (x3 + (Int.tdiv x4' 8))) + x2) + (Int.tmod x4' 8)) < (n_a1 : Int))) : rn m_X12_conceals 3 [.ref a0, .ref a1, .int (mI x2), .int (mI x3), .int (mI x4), v5] [] h = if 64 ≤ x4' then some (.inl none, h) else rn m_X12_conceals 3 [.ref a0, .ref a1, .int (mI x2), .int (mI x3), .int (mI (x4 + 1)), .int (mI (((16 * (x3 + (Int.tdiv x4' 8))) + x2) + (Int.tmod x4' 8)))] [] (uZ h a1 (wr (((16 * (x3 + (Int.tdiv x4' 8))) + x2) + (Int.tmod x4' 8))) (if ¬ (fA h a0 41) = none then (gZ h a0_screen (wr (((16 * (x3 + (Int.tdiv x4' 8))) + x2) + (Int.tmod x4' 8))) : Int) else 128)) := by
  refine (tq_iload i_X12_conceals_3 rfl rfl).trans ?_
  refine (tq_bipush i_X12_conceals_5 rfl).trans ?_
  refine (tq_icmp_ge (pt := 60) i_X12_conceals_7 w4 w_64 (by decide) rfl).trans ?_
  refine ite_congr rfl (fun c1 => ?_) (fun c1 => ?_)
  · exact tq_return i_X12_conceals_60 r_X12_conceals
  · refine (tq_bipush i_X12_conceals_10 rfl).trans ?_
    refine (tq_iload_n i_X12_conceals_12 rfl rfl).trans ?_
    refine (tq_iload i_X12_conceals_13 rfl rfl).trans ?_
    refine (tq_bipush i_X12_conceals_15 rfl).trans ?_
    refine (tq_idiv i_X12_conceals_17 w4 w_8 (by decide) rfl).trans ?_
    refine (tq_iadd i_X12_conceals_18 rfl).trans ?_
    refine (tq_imul i_X12_conceals_19 rfl).trans ?_
    refine (tq_iload_n i_X12_conceals_20 rfl rfl).trans ?_
    refine (tq_iadd i_X12_conceals_21 rfl).trans ?_
    refine (tq_iload i_X12_conceals_22 rfl rfl).trans ?_
    refine (tq_bipush i_X12_conceals_24 rfl).trans ?_
    refine (tq_irem i_X12_conceals_26 w4 w_8 (by decide) rfl).trans ?_
    refine (tq_iadd i_X12_conceals_27 rfl).trans ?_
    refine (tq_istore (L' := [.ref a0, .ref a1, .int (mI x2), .int (mI x3), .int (mI x4), .int (mI (((16 * (x3 + (Int.tdiv x4' 8))) + x2) + (Int.tmod x4' 8)))]) i_X12_conceals_28 rfl rfl).trans ?_
    refine (tq_aload_n i_X12_conceals_30 rfl (isA_ref _) rfl).trans ?_
    refine (tq_iload i_X12_conceals_31 rfl rfl).trans ?_
    refine (tq_aload_n i_X12_conceals_33 rfl (isA_ref _) rfl).trans ?_
    refine (tq_getfield i_X12_conceals_34 (K10_s k1) (g_10_41 (K10_s k1)) (isV_rv _) rfl).trans ?_
    refine (tq_ifnonnull (pt := 46) i_X12_conceals_37 (by decide) rfl).trans ?_
    refine Eq.trans (b := if ¬ (fA h a0 41) = none then rn m_X12_conceals 53 [.ref a0, .ref a1, .int (mI x2), .int (mI x3), .int (mI x4), .int (mI (((16 * (x3 + (Int.tdiv x4' 8))) + x2) + (Int.tmod x4' 8)))] [.int (mI (gZ h a0_screen (wr (((16 * (x3 + (Int.tdiv x4' 8))) + x2) + (Int.tmod x4' 8))))), .int (mI (((16 * (x3 + (Int.tdiv x4' 8))) + x2) + (Int.tmod x4' 8))), .ref a1] h else rn m_X12_conceals 53 [.ref a0, .ref a1, .int (mI x2), .int (mI x3), .int (mI x4), .int (mI (((16 * (x3 + (Int.tdiv x4' 8))) + x2) + (Int.tmod x4' 8)))] [.int (mI 128), .int (mI (((16 * (x3 + (Int.tdiv x4' 8))) + x2) + (Int.tmod x4' 8))), .ref a1] h) (ite_congr rfl (fun c2 => ?_) (fun c2 => ?_)) ?_
    · refine (tq_aload_n i_X12_conceals_46 rfl (isA_ref _) rfl).trans ?_
      refine (tq_getfield i_X12_conceals_47 (K10_s k1) (gR (g_10_41 (K10_s k1)) (e2 c1 c2)) (isV_ref _) rfl).trans ?_
      refine (tq_iload i_X12_conceals_50 rfl rfl).trans ?_
      refine (tq_iaload i_X12_conceals_52 (s4 c1 c2) (by decide) rfl (g5 c1 c2).1 (lt_gn (n3 c1 c2) (g5 c1 c2).2) rfl).trans ?_
      rfl
    · refine (tq_sipush i_X12_conceals_40 rfl).trans ?_
      refine (tq_goto (pc' := 53) i_X12_conceals_43 (by decide)).trans ?_
      rfl
    refine Eq.trans ite_I ?_
    refine (tq_iastore i_X12_conceals_53 s7 rfl (g8 c1).1 (lt_gn n6 (g8 c1).2) rfl).trans ?_
    refine (tq_iinc (L' := [.ref a0, .ref a1, .int (mI x2), .int (mI x3), .int (mI (x4 + 1)), .int (mI (((16 * (x3 + (Int.tdiv x4' 8))) + x2) + (Int.tmod x4' 8)))]) i_X12_conceals_54 rfl rfl rfl).trans ?_
    refine (tq_goto (pc' := 3) i_X12_conceals_57 (by decide)).trans ?_
    rfl
def RSf (h : am_H) (M P : Nat) (s0 : Int → Int) : Prop := (fA h M 41 = none ∧ ∀ i, 0 ≤ i → i < 256 → s0 i = 128) ∨ ∃ S, fA h M 41 = some S ∧ S < hnx h ∧ S ≠ P ∧ (sh h S = (1, 0) ∧ gn h S = 256) ∧ ∀ i, 0 ≤ i → i < 256 → gZ h S i = s0 i
def inB (X Y i : Int) : Prop := (X ≤ i % 16 ∧ i % 16 < X + 8) ∧ Y ≤ i / 16 ∧ i / 16 < Y + 8
theorem conceals_ok {h : am_H} {M P : Nat} {s0 : Int → Int} {X Y : Int} (k : K10 h M) (sP : sh h P = (1, 0)) (nP : gn h P = 256) (rs : RSf h M P s0) (p0 : pixels s0) (hX : X = 0 ∨ X = 8) (hY : Y = 0 ∨ Y = 8) : ∃ h', rn m_X12_conceals 0 [.ref M, .ref P, .int (mI X), .int (mI Y), am_J, am_J] [] h = some (.inl none, h') ∧ Md (fun c _ => c = P) h h' ∧ ∀ i, 0 ≤ i → i < 256 → (inB X Y i → gZ h' P i = s0 i) ∧ (¬ inB X Y i → gZ h' P i = gZ h P i) := by
  rw [b_X12_conceals_0]
  refine lp (m := m_X12_conceals) (pc := 3) (L := fun j (x : Value) => [.ref M, .ref P, .int (mI X), .int (mI Y), .int (mI j), x]) (N := 64) (P := fun r => ∃ h', r = some (.inl none, h') ∧ Md (fun c _ => c = P) h h' ∧ ∀ i, 0 ≤ i → i < 256 → (inB X Y i → gZ h' P i = s0 i) ∧ (¬ inB X Y i → gZ h' P i = gZ h P i)) (fun j _ h' => 0 ≤ j ∧ Md (fun c _ => c = P) h h' ∧ ∀ i, 0 ≤ i → i < 256 → (inB X Y i ∧ 8 * (i / 16 - Y) + (i % 16 - X) < j → gZ h' P i = s0 i) ∧ (¬ (inB X Y i ∧ 8 * (i / 16 - Y) + (i % 16 - X) < j) → gZ h' P i = gZ h P i)) ?_ ?_ 0 am_J h (by omega) ⟨by omega, Md_rf _ _, fun i i0 i1 => ⟨fun g => by unfold inB at g; omega, fun _ => rfl⟩⟩
  · intro j x h' hj ⟨j0, md, hh⟩
    have k' := K10_sm md.1 k
    have sP' := (md_sh md _).trans sP
    have nP' := (md_gn md _).trans nP
    have ei : wr ((16 * (Y + Int.tdiv j 8) + X) + Int.tmod j 8) = 16 * (Y + j / 8) + X + j % 8 := by rw [tdv j0, tmd j0, wr_id (by omega) (by omega)]
    -- whatever stands there, the right number is put
    have step : ∀ v : Int, v = s0 (16 * (Y + j / 8) + X + j % 8) → ∀ i, 0 ≤ i → i < 256 → (inB X Y i ∧ 8 * (i / 16 - Y) + (i % 16 - X) < j + 1 → gZ (uZ h' P (16 * (Y + j / 8) + X + j % 8) v) P i = s0 i) ∧ (¬ (inB X Y i ∧ 8 * (i / 16 - Y) + (i % 16 - X) < j + 1) → gZ (uZ h' P (16 * (Y + j / 8) + X + j % 8) v) P i = gZ h P i) := by
      intro v ev i i0 i1
      rw [gZ_uZ' (sh1 sP')]
      have b := p0 (16 * (Y + j / 8) + X + j % 8) (by omega) (by omega)
      by_cases e : i = 16 * (Y + j / 8) + X + j % 8
      · rw [if_pos e, ev, wr_id (by omega) (by omega)]
        refine ⟨fun _ => by rw [e], fun g => absurd ?_ g⟩
        unfold inB
        omega
      · rw [if_neg e]
        refine ⟨fun g => (hh i i0 i1).1 ⟨g.1, ?_⟩, fun g => (hh i i0 i1).2 fun w => g ⟨w.1, by omega⟩⟩
        have := g.2
        have := g.1
        unfold inB at this
        omega
    rcases rs with ⟨r1, r2⟩ | ⟨S, r1, r2, r3, ⟨r4, r5⟩, r6⟩
    · have fa : fA h' M 41 = none := (md_fA md (by intro e; rw [e] at k; rw [K10_s k] at sP; cases sP)).trans r1
      have st := b_X12_conceals_3 (a0 := M) (a1 := P) (a0_screen := 0) (n_a0_screen := 0) (n_a1 := 256) (x2 := X) (x3 := Y) (v5 := x) (h := h') (wr_id (z := j) (by omega) (by omega)) k' (fun _ g => absurd fa g) (fun _ g => absurd fa g) (fun _ g => absurd fa g) (fun _ g => absurd fa g) nP' sP' (fun _ => by rw [ei]; omega)
      rw [if_neg (by omega), if_neg (fun g => g fa), ei] at st
      exact ⟨_, _, st, by omega, Md_tr md (Md_uZ _ _ _ _), step 128 (r2 _ (by omega) (by omega)).symm⟩
    · have fa : fA h' M 41 = some S := (md_fA md (by intro e; rw [e] at k; rw [K10_s k] at sP; cases sP)).trans r1
      have st := b_X12_conceals_3 (a0 := M) (a1 := P) (a0_screen := S) (n_a0_screen := 256) (n_a1 := 256) (x2 := X) (x3 := Y) (v5 := x) (h := h') (wr_id (z := j) (by omega) (by omega)) k' (fun _ _ => fa) (fun _ _ => (md_gn md _).trans r5) (fun _ _ => (md_sh md _).trans r4) (fun _ _ => by rw [ei]; omega) nP' sP' (fun _ => by rw [ei]; omega)
      rw [if_neg (by omega), if_pos (by rw [fa]; exact fun g => nomatch g), ei] at st
      exact ⟨_, _, st, by omega, Md_tr md (Md_uZ _ _ _ _), step _ (by rw [md_gZ md r3]; exact r6 _ (by omega) (by omega))⟩
  · intro x h' ⟨j0, md, hh⟩
    have k' := K10_sm md.1 k
    have st := b_X12_conceals_3 (a0 := M) (a1 := P) (a0_screen := 0) (n_a0_screen := 0) (n_a1 := 256) (x2 := X) (x3 := Y) (v5 := x) (h := h') (wr_id (z := 64) (by omega) (by omega)) k' (fun g => absurd (by omega) g) (fun g => absurd (by omega) g) (fun g => absurd (by omega) g) (fun g => absurd (by omega) g) ((md_gn md _).trans nP) ((md_sh md _).trans sP) (fun g => absurd (by omega) g)
    rw [if_pos (by omega)] at st
    refine ⟨h', st, md, fun i i0 i1 => ⟨fun g => (hh i i0 i1).1 ⟨g, ?_⟩, fun g => (hh i i0 i1).2 fun w => g w.1⟩⟩
    unfold inB at g
    omega
theorem hv_congr {f g : Int → Int} (h : ∀ i, 0 ≤ i → i < 256 → f i = g i) : hv f = hv g := by
  funext x y
  have a1 := ixs_b (y / 2)
  have a2 := ixs_b (x / 2)
  have a3 := ixs_b ((y + 1) / 2)
  have a4 := ixs_b ((x + 1) / 2)
  unfold hv
  rw [h _ (by omega) (by omega), h _ (by omega) (by omega), h _ (by omega) (by omega), h _ (by omega) (by omega)]
theorem Gq_hv {pd : Nat → Int → Int} {f1 f2 g1 g2 p : Int → Int} {sl s x y : Int} (e1 : hv f1 = hv g1) (e2 : hv f2 = hv g2) : Gq pd f1 f2 sl p s x y = Gq pd g1 g2 sl p s x y := by
  unfold Gq gss gsK
  rw [e1, e2]
theorem Bu_hv {pd : Nat → Int → Int} {f1 f2 g1 g2 p : Int → Int} {sl q s : Int} (e1 : hv f1 = hv g1) (e2 : hv f2 = hv g2) (b : Bu pd f1 f2 sl q p s) : Bu pd g1 g2 sl q p s := fun k k0 k1 => by
  rw [b k k0 k1, Gq_hv e1 e2]
theorem Dcd_hv {pd : Nat → Int → Int} {f1 f2 g1 g2 s0 t0 p : Int → Int} {sl q lost s : Int} (e1 : hv f1 = hv g1) (e2 : hv f2 = hv g2) (e3 : ∀ i, 0 ≤ i → i < 256 → s0 i = t0 i) (d : Dcd pd f1 f2 s0 sl q lost p s) : Dcd pd g1 g2 t0 sl q lost p s :=
  ⟨fun l k k0 k1 => by rw [d.1 l k k0 k1]; exact e3 _ (pl_b s k).1 (pl_b s k).2, fun l => Bu_hv e1 e2 (d.2 l)⟩
