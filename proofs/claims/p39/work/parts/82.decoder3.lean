/-! ===== the class's decoder receives, keeps, starts ===== -/
theorem set_md {h : am_H} {a n : Nat} {x : Int} (s : sh h a = (1, 0)) (n1 : gn h a = n) : ∃ h', rn m_X7_set 0 [.ref a, .int (mI x), am_J] [] h = some (.inl none, h') ∧ Md (fun c _ => c = a) h h' ∧ ∀ i, 0 ≤ i → i < (n : Int) → gZ h' a i = wr x :=
  ⟨_, set_ok s n1, Md_uI _ _ _, fun i i0 i1 => by rw [gZ_uI (sh1 s)]; unfold fset; rw [if_pos ⟨i0, i1⟩]; rfl⟩
theorem copy_md {h : am_H} {a b n k : Nat} (s : sh h a = (1, 0)) (n1 : gn h a = n) (sb : sh h b = (1, 0)) (n2 : gn h b = k) (ab : a ≠ b) : ∃ h', rn m_X7_copy 0 [.ref a, .ref b, am_J] [] h = some (.inl none, h') ∧ Md (fun c _ => c = b) h h' ∧ (∀ i : Int, 0 ≤ i → i < (min n k : Nat) → gZ h' b i = gZ h a i) ∧ ∀ i : Int, ¬ (0 ≤ i ∧ i < (min n k : Nat)) → gZ h' b i = gZ h b i :=
  ⟨_, copy_ok s n1 sb n2 ab, Md_uI _ _ _, fun i i0 i1 => by rw [gZ_uI (sh1 sb)]; unfold fcopy; rw [if_pos ⟨i0, i1⟩]; rfl, fun i ni => by rw [gZ_uI (sh1 sb)]; unfold fcopy; rw [if_neg ni]; rfl⟩
theorem shift_md {h : am_H} {a n : Nat} {k : Int} (s : sh h a = (1, 0)) (n1 : gn h a = n) (hk : 0 < k) (hk2 : k ≤ n) : ∃ h', rn m_X7_shift 0 [.ref a, .int (mI k), am_J] [] h = some (.inl none, h') ∧ Md (fun c _ => c = a) h h' ∧ ∀ i, gZ h' a i = if k ≤ i ∧ i < (n : Int) then gZ h a (i - k) else gZ h a i :=
  ⟨_, shift_ok s n1 hk hk2, Md_uI _ _ _, fun i => by
    rw [gZ_uI (sh1 s)]
    unfold fshift
    split <;> rfl⟩
def SDR (A : Nat) : Nat → Nat → Prop := fun c k => (c = A ∧ (k = 3 ∨ k = 4 ∨ k = 5 ∨ k = 7 ∨ k = 10 ∨ k = 11)) ∨ (A + 1 ≤ c ∧ c ≤ A + 14)
theorem i_X3_startAt_0 : am_i m_X3_startAt 0 = some (0, .aload_n 0, 1, [], 0) := rfl
theorem i_X3_startAt_1 : am_i m_X3_startAt 1 = some (1, .iload_n 1, 1, [], 0) := rfl
theorem i_X3_startAt_2 : am_i m_X3_startAt 2 = some (2, .putfield 29, 3, [3, 3, 0], 0) := rfl
theorem i_X3_startAt_5 : am_i m_X3_startAt 5 = some (5, .aload_n 0, 1, [], 0) := rfl
theorem i_X3_startAt_6 : am_i m_X3_startAt 6 = some (6, .iconst (-1), 1, [], -1) := rfl
theorem i_X3_startAt_7 : am_i m_X3_startAt 7 = some (7, .putfield 33, 3, [3, 4, 0], 0) := rfl
theorem i_X3_startAt_10 : am_i m_X3_startAt 10 = some (10, .aload_n 0, 1, [], 0) := rfl
theorem i_X3_startAt_11 : am_i m_X3_startAt 11 = some (11, .iconst 0, 1, [], 0) := rfl
theorem i_X3_startAt_12 : am_i m_X3_startAt 12 = some (12, .putfield 36, 3, [3, 5, 0], 0) := rfl
theorem i_X3_startAt_15 : am_i m_X3_startAt 15 = some (15, .aload_n 0, 1, [], 0) := rfl
theorem i_X3_startAt_16 : am_i m_X3_startAt 16 = some (16, .getfield 40, 3, [3, 6, 0], 0) := rfl
theorem i_X3_startAt_19 : am_i m_X3_startAt 19 = some (19, .sipush 128, 3, [], 128) := rfl
theorem i_X3_startAt_22 : am_i m_X3_startAt 22 = some (22, .invokestatic 58, 3, [34], 0) := rfl
theorem b_X3_startAt_0 {a0 : Nat} {x1 : Int} {h : am_H} (k1 : K3 h a0) : rn m_X3_startAt 0 [.ref a0, .int (mI x1)] [] h = cl m_X3_startAt 25 [.ref a0, .int (mI x1)] [] (rn m_X7_set 0 [.ref (a0 + 12), .int (mI 128), am_J] [] (uF 3 (uF 3 (uF 3 h a0 3 (.int (mI x1))) a0 4 (.int (mI (-1)))) a0 5 (.int (mI 0)))) := by
  refine (tq_aload_n i_X3_startAt_0 rfl (isA_ref _) rfl).trans ?_
  refine (tq_iload_n i_X3_startAt_1 rfl rfl).trans ?_
  refine (tq_putfield i_X3_startAt_2 (K3_s k1) (okf_3_3 _) rfl).trans ?_
  refine (tq_aload_n i_X3_startAt_5 rfl (isA_ref _) rfl).trans ?_
  refine (tq_iconst i_X3_startAt_6 rfl).trans ?_
  refine (tq_putfield i_X3_startAt_7 ((sh_uF _ _ _ _ _ _).trans (K3_s k1)) (okf_3_4 _) rfl).trans ?_
  refine (tq_aload_n i_X3_startAt_10 rfl (isA_ref _) rfl).trans ?_
  refine (tq_iconst i_X3_startAt_11 rfl).trans ?_
  refine (tq_putfield i_X3_startAt_12 ((sh_uF _ _ _ _ _ _).trans ((sh_uF _ _ _ _ _ _).trans (K3_s k1))) (okfB_3_5 w_0 (by decide)) rfl).trans ?_
  refine (tq_aload_n i_X3_startAt_15 rfl (isA_ref _) rfl).trans ?_
  refine (tq_getfield i_X3_startAt_16 ((sh_uF _ _ _ _ _ _).trans ((sh_uF _ _ _ _ _ _).trans ((sh_uF _ _ _ _ _ _).trans (K3_s k1)))) (gR ((g_3_6 ((sh_uF _ _ _ _ _ _).trans ((sh_uF _ _ _ _ _ _).trans ((sh_uF _ _ _ _ _ _).trans (K3_s k1))))).trans (congrArg am_rv ((fA_uF_nk ((sh_uF _ _ _ _ _ _).trans ((sh_uF _ _ _ _ _ _).trans (K3_s k1))) (okfB_3_5 w_0 (by decide)) (by decide)).trans ((fA_uF_nk ((sh_uF _ _ _ _ _ _).trans (K3_s k1)) (okf_3_4 _) (by decide)).trans (fA_uF_nk (K3_s k1) (okf_3_3 _) (by decide)))))) (K3_e6 k1)) (isV_ref _) rfl).trans ?_
  refine (tq_sipush i_X3_startAt_19 rfl).trans ?_
  exact c_X7_set i_X3_startAt_22 (ltd d_X3_startAt (by decide)) (isA_ref _) stOk_0 rfl
theorem i_X3_startAt_25 : am_i m_X3_startAt 25 = some (25, .aload_n 0, 1, [], 0) := rfl
theorem i_X3_startAt_26 : am_i m_X3_startAt 26 = some (26, .iconst 0, 1, [], 0) := rfl
theorem i_X3_startAt_27 : am_i m_X3_startAt 27 = some (27, .putfield 43, 3, [3, 7, 0], 0) := rfl
theorem i_X3_startAt_30 : am_i m_X3_startAt 30 = some (30, .aload_n 0, 1, [], 0) := rfl
theorem i_X3_startAt_31 : am_i m_X3_startAt 31 = some (31, .getfield 46, 3, [3, 8, 0], 0) := rfl
theorem i_X3_startAt_34 : am_i m_X3_startAt 34 = some (34, .sipush 128, 3, [], 128) := rfl
theorem i_X3_startAt_37 : am_i m_X3_startAt 37 = some (37, .invokestatic 58, 3, [34], 0) := rfl
theorem b_X3_startAt_25 {a0 : Nat} {v1 : Value} {h : am_H} (k1 : K3 h a0) : rn m_X3_startAt 25 [.ref a0, v1] [] h = cl m_X3_startAt 40 [.ref a0, v1] [] (rn m_X7_set 0 [.ref (a0 + 13), .int (mI 128), am_J] [] (uF 3 h a0 7 (.int (mI 0)))) := by
  refine (tq_aload_n i_X3_startAt_25 rfl (isA_ref _) rfl).trans ?_
  refine (tq_iconst i_X3_startAt_26 rfl).trans ?_
  refine (tq_putfield i_X3_startAt_27 (K3_s k1) (okf_3_7 _) rfl).trans ?_
  refine (tq_aload_n i_X3_startAt_30 rfl (isA_ref _) rfl).trans ?_
  refine (tq_getfield i_X3_startAt_31 ((sh_uF _ _ _ _ _ _).trans (K3_s k1)) (gR ((g_3_8 ((sh_uF _ _ _ _ _ _).trans (K3_s k1))).trans (congrArg am_rv (fA_uF_nk (K3_s k1) (okf_3_7 _) (by decide)))) (K3_e8 k1)) (isV_ref _) rfl).trans ?_
  refine (tq_sipush i_X3_startAt_34 rfl).trans ?_
  exact c_X7_set i_X3_startAt_37 (ltd d_X3_startAt (by decide)) (isA_ref _) stOk_0 rfl
theorem i_X3_startAt_40 : am_i m_X3_startAt 40 = some (40, .aload_n 0, 1, [], 0) := rfl
theorem i_X3_startAt_41 : am_i m_X3_startAt 41 = some (41, .getfield 49, 3, [3, 9, 0], 0) := rfl
theorem i_X3_startAt_44 : am_i m_X3_startAt 44 = some (44, .iconst 0, 1, [], 0) := rfl
theorem i_X3_startAt_45 : am_i m_X3_startAt 45 = some (45, .invokestatic 58, 3, [34], 0) := rfl
theorem b_X3_startAt_40 {a0 : Nat} {v1 : Value} {h : am_H} (k1 : K3 h a0) : rn m_X3_startAt 40 [.ref a0, v1] [] h = cl m_X3_startAt 48 [.ref a0, v1] [] (rn m_X7_set 0 [.ref (a0 + 14), .int (mI 0), am_J] [] h) := by
  refine (tq_aload_n i_X3_startAt_40 rfl (isA_ref _) rfl).trans ?_
  refine (tq_getfield i_X3_startAt_41 (K3_s k1) (gR (g_3_9 (K3_s k1)) (K3_e9 k1)) (isV_ref _) rfl).trans ?_
  refine (tq_iconst i_X3_startAt_44 rfl).trans ?_
  exact c_X7_set i_X3_startAt_45 (ltd d_X3_startAt (by decide)) (isA_ref _) stOk_0 rfl
theorem i_X3_startAt_48 : am_i m_X3_startAt 48 = some (48, .return_, 1, [], 0) := rfl
theorem b_X3_startAt_48 {v0 v1 : Value} {h : am_H} : rn m_X3_startAt 48 [v0, v1] [] h = some (.inl none, h) := by
  exact tq_return i_X3_startAt_48 r_X3_startAt
theorem startAt_ok {h : am_H} {A : Nat} {x : Int} (k : K3 h A) (hx : 0 ≤ x ∧ x ≤ 100) : ∃ h', rn m_X3_startAt 0 [.ref A, .int (mI x)] [] h = some (.inl none, h') ∧ Md (SDR A) h h' ∧ (fZ h' A 3 = x ∧ fZ h' A 4 = -1 ∧ fZ h' A 5 = 0 ∧ fZ h' A 7 = 0 ∧ fZ h' A 10 = fZ h A 10 ∧ fZ h' A 11 = fZ h A 11) ∧ (∀ i, 0 ≤ i → i < 256 → gZ h' (A + 12) i = 128) ∧ (∀ i, 0 ≤ i → i < 768 → gZ h' (A + 13) i = 128) ∧ (∀ i, 0 ≤ i → i < 3 → gZ h' (A + 14) i = 0) ∧ gZ h' (A + 11) = gZ h (A + 11) := by
  have st := b_X3_startAt_0 (a0 := A) (x1 := x) (h := h) k
  obtain ⟨hA, eA⟩ : ∃ u, u = uF 3 (uF 3 (uF 3 h A 3 (.int (mI x))) A 4 (.int (mI (-1)))) A 5 (.int (mI 0)) := ⟨_, rfl⟩
  have mA : Md (fun c k => c = A ∧ (k = 3 ∨ k = 4 ∨ k = 5)) h hA := by
    rw [eA]
    exact Md_tr (Md_mono (Md_uF (Sm_uF_3_3 _ _ _)) fun c k g => ⟨g.1, Or.inl g.2⟩) (Md_tr (Md_mono (Md_uF (Sm_uF_3_4 _ _ _)) fun c k g => ⟨g.1, Or.inr (Or.inl g.2)⟩) (Md_mono (Md_uF (Sm_uF_3_5 _ _ _)) fun c k g => ⟨g.1, Or.inr (Or.inr g.2)⟩))
  have f3 : fZ hA A 3 = x := by rw [eA, fZ_uF_k (by decide), fZ_uF_k (by decide), fZ_uF_eq (K3_s k) (okf_3_3 _), wr_id (by omega) (by omega)]
  have f4 : fZ hA A 4 = -1 := by rw [eA, fZ_uF_k (by decide), fZ_uF_eq ((sh_uF _ _ _ _ _ _).trans (K3_s k)) (okf_3_4 _), wr_id (by omega) (by omega)]
  have f5 : fZ hA A 5 = 0 := by rw [eA, fZ_uF_eq ((sh_uF _ _ _ _ _ _).trans ((sh_uF _ _ _ _ _ _).trans (K3_s k))) (okfB_3_5 (wr_id (by decide) (by decide)) (Or.inl rfl)), wr_id (by omega) (by omega)]
  rw [← eA] at st
  clear eA
  have kA := K3_sm mA.1 k
  obtain ⟨h1, e1, m1, g1⟩ := set_md (x := 128) (K3_s6 kA) (K3_n6 kA)
  have k1 := K3_sm m1.1 kA
  rw [e1, cl_n, b_X3_startAt_25 k1] at st
  obtain ⟨hB, eB⟩ : ∃ u, u = uF 3 h1 A 7 (.int (mI 0)) := ⟨_, rfl⟩
  have mB : Md (fun c k => c = A ∧ k = 7) h1 hB := by rw [eB]; exact Md_uF (Sm_uF_3_7 _ _ _)
  have f7 : fZ hB A 7 = 0 := by rw [eB, fZ_uF_eq (K3_s k1) (okf_3_7 _), wr_id (by omega) (by omega)]
  rw [← eB] at st
  clear eB
  have kB := K3_sm mB.1 k1
  obtain ⟨h2, e2, m2, g2⟩ := set_md (x := 128) (K3_s8 kB) (K3_n8 kB)
  have k2 := K3_sm m2.1 kB
  rw [e2, cl_n, b_X3_startAt_40 k2] at st
  obtain ⟨h3, e3, m3, g3⟩ := set_md (x := 0) (K3_s9 k2) (K3_n9 k2)
  rw [e3, cl_n, b_X3_startAt_48] at st
  have w128 : wr 128 = 128 := wr_id (by decide) (by decide)
  have w0 : wr 0 = 0 := wr_id (by decide) (by decide)
  refine ⟨h3, st, ?_, ⟨?_, ?_, ?_, ?_, ?_, ?_⟩, fun i i0 i1 => ?_, fun i i0 i1 => ?_, fun i i0 i1 => ?_, ?_⟩
  · exact Md_tr (Md_mono mA fun c k g => by unfold SDR; omega) (Md_tr (Md_mono m1 fun c k g => by unfold SDR; omega) (Md_tr (Md_mono mB fun c k g => by unfold SDR; omega) (Md_tr (Md_mono m2 fun c k g => by unfold SDR; omega) (Md_mono m3 fun c k g => by unfold SDR; omega))))
  · rw [md_fZ m3 (by omega), md_fZ m2 (by omega), md_fZ mB (by omega), md_fZ m1 (by omega), f3]
  · rw [md_fZ m3 (by omega), md_fZ m2 (by omega), md_fZ mB (by omega), md_fZ m1 (by omega), f4]
  · rw [md_fZ m3 (by omega), md_fZ m2 (by omega), md_fZ mB (by omega), md_fZ m1 (by omega), f5]
  · rw [md_fZ m3 (by omega), md_fZ m2 (by omega), f7]
  · rw [md_fZ m3 (by omega), md_fZ m2 (by omega), md_fZ mB (by omega), md_fZ m1 (by omega), md_fZ mA (by omega)]
  · rw [md_fZ m3 (by omega), md_fZ m2 (by omega), md_fZ mB (by omega), md_fZ m1 (by omega), md_fZ mA (by omega)]
  · rw [md_gZ m3 (by omega), md_gZ m2 (by omega), md_gZ mB (by omega), g1 i i0 (by omega), w128]
  · rw [md_gZ m3 (by omega), g2 i i0 (by omega), w128]
  · rw [g3 i i0 (by omega), w0]
  · rw [md_Z m3 (by omega), md_Z m2 (by omega), md_Z mB (by omega), md_Z m1 (by omega), md_Z mA (by omega)]
theorem i_X3_keep_0 : am_i m_X3_keep 0 = some (0, .aload_n 0, 1, [], 0) := rfl
theorem i_X3_keep_1 : am_i m_X3_keep 1 = some (1, .getfield 46, 3, [3, 8, 0], 0) := rfl
theorem i_X3_keep_4 : am_i m_X3_keep 4 = some (4, .sipush 256, 3, [], 256) := rfl
theorem i_X3_keep_7 : am_i m_X3_keep 7 = some (7, .invokestatic 101, 3, [35], 0) := rfl
theorem b_X3_keep_0 {a0 : Nat} {h : am_H} (k1 : K3 h a0) : rn m_X3_keep 0 [.ref a0] [] h = cl m_X3_keep 10 [.ref a0] [] (rn m_X7_shift 0 [.ref (a0 + 13), .int (mI 256), am_J] [] h) := by
  refine (tq_aload_n i_X3_keep_0 rfl (isA_ref _) rfl).trans ?_
  refine (tq_getfield i_X3_keep_1 (K3_s k1) (gR (g_3_8 (K3_s k1)) (K3_e8 k1)) (isV_ref _) rfl).trans ?_
  refine (tq_sipush i_X3_keep_4 rfl).trans ?_
  exact c_X7_shift i_X3_keep_7 (ltd d_X3_keep (by decide)) (isA_ref _) stOk_0 rfl
theorem i_X3_keep_10 : am_i m_X3_keep 10 = some (10, .aload_n 0, 1, [], 0) := rfl
theorem i_X3_keep_11 : am_i m_X3_keep 11 = some (11, .getfield 25, 3, [3, 2, 0], 0) := rfl
theorem i_X3_keep_14 : am_i m_X3_keep 14 = some (14, .aload_n 0, 1, [], 0) := rfl
theorem i_X3_keep_15 : am_i m_X3_keep 15 = some (15, .getfield 46, 3, [3, 8, 0], 0) := rfl
theorem i_X3_keep_18 : am_i m_X3_keep 18 = some (18, .invokestatic 72, 3, [31], 0) := rfl
theorem b_X3_keep_10 {a0 : Nat} {h : am_H} (k1 : K3 h a0) : rn m_X3_keep 10 [.ref a0] [] h = cl m_X3_keep 21 [.ref a0] [] (rn m_X7_copy 0 [.ref (a0 + 11), .ref (a0 + 13), am_J] [] h) := by
  refine (tq_aload_n i_X3_keep_10 rfl (isA_ref _) rfl).trans ?_
  refine (tq_getfield i_X3_keep_11 (K3_s k1) (gR (g_3_2 (K3_s k1)) (K3_e2 k1)) (isV_ref _) rfl).trans ?_
  refine (tq_aload_n i_X3_keep_14 rfl (isA_ref _) rfl).trans ?_
  refine (tq_getfield i_X3_keep_15 (K3_s k1) (gR (g_3_8 (K3_s k1)) (K3_e8 k1)) (isV_ref _) rfl).trans ?_
  exact c_X7_copy i_X3_keep_18 (ltd d_X3_keep (by decide)) (isA_ref _) (isA_ref _) stOk_0 rfl
theorem i_X3_keep_21 : am_i m_X3_keep 21 = some (21, .aload_n 0, 1, [], 0) := rfl
theorem i_X3_keep_22 : am_i m_X3_keep 22 = some (22, .getfield 49, 3, [3, 9, 0], 0) := rfl
theorem i_X3_keep_25 : am_i m_X3_keep 25 = some (25, .iconst 1, 1, [], 1) := rfl
theorem i_X3_keep_26 : am_i m_X3_keep 26 = some (26, .invokestatic 101, 3, [35], 0) := rfl
theorem b_X3_keep_21 {a0 : Nat} {h : am_H} (k1 : K3 h a0) : rn m_X3_keep 21 [.ref a0] [] h = cl m_X3_keep 29 [.ref a0] [] (rn m_X7_shift 0 [.ref (a0 + 14), .int (mI 1), am_J] [] h) := by
  refine (tq_aload_n i_X3_keep_21 rfl (isA_ref _) rfl).trans ?_
  refine (tq_getfield i_X3_keep_22 (K3_s k1) (gR (g_3_9 (K3_s k1)) (K3_e9 k1)) (isV_ref _) rfl).trans ?_
  refine (tq_iconst i_X3_keep_25 rfl).trans ?_
  exact c_X7_shift i_X3_keep_26 (ltd d_X3_keep (by decide)) (isA_ref _) stOk_0 rfl
theorem i_X3_keep_29 : am_i m_X3_keep 29 = some (29, .aload_n 0, 1, [], 0) := rfl
theorem i_X3_keep_30 : am_i m_X3_keep 30 = some (30, .getfield 49, 3, [3, 9, 0], 0) := rfl
theorem i_X3_keep_33 : am_i m_X3_keep 33 = some (33, .iconst 0, 1, [], 0) := rfl
theorem i_X3_keep_34 : am_i m_X3_keep 34 = some (34, .aload_n 0, 1, [], 0) := rfl
theorem i_X3_keep_35 : am_i m_X3_keep 35 = some (35, .getfield 36, 3, [3, 5, 0], 0) := rfl
theorem i_X3_keep_38 : am_i m_X3_keep 38 = some (38, .ifCond .eq 7, 3, [], 0) := rfl
theorem i_X3_keep_41 : am_i m_X3_keep 41 = some (41, .iconst 1, 1, [], 1) := rfl
theorem i_X3_keep_42 : am_i m_X3_keep 42 = some (42, .goto 4, 3, [], 0) := rfl
theorem i_X3_keep_45 : am_i m_X3_keep 45 = some (45, .iconst 0, 1, [], 0) := rfl
theorem i_X3_keep_46 : am_i m_X3_keep 46 = some (46, .invokestatic 104, 3, [33], 0) := rfl
theorem i_X3_keep_49 : am_i m_X3_keep 49 = some (49, .aload_n 0, 1, [], 0) := rfl
theorem i_X3_keep_50 : am_i m_X3_keep 50 = some (50, .aload_n 0, 1, [], 0) := rfl
theorem i_X3_keep_51 : am_i m_X3_keep 51 = some (51, .getfield 43, 3, [3, 7, 0], 0) := rfl
theorem i_X3_keep_54 : am_i m_X3_keep 54 = some (54, .iconst 1, 1, [], 1) := rfl
theorem i_X3_keep_55 : am_i m_X3_keep 55 = some (55, .iadd, 1, [], 0) := rfl
theorem i_X3_keep_56 : am_i m_X3_keep 56 = some (56, .iconst 3, 1, [], 3) := rfl
theorem i_X3_keep_57 : am_i m_X3_keep 57 = some (57, .invokestatic 108, 3, [0, 2], 0) := rfl
theorem i_X3_keep_60 : am_i m_X3_keep 60 = some (60, .putfield 43, 3, [3, 7, 0], 0) := rfl
theorem i_X3_keep_63 : am_i m_X3_keep 63 = some (63, .return_, 1, [], 0) := rfl
theorem b_X3_keep_29 {a0 : Nat} {h : am_H} (k1 : K3 h a0) (g2 : (0 : Int) ≤ 0 ∧ 0 < (3 : Int)) : rn m_X3_keep 29 [.ref a0] [] h = some (.inl none, uF 3 (uZ h (a0 + 14) 0 (bZ (¬ ((fZ h a0 5) = 0)))) a0 7 (.int (mI (min (wr ((fZ h a0 7) + 1)) 3)))) := by
  refine (tq_aload_n i_X3_keep_29 rfl (isA_ref _) rfl).trans ?_
  refine (tq_getfield i_X3_keep_30 (K3_s k1) (gR (g_3_9 (K3_s k1)) (K3_e9 k1)) (isV_ref _) rfl).trans ?_
  refine (tq_iconst i_X3_keep_33 rfl).trans ?_
  refine (tq_aload_n i_X3_keep_34 rfl (isA_ref _) rfl).trans ?_
  refine (tq_getfield i_X3_keep_35 (K3_s k1) (g_3_5 (K3_s k1)) (isV_I _) rfl).trans ?_
  refine (tq_if_eq (pt := 45) i_X3_keep_38 (wr_fZ _ _ _) (by decide) rfl).trans ?_
  refine Eq.trans (b := if (fZ h a0 5) = 0 then rn m_X3_keep 46 [.ref a0] [.int (mI 0), .int (mI 0), .ref (a0 + 14)] h else rn m_X3_keep 46 [.ref a0] [.int (mI 1), .int (mI 0), .ref (a0 + 14)] h) (ite_congr rfl (fun c1 => ?_) (fun c1 => ?_)) ?_
  · refine (tq_iconst i_X3_keep_45 rfl).trans ?_
    rfl
  · refine (tq_iconst i_X3_keep_41 rfl).trans ?_
    refine (tq_goto (pc' := 46) i_X3_keep_42 (by decide)).trans ?_
    rfl
  refine Eq.trans ite_b01 ?_
  refine (c_X7_put i_X3_keep_46 (ltd d_X3_keep (by decide)) (isA_ref _) stOk_0 rfl).trans ?_
  refine (congrArg (cl _ _ _ _) (put_ok w_0 (K3_n9 k1) (K3_s9 k1) g2)).trans ?_
  refine (cl_n _ _ _ _ _).trans ?_
  refine (tq_aload_n i_X3_keep_49 rfl (isA_ref _) rfl).trans ?_
  refine (tq_aload_n i_X3_keep_50 rfl (isA_ref _) rfl).trans ?_
  refine (tq_getfield i_X3_keep_51 ((sh_uZ _ _ _ _ _).trans (K3_s k1)) ((g_3_7 ((sh_uZ _ _ _ _ _).trans (K3_s k1))).trans (congrArg (fun z => Value.int (mI z)) (fZ_uZ _ _ _ _ _ _))) (isV_I _) rfl).trans ?_
  refine (tq_iconst i_X3_keep_54 rfl).trans ?_
  refine (tq_iadd i_X3_keep_55 rfl).trans ?_
  refine (tq_iconst i_X3_keep_56 rfl).trans ?_
  refine (tq_min i_X3_keep_57 rfl w_3 (Nat.le_of_ble_eq_true rfl) rfl).trans ?_
  refine (tq_putfield i_X3_keep_60 ((sh_uZ _ _ _ _ _).trans (K3_s k1)) (okf_3_7 _) rfl).trans ?_
  exact tq_return i_X3_keep_63 r_X3_keep
theorem keep_ok {h : am_H} {A : Nat} (k : K3 h A) (hc : 0 ≤ fZ h A 7 ∧ fZ h A 7 ≤ 3) : ∃ h', rn m_X3_keep 0 [.ref A] [] h = some (.inl none, h') ∧ Md (fun c j => (c = A ∧ j = 7) ∨ c = A + 13 ∨ c = A + 14) h h' ∧ (∀ i, 0 ≤ i → i < 256 → gZ h' (A + 13) i = gZ h (A + 11) i) ∧ (∀ i, 256 ≤ i → i < 768 → gZ h' (A + 13) i = gZ h (A + 13) (i - 256)) ∧ gZ h' (A + 14) 0 = bZ (¬ fZ h A 5 = 0) ∧ (∀ j, 1 ≤ j → j < 3 → gZ h' (A + 14) j = gZ h (A + 14) (j - 1)) ∧ fZ h' A 7 = min (fZ h A 7 + 1) 3 := by
  have st := b_X3_keep_0 (a0 := A) (h := h) k
  obtain ⟨h1, e1, m1, g1⟩ := shift_md (k := 256) (K3_s8 k) (K3_n8 k) (by decide) (by decide)
  have k1 := K3_sm m1.1 k
  rw [e1, cl_n, b_X3_keep_10 k1] at st
  obtain ⟨h2, e2, m2, g2, g2'⟩ := copy_md (K3_s2 k1) (K3_n2 k1) (K3_s8 k1) (K3_n8 k1) (by omega)
  have k2 := K3_sm m2.1 k1
  rw [e2, cl_n, b_X3_keep_21 k2] at st
  obtain ⟨h3, e3, m3, g3⟩ := shift_md (k := 1) (K3_s9 k2) (K3_n9 k2) (by decide) (by decide)
  have k3 := K3_sm m3.1 k2
  have f5 : fZ h3 A 5 = fZ h A 5 := by rw [md_fZ m3 (by omega), md_fZ m2 (by omega), md_fZ m1 (by omega)]
  have f7 : fZ h3 A 7 = fZ h A 7 := by rw [md_fZ m3 (by omega), md_fZ m2 (by omega), md_fZ m1 (by omega)]
  rw [e3, cl_n, b_X3_keep_29 k3 (by decide), f5, f7, wr_id (z := fZ h A 7 + 1) (by omega) (by omega)] at st
  obtain ⟨hA, eA⟩ : ∃ u, u = uZ h3 (A + 14) 0 (bZ (¬ fZ h A 5 = 0)) := ⟨_, rfl⟩
  have mA : Md (fun c _ => c = A + 14) h3 hA := by rw [eA]; exact Md_uZ _ _ _ _
  have gA : ∀ j, gZ hA (A + 14) j = if j = 0 then bZ (¬ fZ h A 5 = 0) else gZ h3 (A + 14) j := fun j => by rw [eA, gZ_uZ' (sh1 (K3_s9 k3)), wr_bZ]
  rw [← eA] at st
  clear eA
  have kA := K3_sm mA.1 k3
  have mF : Md (fun c j => c = A ∧ j = 7) hA (uF 3 hA A 7 (.int (mI (min (fZ h A 7 + 1) 3)))) := Md_uF (Sm_uF_3_7 _ _ _)
  have c2 : ((min 256 768 : Nat) : Int) = 256 := by decide
  refine ⟨_, st, ?_, fun i i0 i1 => ?_, fun i i0 i1 => ?_, ?_, fun j j0 j1 => ?_, ?_⟩
  · exact Md_tr (Md_mono m1 fun c k g => by omega) (Md_tr (Md_mono m2 fun c k g => by omega) (Md_tr (Md_mono m3 fun c k g => by omega) (Md_tr (Md_mono mA fun c k g => by omega) (Md_mono mF fun c k g => by omega))))
  · rw [md_gZ mF (by omega), md_gZ mA (by omega), md_gZ m3 (by omega), g2 i i0 (by omega), md_gZ m1 (by omega)]
  · rw [md_gZ mF (by omega), md_gZ mA (by omega), md_gZ m3 (by omega), g2' i (by omega), g1, if_pos (by omega)]
  · rw [md_gZ mF (by omega), gA, if_pos rfl]
  · rw [md_gZ mF (by omega), gA, if_neg (by omega), g3, if_pos (by omega), md_gZ m2 (by omega), md_gZ m1 (by omega)]
  · rw [fZ_uF_eq (K3_s kA) (okf_3_7 _), wr_id (by omega) (by omega)]
theorem i_X3_leansOnClean_0 : am_i m_X3_leansOnClean 0 = some (0, .aload_n 1, 1, [], 0) := rfl
theorem i_X3_leansOnClean_1 : am_i m_X3_leansOnClean 1 = some (1, .invokevirtual 84, 3, [27, 6], 0) := rfl
theorem i_X3_leansOnClean_4 : am_i m_X3_leansOnClean 4 = some (4, .ifCond .eq 18, 3, [], 0) := rfl
theorem i_X3_leansOnClean_7 : am_i m_X3_leansOnClean 7 = some (7, .aload_n 0, 1, [], 0) := rfl
theorem i_X3_leansOnClean_8 : am_i m_X3_leansOnClean 8 = some (8, .getfield 49, 3, [3, 9, 0], 0) := rfl
theorem i_X3_leansOnClean_11 : am_i m_X3_leansOnClean 11 = some (11, .aload_n 1, 1, [], 0) := rfl
theorem i_X3_leansOnClean_12 : am_i m_X3_leansOnClean 12 = some (12, .getfield 88, 3, [6, 1, 1], 0) := rfl
theorem i_X3_leansOnClean_15 : am_i m_X3_leansOnClean 15 = some (15, .invokestatic 91, 3, [32], 0) := rfl
theorem i_X3_leansOnClean_18 : am_i m_X3_leansOnClean 18 = some (18, .iconst 1, 1, [], 1) := rfl
theorem i_X3_leansOnClean_19 : am_i m_X3_leansOnClean 19 = some (19, .if_icmp .ne 29, 3, [], 0) := rfl
theorem i_X3_leansOnClean_22 : am_i m_X3_leansOnClean 22 = some (22, .aload_n 1, 1, [], 0) := rfl
theorem i_X3_leansOnClean_23 : am_i m_X3_leansOnClean 23 = some (23, .invokevirtual 95, 3, [28, 6], 0) := rfl
theorem i_X3_leansOnClean_26 : am_i m_X3_leansOnClean 26 = some (26, .ifCond .eq 18, 3, [], 0) := rfl
theorem i_X3_leansOnClean_29 : am_i m_X3_leansOnClean 29 = some (29, .aload_n 0, 1, [], 0) := rfl
theorem i_X3_leansOnClean_30 : am_i m_X3_leansOnClean 30 = some (30, .getfield 49, 3, [3, 9, 0], 0) := rfl
theorem i_X3_leansOnClean_33 : am_i m_X3_leansOnClean 33 = some (33, .aload_n 1, 1, [], 0) := rfl
theorem i_X3_leansOnClean_34 : am_i m_X3_leansOnClean 34 = some (34, .getfield 98, 3, [6, 2, 1], 0) := rfl
theorem i_X3_leansOnClean_37 : am_i m_X3_leansOnClean 37 = some (37, .invokestatic 91, 3, [32], 0) := rfl
theorem i_X3_leansOnClean_40 : am_i m_X3_leansOnClean 40 = some (40, .iconst 1, 1, [], 1) := rfl
theorem i_X3_leansOnClean_41 : am_i m_X3_leansOnClean 41 = some (41, .if_icmp .ne 7, 3, [], 0) := rfl
theorem i_X3_leansOnClean_44 : am_i m_X3_leansOnClean 44 = some (44, .iconst 1, 1, [], 1) := rfl
theorem i_X3_leansOnClean_45 : am_i m_X3_leansOnClean 45 = some (45, .goto 4, 3, [], 0) := rfl
theorem i_X3_leansOnClean_48 : am_i m_X3_leansOnClean 48 = some (48, .iconst 0, 1, [], 0) := rfl
theorem i_X3_leansOnClean_49 : am_i m_X3_leansOnClean 49 = some (49, .ireturn, 1, [], 0) := rfl
theorem b_X3_leansOnClean_0 {a0 a1 : Nat} {h : am_H} (k1 : K6 h a1) (k2 : K3 h a0) (g3 : ((¬ ((fZ h a1 0) = 105))) → (0 ≤ (fZ h a1 1) ∧ (fZ h a1 1) < (3 : Int))) (g4 : ((¬ ((fZ h a1 0) = 105))) → (¬ (¬ (gZ h (a0 + 14) (fZ h a1 1)) = 1)) → ((¬ (¬ (fZ h a1 0) = 98))) → (0 ≤ (fZ h a1 2) ∧ (fZ h a1 2) < (3 : Int))) (g5 : (¬ ((¬ ((fZ h a1 0) = 105)))) → ((¬ (¬ (fZ h a1 0) = 98))) → (0 ≤ (fZ h a1 2) ∧ (fZ h a1 2) < (3 : Int))) : rn m_X3_leansOnClean 0 [.ref a0, .ref a1] [] h = some (.inl (some (.int (mI (bZ (((¬ ((fZ h a1 0) = 105)) ∧ (¬ (¬ (gZ h (a0 + 14) (fZ h a1 1)) = 1) ∧ (¬ (¬ (¬ (fZ h a1 0) = 98)) ∨ (¬ (¬ (gZ h (a0 + 14) (fZ h a1 2)) = 1))))) ∨ (¬ (¬ ((fZ h a1 0) = 105)) ∧ (¬ (¬ (¬ (fZ h a1 0) = 98)) ∨ (¬ (¬ (gZ h (a0 + 14) (fZ h a1 2)) = 1))))))))), h) := by
  refine (tq_aload_n i_X3_leansOnClean_0 rfl (isA_ref _) rfl).trans ?_
  refine (c_X6_leansOnFirst i_X3_leansOnClean_1 (K6_s k1) (ltd d_X3_leansOnClean (by decide)) stOk_0 rfl).trans ?_
  refine (congrArg (cl _ _ _ _) (b_X6_leansOnFirst_0 k1)).trans ?_
  refine (cl_v _ _ _ _ _ _).trans ?_
  refine (tq_ifb_eq (pt := 22) i_X3_leansOnClean_4 (by decide) rfl).trans ?_
  refine Eq.trans (b := if (¬ ((fZ h a1 0) = 105)) then rn m_X3_leansOnClean 49 [.ref a0, .ref a1] [.int (mI (bZ (¬ (¬ (gZ h (a0 + 14) (fZ h a1 1)) = 1) ∧ (¬ (¬ (¬ (fZ h a1 0) = 98)) ∨ (¬ (¬ (gZ h (a0 + 14) (fZ h a1 2)) = 1))))))] h else rn m_X3_leansOnClean 49 [.ref a0, .ref a1] [.int (mI (bZ (¬ (¬ (¬ (fZ h a1 0) = 98)) ∨ (¬ (¬ (gZ h (a0 + 14) (fZ h a1 2)) = 1)))))] h) (ite_congr rfl (fun c1 => ?_) (fun c1 => ?_)) ?_
  · refine (tq_aload_n i_X3_leansOnClean_7 rfl (isA_ref _) rfl).trans ?_
    refine (tq_getfield i_X3_leansOnClean_8 (K3_s k2) (gR (g_3_9 (K3_s k2)) (K3_e9 k2)) (isV_ref _) rfl).trans ?_
    refine (tq_aload_n i_X3_leansOnClean_11 rfl (isA_ref _) rfl).trans ?_
    refine (tq_getfield i_X3_leansOnClean_12 (K6_s k1) (g_6_1 (K6_s k1)) (isV_I _) rfl).trans ?_
    refine (c_X7_get i_X3_leansOnClean_15 (ltd d_X3_leansOnClean (by decide)) (isA_ref _) stOk_0 rfl).trans ?_
    refine (congrArg (cl _ _ _ _) (get_ok (wr_fZ _ _ _) (K3_n9 k2) (K3_s9 k2) (by decide) (g3 c1))).trans ?_
    refine (cl_v _ _ _ _ _ _).trans ?_
    refine (tq_iconst i_X3_leansOnClean_18 rfl).trans ?_
    refine (tq_icmp_ne (pt := 48) i_X3_leansOnClean_19 (wr_gZ _ _ _) w_1 (by decide) rfl).trans ?_
    refine Eq.trans (b := if ¬ (gZ h (a0 + 14) (fZ h a1 1)) = 1 then rn m_X3_leansOnClean 49 [.ref a0, .ref a1] [.int (mI 0)] h else rn m_X3_leansOnClean 49 [.ref a0, .ref a1] [.int (mI (bZ (¬ (¬ (¬ (fZ h a1 0) = 98)) ∨ (¬ (¬ (gZ h (a0 + 14) (fZ h a1 2)) = 1)))))] h) (ite_congr rfl (fun c2 => ?_) (fun c2 => ?_)) ?_
    · refine (tq_iconst i_X3_leansOnClean_48 rfl).trans ?_
      rfl
    · refine (tq_aload_n i_X3_leansOnClean_22 rfl (isA_ref _) rfl).trans ?_
      refine (c_X6_leansOnSecond i_X3_leansOnClean_23 (K6_s k1) (ltd d_X3_leansOnClean (by decide)) stOk_0 rfl).trans ?_
      refine (congrArg (cl _ _ _ _) (b_X6_leansOnSecond_0 k1)).trans ?_
      refine (cl_v _ _ _ _ _ _).trans ?_
      refine (tq_ifb_eq (pt := 44) i_X3_leansOnClean_26 (by decide) rfl).trans ?_
      refine Eq.trans (b := if (¬ (¬ (fZ h a1 0) = 98)) then rn m_X3_leansOnClean 49 [.ref a0, .ref a1] [.int (mI (bZ (¬ (¬ (gZ h (a0 + 14) (fZ h a1 2)) = 1))))] h else rn m_X3_leansOnClean 49 [.ref a0, .ref a1] [.int (mI 1)] h) (ite_congr rfl (fun c3 => ?_) (fun c3 => ?_)) ?_
      · refine (tq_aload_n i_X3_leansOnClean_29 rfl (isA_ref _) rfl).trans ?_
        refine (tq_getfield i_X3_leansOnClean_30 (K3_s k2) (gR (g_3_9 (K3_s k2)) (K3_e9 k2)) (isV_ref _) rfl).trans ?_
        refine (tq_aload_n i_X3_leansOnClean_33 rfl (isA_ref _) rfl).trans ?_
        refine (tq_getfield i_X3_leansOnClean_34 (K6_s k1) (g_6_2 (K6_s k1)) (isV_I _) rfl).trans ?_
        refine (c_X7_get i_X3_leansOnClean_37 (ltd d_X3_leansOnClean (by decide)) (isA_ref _) stOk_0 rfl).trans ?_
        refine (congrArg (cl _ _ _ _) (get_ok (wr_fZ _ _ _) (K3_n9 k2) (K3_s9 k2) (by decide) (g4 c1 c2 c3))).trans ?_
        refine (cl_v _ _ _ _ _ _).trans ?_
        refine (tq_iconst i_X3_leansOnClean_40 rfl).trans ?_
        refine (tq_icmp_ne (pt := 48) i_X3_leansOnClean_41 (wr_gZ _ _ _) w_1 (by decide) rfl).trans ?_
        refine Eq.trans (b := if ¬ (gZ h (a0 + 14) (fZ h a1 2)) = 1 then rn m_X3_leansOnClean 49 [.ref a0, .ref a1] [.int (mI 0)] h else rn m_X3_leansOnClean 49 [.ref a0, .ref a1] [.int (mI 1)] h) (ite_congr rfl (fun c4 => ?_) (fun c4 => ?_)) ?_
        · refine (tq_iconst i_X3_leansOnClean_48 rfl).trans ?_
          rfl
        · refine (tq_iconst i_X3_leansOnClean_44 rfl).trans ?_
          refine (tq_goto (pc' := 49) i_X3_leansOnClean_45 (by decide)).trans ?_
          rfl
        exact ite_b01
      · refine (tq_iconst i_X3_leansOnClean_44 rfl).trans ?_
        refine (tq_goto (pc' := 49) i_X3_leansOnClean_45 (by decide)).trans ?_
        rfl
      exact ite_bp1
    exact ite_b0p
  · refine (tq_aload_n i_X3_leansOnClean_22 rfl (isA_ref _) rfl).trans ?_
    refine (c_X6_leansOnSecond i_X3_leansOnClean_23 (K6_s k1) (ltd d_X3_leansOnClean (by decide)) stOk_0 rfl).trans ?_
    refine (congrArg (cl _ _ _ _) (b_X6_leansOnSecond_0 k1)).trans ?_
    refine (cl_v _ _ _ _ _ _).trans ?_
    refine (tq_ifb_eq (pt := 44) i_X3_leansOnClean_26 (by decide) rfl).trans ?_
    refine Eq.trans (b := if (¬ (¬ (fZ h a1 0) = 98)) then rn m_X3_leansOnClean 49 [.ref a0, .ref a1] [.int (mI (bZ (¬ (¬ (gZ h (a0 + 14) (fZ h a1 2)) = 1))))] h else rn m_X3_leansOnClean 49 [.ref a0, .ref a1] [.int (mI 1)] h) (ite_congr rfl (fun c5 => ?_) (fun c5 => ?_)) ?_
    · refine (tq_aload_n i_X3_leansOnClean_29 rfl (isA_ref _) rfl).trans ?_
      refine (tq_getfield i_X3_leansOnClean_30 (K3_s k2) (gR (g_3_9 (K3_s k2)) (K3_e9 k2)) (isV_ref _) rfl).trans ?_
      refine (tq_aload_n i_X3_leansOnClean_33 rfl (isA_ref _) rfl).trans ?_
      refine (tq_getfield i_X3_leansOnClean_34 (K6_s k1) (g_6_2 (K6_s k1)) (isV_I _) rfl).trans ?_
      refine (c_X7_get i_X3_leansOnClean_37 (ltd d_X3_leansOnClean (by decide)) (isA_ref _) stOk_0 rfl).trans ?_
      refine (congrArg (cl _ _ _ _) (get_ok (wr_fZ _ _ _) (K3_n9 k2) (K3_s9 k2) (by decide) (g5 c1 c5))).trans ?_
      refine (cl_v _ _ _ _ _ _).trans ?_
      refine (tq_iconst i_X3_leansOnClean_40 rfl).trans ?_
      refine (tq_icmp_ne (pt := 48) i_X3_leansOnClean_41 (wr_gZ _ _ _) w_1 (by decide) rfl).trans ?_
      refine Eq.trans (b := if ¬ (gZ h (a0 + 14) (fZ h a1 2)) = 1 then rn m_X3_leansOnClean 49 [.ref a0, .ref a1] [.int (mI 0)] h else rn m_X3_leansOnClean 49 [.ref a0, .ref a1] [.int (mI 1)] h) (ite_congr rfl (fun c6 => ?_) (fun c6 => ?_)) ?_
      · refine (tq_iconst i_X3_leansOnClean_48 rfl).trans ?_
        rfl
      · refine (tq_iconst i_X3_leansOnClean_44 rfl).trans ?_
        refine (tq_goto (pc' := 49) i_X3_leansOnClean_45 (by decide)).trans ?_
        rfl
      exact ite_b01
    · refine (tq_iconst i_X3_leansOnClean_44 rfl).trans ?_
      refine (tq_goto (pc' := 49) i_X3_leansOnClean_45 (by decide)).trans ?_
      rfl
    exact ite_bp1
  refine Eq.trans ite_bpq ?_
  exact tq_ireturn i_X3_leansOnClean_49 r_X3_leansOnClean (okB (wr_bZ _) (bZ_01 _))
def clnP (kd lost c1 c2 : Int) : Prop := lost = 0 ∧ (kd = 105 ∨ c1 = 1) ∧ (¬ kd = 98 ∨ c2 = 1)
def clnv (kd lost c1 c2 : Int) : Int := if lost = 0 ∧ (kd = 105 ∨ c1 = 1) ∧ (¬ kd = 98 ∨ c2 = 1) then 1 else 0
theorem clnv_01 (kd lost c1 c2 : Int) : clnv kd lost c1 c2 = 0 ∨ clnv kd lost c1 c2 = 1 := by unfold clnv; split <;> simp
theorem lOC_ok {h : am_H} {A P : Nat} {kd c1 c2 : Int} (kA : K3 h A) (kP : K6 h P) (e0 : fZ h P 0 = kd) (r1 : kd ≠ 105 → 0 ≤ fZ h P 1 ∧ fZ h P 1 < 3) (r2 : kd = 98 → 0 ≤ fZ h P 2 ∧ fZ h P 2 < 3) (hc1 : kd ≠ 105 → c1 = gZ h (A + 14) (fZ h P 1)) (hc2 : kd = 98 → c2 = gZ h (A + 14) (fZ h P 2)) : rn m_X3_leansOnClean 0 [.ref A, .ref P] [] h = some (.inl (some (.int (mI (clnv kd 0 c1 c2)))), h) := by
  have st := b_X3_leansOnClean_0 (a0 := A) (a1 := P) (h := h) kP kA (fun g => r1 (by rw [← e0]; exact g)) (fun _ _ g => r2 (by rw [← e0]; omega)) (fun _ g => r2 (by rw [← e0]; omega))
  rw [st, e0]
  have e : ∀ p : Prop, ∀ _ : Decidable p, (p ↔ ((0 : Int) = 0 ∧ (kd = 105 ∨ c1 = 1) ∧ (¬ kd = 98 ∨ c2 = 1))) → bZ p = clnv kd 0 c1 c2 := fun p _ g => by
    unfold clnv bZ
    by_cases q : p
    · rw [if_pos q, if_pos (g.mp q)]
    · rw [if_neg q, if_neg fun w => q (g.mpr w)]
  rw [e _ _ ?_]
  by_cases k1 : kd = 105
  · subst k1
    omega
  · rw [← hc1 k1]
    by_cases k2 : kd = 98
    · rw [← hc2 k2]
      omega
    · omega
theorem i_X3_receive_0 : am_i m_X3_receive 0 = some (0, .aload_n 0, 1, [], 0) := rfl
theorem i_X3_receive_1 : am_i m_X3_receive 1 = some (1, .aload_n 1, 1, [], 0) := rfl
theorem i_X3_receive_2 : am_i m_X3_receive 2 = some (2, .iload_n 2, 1, [], 0) := rfl
theorem i_X3_receive_3 : am_i m_X3_receive 3 = some (3, .invokevirtual 64, 3, [100, 3], 0) := rfl
theorem b_X3_receive_0 {a0 a1 : Nat} {x2 : Int} {h : am_H} (k1 : K3 h a0) : rn m_X3_receive 0 [.ref a0, .ref a1, .int (mI x2)] [] h = cl m_X3_receive 6 [.ref a0, .ref a1, .int (mI x2)] [] (rn m_X3_build 0 [.ref a0, .ref a1, .int (mI x2), am_J, am_J, am_J] [] h) := by
  refine (tq_aload_n i_X3_receive_0 rfl (isA_ref _) rfl).trans ?_
  refine (tq_aload_n i_X3_receive_1 rfl (isA_ref _) rfl).trans ?_
  refine (tq_iload_n i_X3_receive_2 rfl rfl).trans ?_
  exact c_X3_build i_X3_receive_3 (K3_s k1) (ltd d_X3_receive (by decide)) (isA_ref _) stOk_0 rfl
theorem i_X3_receive_6 : am_i m_X3_receive 6 = some (6, .aload_n 0, 1, [], 0) := rfl
theorem i_X3_receive_7 : am_i m_X3_receive 7 = some (7, .iload_n 2, 1, [], 0) := rfl
theorem i_X3_receive_8 : am_i m_X3_receive 8 = some (8, .ifCond .ne 15, 3, [], 0) := rfl
theorem i_X3_receive_11 : am_i m_X3_receive 11 = some (11, .aload_n 0, 1, [], 0) := rfl
theorem i_X3_receive_12 : am_i m_X3_receive 12 = some (12, .aload_n 1, 1, [], 0) := rfl
theorem i_X3_receive_13 : am_i m_X3_receive 13 = some (13, .invokevirtual 68, 3, [58, 3], 0) := rfl
theorem i_X3_receive_23 : am_i m_X3_receive 23 = some (23, .iconst 0, 1, [], 0) := rfl
theorem i_X3_receive_24 : am_i m_X3_receive 24 = some (24, .putfield 36, 3, [3, 5, 0], 0) := rfl
theorem i_X3_receive_27 : am_i m_X3_receive 27 = some (27, .aload_n 0, 1, [], 0) := rfl
theorem i_X3_receive_28 : am_i m_X3_receive 28 = some (28, .getfield 25, 3, [3, 2, 0], 0) := rfl
theorem i_X3_receive_31 : am_i m_X3_receive 31 = some (31, .aload_n 0, 1, [], 0) := rfl
theorem i_X3_receive_32 : am_i m_X3_receive 32 = some (32, .getfield 40, 3, [3, 6, 0], 0) := rfl
theorem i_X3_receive_35 : am_i m_X3_receive 35 = some (35, .invokestatic 72, 3, [31], 0) := rfl
theorem b_X3_receive_6 {a0 a1 : Nat} {x2 x2' : Int} {h : am_H} (w2 : wr x2 = x2') (k1 : K3 h a0) : rn m_X3_receive 6 [.ref a0, .ref a1, .int (mI x2)] [] h = if ¬ x2' = 0 then cl m_X3_receive 38 [.ref a0, .ref a1, .int (mI x2)] [] (rn m_X7_copy 0 [.ref (a0 + 11), .ref (a0 + 12), am_J] [] (uF 3 h a0 5 (.int (mI 0)))) else cl m_X3_receive 16 [.ref a0, .ref a1, .int (mI x2)] [.ref a0] (rn m_X3_leansOnClean 0 [.ref a0, .ref a1] [] h) := by
  refine (tq_aload_n i_X3_receive_6 rfl (isA_ref _) rfl).trans ?_
  refine (tq_iload_n i_X3_receive_7 rfl rfl).trans ?_
  refine (tq_if_ne (pt := 23) i_X3_receive_8 w2 (by decide) rfl).trans ?_
  refine ite_congr rfl (fun c1 => ?_) (fun c1 => ?_)
  · refine (tq_iconst i_X3_receive_23 rfl).trans ?_
    refine (tq_putfield i_X3_receive_24 (K3_s k1) (okfB_3_5 w_0 (by decide)) rfl).trans ?_
    refine (tq_aload_n i_X3_receive_27 rfl (isA_ref _) rfl).trans ?_
    refine (tq_getfield i_X3_receive_28 ((sh_uF _ _ _ _ _ _).trans (K3_s k1)) (gR ((g_3_2 ((sh_uF _ _ _ _ _ _).trans (K3_s k1))).trans (congrArg am_rv (fA_uF_nk (K3_s k1) (okfB_3_5 w_0 (by decide)) (by decide)))) (K3_e2 k1)) (isV_ref _) rfl).trans ?_
    refine (tq_aload_n i_X3_receive_31 rfl (isA_ref _) rfl).trans ?_
    refine (tq_getfield i_X3_receive_32 ((sh_uF _ _ _ _ _ _).trans (K3_s k1)) (gR ((g_3_6 ((sh_uF _ _ _ _ _ _).trans (K3_s k1))).trans (congrArg am_rv (fA_uF_nk (K3_s k1) (okfB_3_5 w_0 (by decide)) (by decide)))) (K3_e6 k1)) (isV_ref _) rfl).trans ?_
    exact c_X7_copy i_X3_receive_35 (ltd d_X3_receive (by decide)) (isA_ref _) (isA_ref _) stOk_0 rfl
  · refine (tq_aload_n i_X3_receive_11 rfl (isA_ref _) rfl).trans ?_
    refine (tq_aload_n i_X3_receive_12 rfl (isA_ref _) rfl).trans ?_
    exact c_X3_leansOnClean i_X3_receive_13 (K3_s k1) (ltd d_X3_receive (by decide)) (isA_ref _) (stOk_1 _) rfl
theorem i_X3_receive_16 : am_i m_X3_receive 16 = some (16, .ifCond .eq 7, 3, [], 0) := rfl
theorem i_X3_receive_19 : am_i m_X3_receive 19 = some (19, .iconst 1, 1, [], 1) := rfl
theorem i_X3_receive_20 : am_i m_X3_receive 20 = some (20, .goto 4, 3, [], 0) := rfl
theorem b_X3_receive_16 {a0 a1 as1 : Nat} {v2 : Value} {xs0 xs0' : Int} {h : am_H} (ws0 : wr xs0 = xs0') (k1 : K3 h as1) (k2 : K3 h a0) : rn m_X3_receive 16 [.ref a0, .ref a1, v2] [.int (mI xs0), .ref as1] h = cl m_X3_receive 38 [.ref a0, .ref a1, v2] [] (rn m_X7_copy 0 [.ref (a0 + 11), .ref (a0 + 12), am_J] [] (uF 3 h as1 5 (.int (mI (bZ (¬ (xs0' = 0))))))) := by
  refine (tq_if_eq (pt := 23) i_X3_receive_16 ws0 (by decide) rfl).trans ?_
  refine Eq.trans (b := if xs0' = 0 then rn m_X3_receive 24 [.ref a0, .ref a1, v2] [.int (mI 0), .ref as1] h else rn m_X3_receive 24 [.ref a0, .ref a1, v2] [.int (mI 1), .ref as1] h) (ite_congr rfl (fun c1 => ?_) (fun c1 => ?_)) ?_
  · refine (tq_iconst i_X3_receive_23 rfl).trans ?_
    rfl
  · refine (tq_iconst i_X3_receive_19 rfl).trans ?_
    refine (tq_goto (pc' := 24) i_X3_receive_20 (by decide)).trans ?_
    rfl
  refine Eq.trans ite_b01 ?_
  refine (tq_putfield i_X3_receive_24 (K3_s k1) (okfB_3_5 (wr_bZ _) (bZ_01 _)) rfl).trans ?_
  refine (tq_aload_n i_X3_receive_27 rfl (isA_ref _) rfl).trans ?_
  refine (tq_getfield i_X3_receive_28 ((sh_uF _ _ _ _ _ _).trans (K3_s k2)) (gR ((g_3_2 ((sh_uF _ _ _ _ _ _).trans (K3_s k2))).trans (congrArg am_rv (fA_uF_nk (K3_s k1) (okfB_3_5 (wr_bZ _) (bZ_01 _)) (by decide)))) (K3_e2 k2)) (isV_ref _) rfl).trans ?_
  refine (tq_aload_n i_X3_receive_31 rfl (isA_ref _) rfl).trans ?_
  refine (tq_getfield i_X3_receive_32 ((sh_uF _ _ _ _ _ _).trans (K3_s k2)) (gR ((g_3_6 ((sh_uF _ _ _ _ _ _).trans (K3_s k2))).trans (congrArg am_rv (fA_uF_nk (K3_s k1) (okfB_3_5 (wr_bZ _) (bZ_01 _)) (by decide)))) (K3_e6 k2)) (isV_ref _) rfl).trans ?_
  exact c_X7_copy i_X3_receive_35 (ltd d_X3_receive (by decide)) (isA_ref _) (isA_ref _) stOk_0 rfl
theorem i_X3_receive_38 : am_i m_X3_receive 38 = some (38, .aload_n 0, 1, [], 0) := rfl
theorem i_X3_receive_39 : am_i m_X3_receive 39 = some (39, .aload_n 0, 1, [], 0) := rfl
theorem i_X3_receive_40 : am_i m_X3_receive 40 = some (40, .getfield 29, 3, [3, 3, 0], 0) := rfl
theorem i_X3_receive_43 : am_i m_X3_receive 43 = some (43, .putfield 33, 3, [3, 4, 0], 0) := rfl
theorem i_X3_receive_46 : am_i m_X3_receive 46 = some (46, .aload_n 0, 1, [], 0) := rfl
theorem i_X3_receive_47 : am_i m_X3_receive 47 = some (47, .dup, 1, [], 0) := rfl
theorem i_X3_receive_48 : am_i m_X3_receive 48 = some (48, .getfield 29, 3, [3, 3, 0], 0) := rfl
theorem i_X3_receive_51 : am_i m_X3_receive 51 = some (51, .iconst 1, 1, [], 1) := rfl
theorem i_X3_receive_52 : am_i m_X3_receive 52 = some (52, .iadd, 1, [], 0) := rfl
theorem i_X3_receive_53 : am_i m_X3_receive 53 = some (53, .putfield 29, 3, [3, 3, 0], 0) := rfl
theorem i_X3_receive_56 : am_i m_X3_receive 56 = some (56, .aload_n 0, 1, [], 0) := rfl
theorem i_X3_receive_57 : am_i m_X3_receive 57 = some (57, .dup, 1, [], 0) := rfl
theorem i_X3_receive_58 : am_i m_X3_receive 58 = some (58, .getfield 52, 3, [3, 10, 0], 0) := rfl
theorem i_X3_receive_61 : am_i m_X3_receive 61 = some (61, .iconst 1, 1, [], 1) := rfl
theorem i_X3_receive_62 : am_i m_X3_receive 62 = some (62, .iadd, 1, [], 0) := rfl
theorem i_X3_receive_63 : am_i m_X3_receive 63 = some (63, .putfield 52, 3, [3, 10, 0], 0) := rfl
theorem i_X3_receive_66 : am_i m_X3_receive 66 = some (66, .aload_n 0, 1, [], 0) := rfl
theorem i_X3_receive_67 : am_i m_X3_receive 67 = some (67, .dup, 1, [], 0) := rfl
theorem i_X3_receive_68 : am_i m_X3_receive 68 = some (68, .getfield 55, 3, [3, 11, 0], 0) := rfl
theorem i_X3_receive_71 : am_i m_X3_receive 71 = some (71, .aload_n 0, 1, [], 0) := rfl
theorem i_X3_receive_72 : am_i m_X3_receive 72 = some (72, .getfield 36, 3, [3, 5, 0], 0) := rfl
theorem i_X3_receive_75 : am_i m_X3_receive 75 = some (75, .ifCond .eq 7, 3, [], 0) := rfl
theorem i_X3_receive_78 : am_i m_X3_receive 78 = some (78, .iconst 1, 1, [], 1) := rfl
theorem i_X3_receive_79 : am_i m_X3_receive 79 = some (79, .goto 4, 3, [], 0) := rfl
theorem i_X3_receive_82 : am_i m_X3_receive 82 = some (82, .iconst 0, 1, [], 0) := rfl
theorem i_X3_receive_83 : am_i m_X3_receive 83 = some (83, .iadd, 1, [], 0) := rfl
theorem i_X3_receive_84 : am_i m_X3_receive 84 = some (84, .putfield 55, 3, [3, 11, 0], 0) := rfl
theorem i_X3_receive_87 : am_i m_X3_receive 87 = some (87, .aload_n 1, 1, [], 0) := rfl
theorem i_X3_receive_88 : am_i m_X3_receive 88 = some (88, .getfield 76, 3, [6, 6, 1], 0) := rfl
theorem i_X3_receive_91 : am_i m_X3_receive 91 = some (91, .ifCond .eq 7, 3, [], 0) := rfl
theorem i_X3_receive_94 : am_i m_X3_receive 94 = some (94, .aload_n 0, 1, [], 0) := rfl
theorem i_X3_receive_95 : am_i m_X3_receive 95 = some (95, .invokevirtual 81, 3, [57, 3], 0) := rfl
theorem b_X3_receive_38 {a0 a1 : Nat} {v2 : Value} {h : am_H} (k1 : K3 h a0) (k2 : K6 h a1) : rn m_X3_receive 38 [.ref a0, .ref a1, v2] [] h = if (fZ h a1 6) = 0 then rn m_X3_receive 98 [.ref a0, .ref a1, v2] [] (uF 3 (uF 3 (uF 3 (uF 3 h a0 4 (.int (mI (fZ h a0 3)))) a0 3 (.int (mI ((fZ h a0 3) + 1)))) a0 10 (.int (mI ((fZ h a0 10) + 1)))) a0 11 (.int (mI ((fZ h a0 11) + (bZ (¬ ((fZ h a0 5) = 0))))))) else cl m_X3_receive 98 [.ref a0, .ref a1, v2] [] (rn m_X3_keep 0 [.ref a0] [] (uF 3 (uF 3 (uF 3 (uF 3 h a0 4 (.int (mI (fZ h a0 3)))) a0 3 (.int (mI ((fZ h a0 3) + 1)))) a0 10 (.int (mI ((fZ h a0 10) + 1)))) a0 11 (.int (mI ((fZ h a0 11) + (bZ (¬ ((fZ h a0 5) = 0)))))))) := by
  refine (tq_aload_n i_X3_receive_38 rfl (isA_ref _) rfl).trans ?_
  refine (tq_aload_n i_X3_receive_39 rfl (isA_ref _) rfl).trans ?_
  refine (tq_getfield i_X3_receive_40 (K3_s k1) (g_3_3 (K3_s k1)) (isV_I _) rfl).trans ?_
  refine (tq_putfield i_X3_receive_43 (K3_s k1) (okf_3_4 _) rfl).trans ?_
  refine (tq_aload_n i_X3_receive_46 rfl (isA_ref _) rfl).trans ?_
  refine (tq_dup i_X3_receive_47 rfl rfl).trans ?_
  refine (tq_getfield i_X3_receive_48 ((sh_uF _ _ _ _ _ _).trans (K3_s k1)) ((g_3_3 ((sh_uF _ _ _ _ _ _).trans (K3_s k1))).trans (congrArg (fun z => Value.int (mI z)) (fZ_uF_nk (K3_s k1) (okf_3_4 _) (by decide)))) (isV_I _) rfl).trans ?_
  refine (tq_iconst i_X3_receive_51 rfl).trans ?_
  refine (tq_iadd i_X3_receive_52 rfl).trans ?_
  refine (tq_putfield i_X3_receive_53 ((sh_uF _ _ _ _ _ _).trans (K3_s k1)) (okf_3_3 _) rfl).trans ?_
  refine (tq_aload_n i_X3_receive_56 rfl (isA_ref _) rfl).trans ?_
  refine (tq_dup i_X3_receive_57 rfl rfl).trans ?_
  refine (tq_getfield i_X3_receive_58 ((sh_uF _ _ _ _ _ _).trans ((sh_uF _ _ _ _ _ _).trans (K3_s k1))) ((g_3_10 ((sh_uF _ _ _ _ _ _).trans ((sh_uF _ _ _ _ _ _).trans (K3_s k1)))).trans (congrArg (fun z => Value.int (mI z)) ((fZ_uF_nk ((sh_uF _ _ _ _ _ _).trans (K3_s k1)) (okf_3_3 _) (by decide)).trans (fZ_uF_nk (K3_s k1) (okf_3_4 _) (by decide))))) (isV_I _) rfl).trans ?_
  refine (tq_iconst i_X3_receive_61 rfl).trans ?_
  refine (tq_iadd i_X3_receive_62 rfl).trans ?_
  refine (tq_putfield i_X3_receive_63 ((sh_uF _ _ _ _ _ _).trans ((sh_uF _ _ _ _ _ _).trans (K3_s k1))) (okf_3_10 _) rfl).trans ?_
  refine (tq_aload_n i_X3_receive_66 rfl (isA_ref _) rfl).trans ?_
  refine (tq_dup i_X3_receive_67 rfl rfl).trans ?_
  refine (tq_getfield i_X3_receive_68 ((sh_uF _ _ _ _ _ _).trans ((sh_uF _ _ _ _ _ _).trans ((sh_uF _ _ _ _ _ _).trans (K3_s k1)))) ((g_3_11 ((sh_uF _ _ _ _ _ _).trans ((sh_uF _ _ _ _ _ _).trans ((sh_uF _ _ _ _ _ _).trans (K3_s k1))))).trans (congrArg (fun z => Value.int (mI z)) ((fZ_uF_nk ((sh_uF _ _ _ _ _ _).trans ((sh_uF _ _ _ _ _ _).trans (K3_s k1))) (okf_3_10 _) (by decide)).trans ((fZ_uF_nk ((sh_uF _ _ _ _ _ _).trans (K3_s k1)) (okf_3_3 _) (by decide)).trans (fZ_uF_nk (K3_s k1) (okf_3_4 _) (by decide)))))) (isV_I _) rfl).trans ?_
  refine (tq_aload_n i_X3_receive_71 rfl (isA_ref _) rfl).trans ?_
  refine (tq_getfield i_X3_receive_72 ((sh_uF _ _ _ _ _ _).trans ((sh_uF _ _ _ _ _ _).trans ((sh_uF _ _ _ _ _ _).trans (K3_s k1)))) ((g_3_5 ((sh_uF _ _ _ _ _ _).trans ((sh_uF _ _ _ _ _ _).trans ((sh_uF _ _ _ _ _ _).trans (K3_s k1))))).trans (congrArg (fun z => Value.int (mI z)) ((fZ_uF_nk ((sh_uF _ _ _ _ _ _).trans ((sh_uF _ _ _ _ _ _).trans (K3_s k1))) (okf_3_10 _) (by decide)).trans ((fZ_uF_nk ((sh_uF _ _ _ _ _ _).trans (K3_s k1)) (okf_3_3 _) (by decide)).trans (fZ_uF_nk (K3_s k1) (okf_3_4 _) (by decide)))))) (isV_I _) rfl).trans ?_
  refine (tq_if_eq (pt := 82) i_X3_receive_75 (wr_fZ _ _ _) (by decide) rfl).trans ?_
  refine Eq.trans (b := if (fZ h a0 5) = 0 then rn m_X3_receive 83 [.ref a0, .ref a1, v2] [.int (mI 0), .int (mI (fZ h a0 11)), .ref a0] (uF 3 (uF 3 (uF 3 h a0 4 (.int (mI (fZ h a0 3)))) a0 3 (.int (mI ((fZ h a0 3) + 1)))) a0 10 (.int (mI ((fZ h a0 10) + 1)))) else rn m_X3_receive 83 [.ref a0, .ref a1, v2] [.int (mI 1), .int (mI (fZ h a0 11)), .ref a0] (uF 3 (uF 3 (uF 3 h a0 4 (.int (mI (fZ h a0 3)))) a0 3 (.int (mI ((fZ h a0 3) + 1)))) a0 10 (.int (mI ((fZ h a0 10) + 1))))) (ite_congr rfl (fun c1 => ?_) (fun c1 => ?_)) ?_
  · refine (tq_iconst i_X3_receive_82 rfl).trans ?_
    rfl
  · refine (tq_iconst i_X3_receive_78 rfl).trans ?_
    refine (tq_goto (pc' := 83) i_X3_receive_79 (by decide)).trans ?_
    rfl
  refine Eq.trans ite_b01 ?_
  refine (tq_iadd i_X3_receive_83 rfl).trans ?_
  refine (tq_putfield i_X3_receive_84 ((sh_uF _ _ _ _ _ _).trans ((sh_uF _ _ _ _ _ _).trans ((sh_uF _ _ _ _ _ _).trans (K3_s k1)))) (okf_3_11 _) rfl).trans ?_
  refine (tq_aload_n i_X3_receive_87 rfl (isA_ref _) rfl).trans ?_
  refine (tq_getfield i_X3_receive_88 ((sh_uF _ _ _ _ _ _).trans ((sh_uF _ _ _ _ _ _).trans ((sh_uF _ _ _ _ _ _).trans ((sh_uF _ _ _ _ _ _).trans (K6_s k2))))) ((g_6_6 ((sh_uF _ _ _ _ _ _).trans ((sh_uF _ _ _ _ _ _).trans ((sh_uF _ _ _ _ _ _).trans ((sh_uF _ _ _ _ _ _).trans (K6_s k2)))))).trans (congrArg (fun z => Value.int (mI z)) ((fZ_uF_nk ((sh_uF _ _ _ _ _ _).trans ((sh_uF _ _ _ _ _ _).trans ((sh_uF _ _ _ _ _ _).trans (K3_s k1)))) (okf_3_11 _) (by decide)).trans ((fZ_uF_nk ((sh_uF _ _ _ _ _ _).trans ((sh_uF _ _ _ _ _ _).trans (K3_s k1))) (okf_3_10 _) (by decide)).trans ((fZ_uF_nk ((sh_uF _ _ _ _ _ _).trans (K3_s k1)) (okf_3_3 _) (by decide)).trans (fZ_uF_nk (K3_s k1) (okf_3_4 _) (by decide))))))) (isV_I _) rfl).trans ?_
  refine (tq_if_eq (pt := 98) i_X3_receive_91 (wr_fZ _ _ _) (by decide) rfl).trans ?_
  refine ite_congr rfl (fun c2 => ?_) (fun c2 => ?_)
  · rfl
  · refine (tq_aload_n i_X3_receive_94 rfl (isA_ref _) rfl).trans ?_
    exact c_X3_keep i_X3_receive_95 ((sh_uF _ _ _ _ _ _).trans ((sh_uF _ _ _ _ _ _).trans ((sh_uF _ _ _ _ _ _).trans ((sh_uF _ _ _ _ _ _).trans (K3_s k1))))) (ltd d_X3_receive (by decide)) stOk_0 rfl
theorem i_X3_receive_98 : am_i m_X3_receive 98 = some (98, .return_, 1, [], 0) := rfl
theorem b_X3_receive_98 {v0 v1 v2 : Value} {h : am_H} : rn m_X3_receive 98 [v0, v1, v2] [] h = some (.inl none, h) := by
  exact tq_return i_X3_receive_98 r_X3_receive
theorem rcv_clean {h : am_H} {A P : Nat} {kd lost c1 c2 : Int} (kA : K3 h A) (kP : K6 h P) (hl : 0 ≤ lost ∧ lost ≤ 3) (e0 : fZ h P 0 = kd) (r1 : kd ≠ 105 → 0 ≤ fZ h P 1 ∧ fZ h P 1 < 3) (r2 : kd = 98 → 0 ≤ fZ h P 2 ∧ fZ h P 2 < 3) (hc1 : kd ≠ 105 → c1 = gZ h (A + 14) (fZ h P 1)) (hc2 : kd = 98 → c2 = gZ h (A + 14) (fZ h P 2)) : ∃ h3, rn m_X3_receive 6 [.ref A, .ref P, .int (mI lost)] [] h = rn m_X3_receive 38 [.ref A, .ref P, .int (mI lost)] [] h3 ∧ Md (fun c k => (c = A ∧ k = 5) ∨ c = A + 12) h h3 ∧ fZ h3 A 5 = clnv kd lost c1 c2 ∧ ∀ i, 0 ≤ i → i < 256 → gZ h3 (A + 12) i = gZ h (A + 11) i := by
  have st := b_X3_receive_6 (a0 := A) (a1 := P) (h := h) (wr_id (z := lost) (by omega) (by omega)) kA
  have fin : ∀ v : Int, (v = 0 ∨ v = 1) → ∃ h3, cl m_X3_receive 38 [.ref A, .ref P, .int (mI lost)] [] (rn m_X7_copy 0 [.ref (A + 11), .ref (A + 12), am_J] [] (uF 3 h A 5 (.int (mI v)))) = rn m_X3_receive 38 [.ref A, .ref P, .int (mI lost)] [] h3 ∧ Md (fun c k => (c = A ∧ k = 5) ∨ c = A + 12) h h3 ∧ fZ h3 A 5 = v ∧ ∀ i, 0 ≤ i → i < 256 → gZ h3 (A + 12) i = gZ h (A + 11) i := by
    intro v hv
    have mA : Md (fun c k => c = A ∧ k = 5) h (uF 3 h A 5 (.int (mI v))) := Md_uF (Sm_uF_3_5 _ _ _)
    have wv : wr v = v := wr_id (by omega) (by omega)
    have f5 : fZ (uF 3 h A 5 (.int (mI v))) A 5 = v := by rw [fZ_uF_eq (K3_s kA) (okfB_3_5 wv hv), wv]
    generalize uF 3 h A 5 (.int (mI v)) = hA at *
    have k1 := K3_sm mA.1 kA
    obtain ⟨h2, e2, m2, g2, -⟩ := copy_md (K3_s2 k1) (K3_n2 k1) (K3_s6 k1) (K3_n6 k1) (by omega)
    rw [e2, cl_n]
    have c2 : ((min 256 256 : Nat) : Int) = 256 := by decide
    refine ⟨h2, rfl, Md_tr (Md_mono mA fun c k g => by omega) (Md_mono m2 fun c k g => by omega), ?_, fun i i0 i1 => ?_⟩
    · rw [md_fZ m2 (by omega), f5]
    · rw [g2 i i0 (by omega), md_gZ mA (by omega)]
  by_cases c : lost = 0
  · rw [if_neg (fun g => g c), lOC_ok kA kP e0 r1 r2 hc1 hc2, cl_v] at st
    have v01 := clnv_01 kd 0 c1 c2
    have st2 := b_X3_receive_16 (a0 := A) (a1 := P) (as1 := A) (v2 := .int (mI lost)) (xs0 := clnv kd 0 c1 c2) (h := h) (wr_id (by omega) (by omega)) kA kA
    have e : bZ (¬ (clnv kd 0 c1 c2 = 0)) = clnv kd lost c1 c2 := by
      rw [c]
      rcases v01 with e | e
      · rw [e]; rfl
      · rw [e]; rfl
    rw [e] at st2
    obtain ⟨h3, e3, r⟩ := fin _ (clnv_01 kd lost c1 c2)
    exact ⟨h3, st.trans (st2.trans e3), r⟩
  · rw [if_pos c] at st
    obtain ⟨h3, e3, r1, r2, r3⟩ := fin 0 (Or.inl rfl)
    refine ⟨h3, st.trans e3, r1, ?_, r3⟩
    rw [r2]
    unfold clnv
    rw [if_neg fun g => c g.1]
