/-! ===== the model keeps a picture, on ===== -/
theorem gA_uA2 {h : am_H} {a : Nat} (q : (sh h a).1 = 4) (i j : Int) (r : Option Nat) : gA (uA h a i r) a j = if j = i then r else gA h a j := by
  by_cases e : j = i
  · rw [if_pos e, gA_uA_eq _ q e]
  · rw [if_neg e, gA_uA_nj _ q e]
theorem gJ_uJ2 {h : am_H} {a : Nat} (q : (sh h a).1 = 2) (i j v : Int) : gJ (uJ h a i v) a j = if j = i then wl v else gJ h a j := by
  by_cases e : j = i
  · rw [if_pos e, gJ_uJ_eq _ q e]
  · rw [if_neg e, gJ_uJ_nj _ q e]
section MK2
variable {σ : St} {h h' : am_H} {D : Nat} {c : Int}
theorem kz_ok (s : ∀ a, 53 ≤ a → a ≤ 60 → (sh h a).1 = 1) {n z0 z1 z2 z3 z4 z5 z6 z7 : Int} : ∃ hZ, hZ = uZ (uZ (uZ (uZ (uZ (uZ (uZ (uZ h 53 n z0) 54 n z1) 55 n z2) 56 n z3) 57 n z4) 58 n z5) 59 n z6) 60 n z7 ∧ Md (fun a _ => 53 ≤ a ∧ a ≤ 60) h hZ ∧ (∀ i, gZ hZ 53 i = if i = n then wr z0 else gZ h 53 i) ∧ (∀ i, gZ hZ 54 i = if i = n then wr z1 else gZ h 54 i) ∧ (∀ i, gZ hZ 55 i = if i = n then wr z2 else gZ h 55 i) ∧ (∀ i, gZ hZ 56 i = if i = n then wr z3 else gZ h 56 i) ∧ (∀ i, gZ hZ 57 i = if i = n then wr z4 else gZ h 57 i) ∧ (∀ i, gZ hZ 58 i = if i = n then wr z5 else gZ h 58 i) ∧ (∀ i, gZ hZ 59 i = if i = n then wr z6 else gZ h 59 i) ∧ (∀ i, gZ hZ 60 i = if i = n then wr z7 else gZ h 60 i) := by
  refine ⟨_, rfl, ?_, fun i => ?_, fun i => ?_, fun i => ?_, fun i => ?_, fun i => ?_, fun i => ?_, fun i => ?_, fun i => ?_⟩
  · exact (Md_tr (Md_mono (Md_uZ _ _ _ _) fun a _ q => by omega) (Md_tr (Md_mono (Md_uZ _ _ _ _) fun a _ q => by omega) (Md_tr (Md_mono (Md_uZ _ _ _ _) fun a _ q => by omega) (Md_tr (Md_mono (Md_uZ _ _ _ _) fun a _ q => by omega) (Md_tr (Md_mono (Md_uZ _ _ _ _) fun a _ q => by omega) (Md_tr (Md_mono (Md_uZ _ _ _ _) fun a _ q => by omega) (Md_tr (Md_mono (Md_uZ _ _ _ _) fun a _ q => by omega) (Md_mono (Md_uZ _ _ _ _) fun a _ q => by omega))))))))
  · rw [gZ_uZ_ne _ _ (by decide), gZ_uZ_ne _ _ (by decide), gZ_uZ_ne _ _ (by decide), gZ_uZ_ne _ _ (by decide), gZ_uZ_ne _ _ (by decide), gZ_uZ_ne _ _ (by decide), gZ_uZ_ne _ _ (by decide), gZ_uZ' (s _ (by decide) (by decide))]
  · rw [gZ_uZ_ne _ _ (by decide), gZ_uZ_ne _ _ (by decide), gZ_uZ_ne _ _ (by decide), gZ_uZ_ne _ _ (by decide), gZ_uZ_ne _ _ (by decide), gZ_uZ_ne _ _ (by decide), gZ_uZ' (by simp only [sh_uZ]; exact s _ (by decide) (by decide))]
    rw [gZ_uZ_ne _ _ (by decide)]
  · rw [gZ_uZ_ne _ _ (by decide), gZ_uZ_ne _ _ (by decide), gZ_uZ_ne _ _ (by decide), gZ_uZ_ne _ _ (by decide), gZ_uZ_ne _ _ (by decide), gZ_uZ' (by simp only [sh_uZ]; exact s _ (by decide) (by decide))]
    rw [gZ_uZ_ne _ _ (by decide), gZ_uZ_ne _ _ (by decide)]
  · rw [gZ_uZ_ne _ _ (by decide), gZ_uZ_ne _ _ (by decide), gZ_uZ_ne _ _ (by decide), gZ_uZ_ne _ _ (by decide), gZ_uZ' (by simp only [sh_uZ]; exact s _ (by decide) (by decide))]
    rw [gZ_uZ_ne _ _ (by decide), gZ_uZ_ne _ _ (by decide), gZ_uZ_ne _ _ (by decide)]
  · rw [gZ_uZ_ne _ _ (by decide), gZ_uZ_ne _ _ (by decide), gZ_uZ_ne _ _ (by decide), gZ_uZ' (by simp only [sh_uZ]; exact s _ (by decide) (by decide))]
    rw [gZ_uZ_ne _ _ (by decide), gZ_uZ_ne _ _ (by decide), gZ_uZ_ne _ _ (by decide), gZ_uZ_ne _ _ (by decide)]
  · rw [gZ_uZ_ne _ _ (by decide), gZ_uZ_ne _ _ (by decide), gZ_uZ' (by simp only [sh_uZ]; exact s _ (by decide) (by decide))]
    rw [gZ_uZ_ne _ _ (by decide), gZ_uZ_ne _ _ (by decide), gZ_uZ_ne _ _ (by decide), gZ_uZ_ne _ _ (by decide), gZ_uZ_ne _ _ (by decide)]
  · rw [gZ_uZ_ne _ _ (by decide), gZ_uZ' (by simp only [sh_uZ]; exact s _ (by decide) (by decide))]
    rw [gZ_uZ_ne _ _ (by decide), gZ_uZ_ne _ _ (by decide), gZ_uZ_ne _ _ (by decide), gZ_uZ_ne _ _ (by decide), gZ_uZ_ne _ _ (by decide), gZ_uZ_ne _ _ (by decide)]
  · rw [gZ_uZ' (by simp only [sh_uZ]; exact s _ (by decide) (by decide))]
    rw [gZ_uZ_ne _ _ (by decide), gZ_uZ_ne _ _ (by decide), gZ_uZ_ne _ _ (by decide), gZ_uZ_ne _ _ (by decide), gZ_uZ_ne _ _ (by decide), gZ_uZ_ne _ _ (by decide), gZ_uZ_ne _ _ (by decide)]
theorem ka_ok (sJ : (sh h 61).1 = 2) (s : ∀ a, 62 ≤ a → a ≤ 67 → (sh h a).1 = 4) {n er m1 m2 : Int} {a0 a1 a2 a3 a4 a5 : Nat} {r3 : Option Nat} (ne : m2 ≠ m1) : ∃ hA, hA = uA (uA (uA (uA (uA (uA (uA (uJ h 61 n er) 62 n (some a0)) 63 n (some a1)) 65 n (some a2)) 66 n (some a3)) 67 n (some a4)) 64 m1 (some a5)) 64 m2 r3 ∧ Md (fun a _ => 61 ≤ a ∧ a ≤ 67) h hA ∧ (∀ i, gJ hA 61 i = if i = n then wl er else gJ h 61 i) ∧ (∀ i, gA hA 62 i = if i = n then some a0 else gA h 62 i) ∧ (∀ i, gA hA 63 i = if i = n then some a1 else gA h 63 i) ∧ (∀ i, gA hA 65 i = if i = n then some a2 else gA h 65 i) ∧ (∀ i, gA hA 66 i = if i = n then some a3 else gA h 66 i) ∧ (∀ i, gA hA 67 i = if i = n then some a4 else gA h 67 i) ∧ (∀ i, gA hA 64 i = if i = m2 then r3 else if i = m1 then some a5 else gA h 64 i) := by
  refine ⟨_, rfl, ?_, fun i => ?_, fun i => ?_, fun i => ?_, fun i => ?_, fun i => ?_, fun i => ?_, fun i => ?_⟩
  · exact (Md_tr (Md_mono (Md_uJ _ _ _ _) fun a _ q => by omega) (Md_tr (Md_mono (Md_uA _ _ _ _) fun a _ q => by omega) (Md_tr (Md_mono (Md_uA _ _ _ _) fun a _ q => by omega) (Md_tr (Md_mono (Md_uA _ _ _ _) fun a _ q => by omega) (Md_tr (Md_mono (Md_uA _ _ _ _) fun a _ q => by omega) (Md_tr (Md_mono (Md_uA _ _ _ _) fun a _ q => by omega) (Md_tr (Md_mono (Md_uA _ _ _ _) fun a _ q => by omega) (Md_mono (Md_uA _ _ _ _) fun a _ q => by omega))))))))
  · rw [gJ_uA, gJ_uA, gJ_uA, gJ_uA, gJ_uA, gJ_uA, gJ_uA, gJ_uJ2 sJ]
  · rw [gA_uA_ne _ _ _ _ (by decide), gA_uA_ne _ _ _ _ (by decide), gA_uA_ne _ _ _ _ (by decide), gA_uA_ne _ _ _ _ (by decide), gA_uA_ne _ _ _ _ (by decide), gA_uA_ne _ _ _ _ (by decide), gA_uA2 (by simp only [sh_uA, sh_uJ]; exact s _ (by decide) (by decide))]
    rw [gA_uJ]
  · rw [gA_uA_ne _ _ _ _ (by decide), gA_uA_ne _ _ _ _ (by decide), gA_uA_ne _ _ _ _ (by decide), gA_uA_ne _ _ _ _ (by decide), gA_uA_ne _ _ _ _ (by decide), gA_uA2 (by simp only [sh_uA, sh_uJ]; exact s _ (by decide) (by decide))]
    rw [gA_uA_ne _ _ _ _ (by decide), gA_uJ]
  · rw [gA_uA_ne _ _ _ _ (by decide), gA_uA_ne _ _ _ _ (by decide), gA_uA_ne _ _ _ _ (by decide), gA_uA_ne _ _ _ _ (by decide), gA_uA2 (by simp only [sh_uA, sh_uJ]; exact s _ (by decide) (by decide))]
    rw [gA_uA_ne _ _ _ _ (by decide), gA_uA_ne _ _ _ _ (by decide), gA_uJ]
  · rw [gA_uA_ne _ _ _ _ (by decide), gA_uA_ne _ _ _ _ (by decide), gA_uA_ne _ _ _ _ (by decide), gA_uA2 (by simp only [sh_uA, sh_uJ]; exact s _ (by decide) (by decide))]
    rw [gA_uA_ne _ _ _ _ (by decide), gA_uA_ne _ _ _ _ (by decide), gA_uA_ne _ _ _ _ (by decide), gA_uJ]
  · rw [gA_uA_ne _ _ _ _ (by decide), gA_uA_ne _ _ _ _ (by decide), gA_uA2 (by simp only [sh_uA, sh_uJ]; exact s _ (by decide) (by decide))]
    rw [gA_uA_ne _ _ _ _ (by decide), gA_uA_ne _ _ _ _ (by decide), gA_uA_ne _ _ _ _ (by decide), gA_uA_ne _ _ _ _ (by decide), gA_uJ]
  · rw [gA_uA2 (by simp only [sh_uA, sh_uJ]; exact s _ (by decide) (by decide)), gA_uA2 (by simp only [sh_uA, sh_uJ]; exact s _ (by decide) (by decide)), gA_uA_ne _ _ _ _ (by decide), gA_uA_ne _ _ _ _ (by decide), gA_uA_ne _ _ _ _ (by decide), gA_uA_ne _ _ _ _ (by decide), gA_uA_ne _ _ _ _ (by decide), gA_uJ]
theorem i_X12_keeps_0 : am_i m_X12_keeps 0 = some (0, .aload_n 0, 1, [], 0) := rfl
theorem i_X12_keeps_1 : am_i m_X12_keeps 1 = some (1, .getfield 39, 3, [10, 10, 0], 0) := rfl
theorem i_X12_keeps_4 : am_i m_X12_keeps 4 = some (4, .aload_n 0, 1, [], 0) := rfl
theorem i_X12_keeps_5 : am_i m_X12_keeps 5 = some (5, .getfield 305, 3, [10, 9, 0], 0) := rfl
theorem i_X12_keeps_8 : am_i m_X12_keeps 8 = some (8, .aload_n 0, 1, [], 0) := rfl
theorem i_X12_keeps_9 : am_i m_X12_keeps 9 = some (9, .getfield 189, 3, [10, 33, 0], 0) := rfl
theorem i_X12_keeps_12 : am_i m_X12_keeps 12 = some (12, .castore, 1, [], 0) := rfl
theorem i_X12_keeps_13 : am_i m_X12_keeps 13 = some (13, .aload_n 0, 1, [], 0) := rfl
theorem i_X12_keeps_14 : am_i m_X12_keeps 14 = some (14, .getfield 43, 3, [10, 11, 0], 0) := rfl
theorem i_X12_keeps_17 : am_i m_X12_keeps 17 = some (17, .aload_n 0, 1, [], 0) := rfl
theorem i_X12_keeps_18 : am_i m_X12_keeps 18 = some (18, .getfield 305, 3, [10, 9, 0], 0) := rfl
theorem i_X12_keeps_21 : am_i m_X12_keeps 21 = some (21, .aload_n 0, 1, [], 0) := rfl
theorem i_X12_keeps_22 : am_i m_X12_keeps 22 = some (22, .getfield 22, 3, [10, 2, 0], 0) := rfl
theorem i_X12_keeps_25 : am_i m_X12_keeps 25 = some (25, .iastore, 1, [], 0) := rfl
theorem i_X12_keeps_26 : am_i m_X12_keeps 26 = some (26, .aload_n 0, 1, [], 0) := rfl
theorem i_X12_keeps_27 : am_i m_X12_keeps 27 = some (27, .getfield 46, 3, [10, 12, 0], 0) := rfl
theorem i_X12_keeps_30 : am_i m_X12_keeps 30 = some (30, .aload_n 0, 1, [], 0) := rfl
theorem i_X12_keeps_31 : am_i m_X12_keeps 31 = some (31, .getfield 305, 3, [10, 9, 0], 0) := rfl
theorem i_X12_keeps_34 : am_i m_X12_keeps 34 = some (34, .aload_n 0, 1, [], 0) := rfl
theorem i_X12_keeps_35 : am_i m_X12_keeps 35 = some (35, .getfield 26, 3, [10, 3, 0], 0) := rfl
theorem i_X12_keeps_38 : am_i m_X12_keeps 38 = some (38, .iastore, 1, [], 0) := rfl
theorem i_X12_keeps_39 : am_i m_X12_keeps 39 = some (39, .aload_n 0, 1, [], 0) := rfl
theorem i_X12_keeps_40 : am_i m_X12_keeps 40 = some (40, .getfield 49, 3, [10, 13, 0], 0) := rfl
theorem i_X12_keeps_43 : am_i m_X12_keeps 43 = some (43, .aload_n 0, 1, [], 0) := rfl
theorem i_X12_keeps_44 : am_i m_X12_keeps 44 = some (44, .getfield 305, 3, [10, 9, 0], 0) := rfl
theorem i_X12_keeps_47 : am_i m_X12_keeps 47 = some (47, .aload_n 0, 1, [], 0) := rfl
theorem i_X12_keeps_48 : am_i m_X12_keeps 48 = some (48, .getfield 29, 3, [10, 4, 0], 0) := rfl
theorem i_X12_keeps_51 : am_i m_X12_keeps 51 = some (51, .iastore, 1, [], 0) := rfl
theorem i_X12_keeps_52 : am_i m_X12_keeps 52 = some (52, .aload_n 0, 1, [], 0) := rfl
theorem i_X12_keeps_53 : am_i m_X12_keeps 53 = some (53, .getfield 52, 3, [10, 14, 0], 0) := rfl
theorem i_X12_keeps_56 : am_i m_X12_keeps 56 = some (56, .aload_n 0, 1, [], 0) := rfl
theorem i_X12_keeps_57 : am_i m_X12_keeps 57 = some (57, .getfield 305, 3, [10, 9, 0], 0) := rfl
theorem i_X12_keeps_60 : am_i m_X12_keeps 60 = some (60, .aload_n 0, 1, [], 0) := rfl
theorem i_X12_keeps_61 : am_i m_X12_keeps 61 = some (61, .getfield 32, 3, [10, 5, 0], 0) := rfl
theorem i_X12_keeps_64 : am_i m_X12_keeps 64 = some (64, .bastore, 1, [], 0) := rfl
theorem i_X12_keeps_65 : am_i m_X12_keeps 65 = some (65, .aload_n 0, 1, [], 0) := rfl
theorem i_X12_keeps_66 : am_i m_X12_keeps 66 = some (66, .getfield 56, 3, [10, 15, 0], 0) := rfl
theorem i_X12_keeps_69 : am_i m_X12_keeps 69 = some (69, .aload_n 0, 1, [], 0) := rfl
theorem i_X12_keeps_70 : am_i m_X12_keeps 70 = some (70, .getfield 305, 3, [10, 9, 0], 0) := rfl
theorem i_X12_keeps_73 : am_i m_X12_keeps 73 = some (73, .iload 5, 2, [], 0) := rfl
theorem i_X12_keeps_75 : am_i m_X12_keeps 75 = some (75, .iastore, 1, [], 0) := rfl
theorem i_X12_keeps_76 : am_i m_X12_keeps 76 = some (76, .aload_n 0, 1, [], 0) := rfl
theorem i_X12_keeps_77 : am_i m_X12_keeps 77 = some (77, .getfield 59, 3, [10, 16, 0], 0) := rfl
theorem i_X12_keeps_80 : am_i m_X12_keeps 80 = some (80, .aload_n 0, 1, [], 0) := rfl
theorem i_X12_keeps_81 : am_i m_X12_keeps 81 = some (81, .getfield 305, 3, [10, 9, 0], 0) := rfl
theorem i_X12_keeps_84 : am_i m_X12_keeps 84 = some (84, .iload 6, 2, [], 0) := rfl
theorem i_X12_keeps_86 : am_i m_X12_keeps 86 = some (86, .iastore, 1, [], 0) := rfl
theorem i_X12_keeps_87 : am_i m_X12_keeps 87 = some (87, .aload_n 0, 1, [], 0) := rfl
theorem i_X12_keeps_88 : am_i m_X12_keeps 88 = some (88, .getfield 62, 3, [10, 17, 0], 0) := rfl
theorem i_X12_keeps_91 : am_i m_X12_keeps 91 = some (91, .aload_n 0, 1, [], 0) := rfl
theorem i_X12_keeps_92 : am_i m_X12_keeps 92 = some (92, .getfield 305, 3, [10, 9, 0], 0) := rfl
theorem i_X12_keeps_95 : am_i m_X12_keeps 95 = some (95, .iload 4, 2, [], 0) := rfl
theorem i_X12_keeps_97 : am_i m_X12_keeps 97 = some (97, .iastore, 1, [], 0) := rfl
theorem i_X12_keeps_98 : am_i m_X12_keeps 98 = some (98, .aload_n 0, 1, [], 0) := rfl
theorem i_X12_keeps_99 : am_i m_X12_keeps 99 = some (99, .getfield 65, 3, [10, 18, 0], 0) := rfl
theorem i_X12_keeps_102 : am_i m_X12_keeps 102 = some (102, .aload_n 0, 1, [], 0) := rfl
theorem i_X12_keeps_103 : am_i m_X12_keeps 103 = some (103, .getfield 305, 3, [10, 9, 0], 0) := rfl
theorem i_X12_keeps_106 : am_i m_X12_keeps 106 = some (106, .aload_n 0, 1, [], 0) := rfl
theorem i_X12_keeps_107 : am_i m_X12_keeps 107 = some (107, .invokevirtual 322, 3, [26, 10], 0) := rfl
theorem b_X12_keeps_0 {a0 a1 a2 : Nat} {r3 : Option Nat} {x4 x5 x6 : Int} {h : am_H} (k1 : K10 h a0) (g2 : 0 ≤ fZ h a0 9 ∧ fZ h a0 9 < (12 : Int)) (g3 : 0 ≤ fZ h a0 33 ∧ fZ h a0 33 ≤ 65535) : rn m_X12_keeps 0 [.ref a0, .ref a1, .ref a2, am_rv r3, .int (mI x4), .int (mI x5), .int (mI x6)] [] h = cl m_X12_keeps 110 [.ref a0, .ref a1, .ref a2, am_rv r3, .int (mI x4), .int (mI x5), .int (mI x6)] [.int (mI (fZ h a0 9)), .ref (a0 + 10)] (rn m_X12_errorNow 0 [.ref a0, am_J, am_J, am_J, am_J, am_J] [] (uZ (uZ (uZ (uZ (uZ (uZ (uZ (uZ h (a0 + 2) (fZ h a0 9) (fZ h a0 33)) (a0 + 3) (fZ h a0 9) (fZ h a0 2)) (a0 + 4) (fZ h a0 9) (fZ h a0 3)) (a0 + 5) (fZ h a0 9) (fZ h a0 4)) (a0 + 6) (fZ h a0 9) (fZ h a0 5)) (a0 + 7) (fZ h a0 9) x5) (a0 + 8) (fZ h a0 9) x6) (a0 + 9) (fZ h a0 9) x4)) := by
  refine (tq_aload_n i_X12_keeps_0 rfl (isA_ref _) rfl).trans ?_
  refine (tq_getfield i_X12_keeps_1 (K10_s k1) (gR (g_10_10 (K10_s k1)) (K10_e10 k1)) (isV_ref _) rfl).trans ?_
  refine (tq_aload_n i_X12_keeps_4 rfl (isA_ref _) rfl).trans ?_
  refine (tq_getfield i_X12_keeps_5 (K10_s k1) (g_10_9 (K10_s k1)) (isV_I _) rfl).trans ?_
  refine (tq_aload_n i_X12_keeps_8 rfl (isA_ref _) rfl).trans ?_
  refine (tq_getfield i_X12_keeps_9 (K10_s k1) (g_10_33 (K10_s k1)) (isV_I _) rfl).trans ?_
  refine (tq_castore i_X12_keeps_12 (K10_s10 k1) (okC (wr_fZ _ _ _) g3) (wr_fZ _ _ _) g2.1 (lt_gn (K10_n10 k1) g2.2) rfl).trans ?_
  refine (tq_aload_n i_X12_keeps_13 rfl (isA_ref _) rfl).trans ?_
  refine (tq_getfield i_X12_keeps_14 ((sh_uZ _ _ _ _ _).trans (K10_s k1)) (gR ((g_10_11 ((sh_uZ _ _ _ _ _).trans (K10_s k1))).trans (congrArg am_rv (fA_uZ _ _ _ _ _ _))) (K10_e11 k1)) (isV_ref _) rfl).trans ?_
  refine (tq_aload_n i_X12_keeps_17 rfl (isA_ref _) rfl).trans ?_
  refine (tq_getfield i_X12_keeps_18 ((sh_uZ _ _ _ _ _).trans (K10_s k1)) ((g_10_9 ((sh_uZ _ _ _ _ _).trans (K10_s k1))).trans (congrArg (fun z => Value.int (mI z)) (fZ_uZ _ _ _ _ _ _))) (isV_I _) rfl).trans ?_
  refine (tq_aload_n i_X12_keeps_21 rfl (isA_ref _) rfl).trans ?_
  refine (tq_getfield i_X12_keeps_22 ((sh_uZ _ _ _ _ _).trans (K10_s k1)) ((g_10_2 ((sh_uZ _ _ _ _ _).trans (K10_s k1))).trans (congrArg (fun z => Value.int (mI z)) (fZ_uZ _ _ _ _ _ _))) (isV_I _) rfl).trans ?_
  refine (tq_iastore i_X12_keeps_25 ((sh_uZ _ _ _ _ _).trans (K10_s11 k1)) (wr_fZ _ _ _) g2.1 (lt_gn ((gn_uZ _ _ _ _ _).trans (K10_n11 k1)) g2.2) rfl).trans ?_
  refine (tq_aload_n i_X12_keeps_26 rfl (isA_ref _) rfl).trans ?_
  refine (tq_getfield i_X12_keeps_27 ((sh_uZ _ _ _ _ _).trans ((sh_uZ _ _ _ _ _).trans (K10_s k1))) (gR ((g_10_12 ((sh_uZ _ _ _ _ _).trans ((sh_uZ _ _ _ _ _).trans (K10_s k1)))).trans (congrArg am_rv ((fA_uZ _ _ _ _ _ _).trans (fA_uZ _ _ _ _ _ _)))) (K10_e12 k1)) (isV_ref _) rfl).trans ?_
  refine (tq_aload_n i_X12_keeps_30 rfl (isA_ref _) rfl).trans ?_
  refine (tq_getfield i_X12_keeps_31 ((sh_uZ _ _ _ _ _).trans ((sh_uZ _ _ _ _ _).trans (K10_s k1))) ((g_10_9 ((sh_uZ _ _ _ _ _).trans ((sh_uZ _ _ _ _ _).trans (K10_s k1)))).trans (congrArg (fun z => Value.int (mI z)) ((fZ_uZ _ _ _ _ _ _).trans (fZ_uZ _ _ _ _ _ _)))) (isV_I _) rfl).trans ?_
  refine (tq_aload_n i_X12_keeps_34 rfl (isA_ref _) rfl).trans ?_
  refine (tq_getfield i_X12_keeps_35 ((sh_uZ _ _ _ _ _).trans ((sh_uZ _ _ _ _ _).trans (K10_s k1))) ((g_10_3 ((sh_uZ _ _ _ _ _).trans ((sh_uZ _ _ _ _ _).trans (K10_s k1)))).trans (congrArg (fun z => Value.int (mI z)) ((fZ_uZ _ _ _ _ _ _).trans (fZ_uZ _ _ _ _ _ _)))) (isV_I _) rfl).trans ?_
  refine (tq_iastore i_X12_keeps_38 ((sh_uZ _ _ _ _ _).trans ((sh_uZ _ _ _ _ _).trans (K10_s12 k1))) (wr_fZ _ _ _) g2.1 (lt_gn ((gn_uZ _ _ _ _ _).trans ((gn_uZ _ _ _ _ _).trans (K10_n12 k1))) g2.2) rfl).trans ?_
  refine (tq_aload_n i_X12_keeps_39 rfl (isA_ref _) rfl).trans ?_
  refine (tq_getfield i_X12_keeps_40 ((sh_uZ _ _ _ _ _).trans ((sh_uZ _ _ _ _ _).trans ((sh_uZ _ _ _ _ _).trans (K10_s k1)))) (gR ((g_10_13 ((sh_uZ _ _ _ _ _).trans ((sh_uZ _ _ _ _ _).trans ((sh_uZ _ _ _ _ _).trans (K10_s k1))))).trans (congrArg am_rv ((fA_uZ _ _ _ _ _ _).trans ((fA_uZ _ _ _ _ _ _).trans (fA_uZ _ _ _ _ _ _))))) (K10_e13 k1)) (isV_ref _) rfl).trans ?_
  refine (tq_aload_n i_X12_keeps_43 rfl (isA_ref _) rfl).trans ?_
  refine (tq_getfield i_X12_keeps_44 ((sh_uZ _ _ _ _ _).trans ((sh_uZ _ _ _ _ _).trans ((sh_uZ _ _ _ _ _).trans (K10_s k1)))) ((g_10_9 ((sh_uZ _ _ _ _ _).trans ((sh_uZ _ _ _ _ _).trans ((sh_uZ _ _ _ _ _).trans (K10_s k1))))).trans (congrArg (fun z => Value.int (mI z)) ((fZ_uZ _ _ _ _ _ _).trans ((fZ_uZ _ _ _ _ _ _).trans (fZ_uZ _ _ _ _ _ _))))) (isV_I _) rfl).trans ?_
  refine (tq_aload_n i_X12_keeps_47 rfl (isA_ref _) rfl).trans ?_
  refine (tq_getfield i_X12_keeps_48 ((sh_uZ _ _ _ _ _).trans ((sh_uZ _ _ _ _ _).trans ((sh_uZ _ _ _ _ _).trans (K10_s k1)))) ((g_10_4 ((sh_uZ _ _ _ _ _).trans ((sh_uZ _ _ _ _ _).trans ((sh_uZ _ _ _ _ _).trans (K10_s k1))))).trans (congrArg (fun z => Value.int (mI z)) ((fZ_uZ _ _ _ _ _ _).trans ((fZ_uZ _ _ _ _ _ _).trans (fZ_uZ _ _ _ _ _ _))))) (isV_I _) rfl).trans ?_
  refine (tq_iastore i_X12_keeps_51 ((sh_uZ _ _ _ _ _).trans ((sh_uZ _ _ _ _ _).trans ((sh_uZ _ _ _ _ _).trans (K10_s13 k1)))) (wr_fZ _ _ _) g2.1 (lt_gn ((gn_uZ _ _ _ _ _).trans ((gn_uZ _ _ _ _ _).trans ((gn_uZ _ _ _ _ _).trans (K10_n13 k1)))) g2.2) rfl).trans ?_
  refine (tq_aload_n i_X12_keeps_52 rfl (isA_ref _) rfl).trans ?_
  refine (tq_getfield i_X12_keeps_53 ((sh_uZ _ _ _ _ _).trans ((sh_uZ _ _ _ _ _).trans ((sh_uZ _ _ _ _ _).trans ((sh_uZ _ _ _ _ _).trans (K10_s k1))))) (gR ((g_10_14 ((sh_uZ _ _ _ _ _).trans ((sh_uZ _ _ _ _ _).trans ((sh_uZ _ _ _ _ _).trans ((sh_uZ _ _ _ _ _).trans (K10_s k1)))))).trans (congrArg am_rv ((fA_uZ _ _ _ _ _ _).trans ((fA_uZ _ _ _ _ _ _).trans ((fA_uZ _ _ _ _ _ _).trans (fA_uZ _ _ _ _ _ _)))))) (K10_e14 k1)) (isV_ref _) rfl).trans ?_
  refine (tq_aload_n i_X12_keeps_56 rfl (isA_ref _) rfl).trans ?_
  refine (tq_getfield i_X12_keeps_57 ((sh_uZ _ _ _ _ _).trans ((sh_uZ _ _ _ _ _).trans ((sh_uZ _ _ _ _ _).trans ((sh_uZ _ _ _ _ _).trans (K10_s k1))))) ((g_10_9 ((sh_uZ _ _ _ _ _).trans ((sh_uZ _ _ _ _ _).trans ((sh_uZ _ _ _ _ _).trans ((sh_uZ _ _ _ _ _).trans (K10_s k1)))))).trans (congrArg (fun z => Value.int (mI z)) ((fZ_uZ _ _ _ _ _ _).trans ((fZ_uZ _ _ _ _ _ _).trans ((fZ_uZ _ _ _ _ _ _).trans (fZ_uZ _ _ _ _ _ _)))))) (isV_I _) rfl).trans ?_
  refine (tq_aload_n i_X12_keeps_60 rfl (isA_ref _) rfl).trans ?_
  refine (tq_getfield i_X12_keeps_61 ((sh_uZ _ _ _ _ _).trans ((sh_uZ _ _ _ _ _).trans ((sh_uZ _ _ _ _ _).trans ((sh_uZ _ _ _ _ _).trans (K10_s k1))))) ((g_10_5 ((sh_uZ _ _ _ _ _).trans ((sh_uZ _ _ _ _ _).trans ((sh_uZ _ _ _ _ _).trans ((sh_uZ _ _ _ _ _).trans (K10_s k1)))))).trans (congrArg (fun z => Value.int (mI z)) ((fZ_uZ _ _ _ _ _ _).trans ((fZ_uZ _ _ _ _ _ _).trans ((fZ_uZ _ _ _ _ _ _).trans (fZ_uZ _ _ _ _ _ _)))))) (isV_I _) rfl).trans ?_
  refine (tq_bastore i_X12_keeps_64 ((sh_uZ _ _ _ _ _).trans ((sh_uZ _ _ _ _ _).trans ((sh_uZ _ _ _ _ _).trans ((sh_uZ _ _ _ _ _).trans (K10_s14 k1))))) (okB (wr_fZ _ _ _) (fb_10_5 (K10_s k1))) (wr_fZ _ _ _) g2.1 (lt_gn ((gn_uZ _ _ _ _ _).trans ((gn_uZ _ _ _ _ _).trans ((gn_uZ _ _ _ _ _).trans ((gn_uZ _ _ _ _ _).trans (K10_n14 k1))))) g2.2) rfl).trans ?_
  refine (tq_aload_n i_X12_keeps_65 rfl (isA_ref _) rfl).trans ?_
  refine (tq_getfield i_X12_keeps_66 ((sh_uZ _ _ _ _ _).trans ((sh_uZ _ _ _ _ _).trans ((sh_uZ _ _ _ _ _).trans ((sh_uZ _ _ _ _ _).trans ((sh_uZ _ _ _ _ _).trans (K10_s k1)))))) (gR ((g_10_15 ((sh_uZ _ _ _ _ _).trans ((sh_uZ _ _ _ _ _).trans ((sh_uZ _ _ _ _ _).trans ((sh_uZ _ _ _ _ _).trans ((sh_uZ _ _ _ _ _).trans (K10_s k1))))))).trans (congrArg am_rv ((fA_uZ _ _ _ _ _ _).trans ((fA_uZ _ _ _ _ _ _).trans ((fA_uZ _ _ _ _ _ _).trans ((fA_uZ _ _ _ _ _ _).trans (fA_uZ _ _ _ _ _ _))))))) (K10_e15 k1)) (isV_ref _) rfl).trans ?_
  refine (tq_aload_n i_X12_keeps_69 rfl (isA_ref _) rfl).trans ?_
  refine (tq_getfield i_X12_keeps_70 ((sh_uZ _ _ _ _ _).trans ((sh_uZ _ _ _ _ _).trans ((sh_uZ _ _ _ _ _).trans ((sh_uZ _ _ _ _ _).trans ((sh_uZ _ _ _ _ _).trans (K10_s k1)))))) ((g_10_9 ((sh_uZ _ _ _ _ _).trans ((sh_uZ _ _ _ _ _).trans ((sh_uZ _ _ _ _ _).trans ((sh_uZ _ _ _ _ _).trans ((sh_uZ _ _ _ _ _).trans (K10_s k1))))))).trans (congrArg (fun z => Value.int (mI z)) ((fZ_uZ _ _ _ _ _ _).trans ((fZ_uZ _ _ _ _ _ _).trans ((fZ_uZ _ _ _ _ _ _).trans ((fZ_uZ _ _ _ _ _ _).trans (fZ_uZ _ _ _ _ _ _))))))) (isV_I _) rfl).trans ?_
  refine (tq_iload i_X12_keeps_73 rfl rfl).trans ?_
  refine (tq_iastore i_X12_keeps_75 ((sh_uZ _ _ _ _ _).trans ((sh_uZ _ _ _ _ _).trans ((sh_uZ _ _ _ _ _).trans ((sh_uZ _ _ _ _ _).trans ((sh_uZ _ _ _ _ _).trans (K10_s15 k1)))))) (wr_fZ _ _ _) g2.1 (lt_gn ((gn_uZ _ _ _ _ _).trans ((gn_uZ _ _ _ _ _).trans ((gn_uZ _ _ _ _ _).trans ((gn_uZ _ _ _ _ _).trans ((gn_uZ _ _ _ _ _).trans (K10_n15 k1)))))) g2.2) rfl).trans ?_
  refine (tq_aload_n i_X12_keeps_76 rfl (isA_ref _) rfl).trans ?_
  refine (tq_getfield i_X12_keeps_77 ((sh_uZ _ _ _ _ _).trans ((sh_uZ _ _ _ _ _).trans ((sh_uZ _ _ _ _ _).trans ((sh_uZ _ _ _ _ _).trans ((sh_uZ _ _ _ _ _).trans ((sh_uZ _ _ _ _ _).trans (K10_s k1))))))) (gR ((g_10_16 ((sh_uZ _ _ _ _ _).trans ((sh_uZ _ _ _ _ _).trans ((sh_uZ _ _ _ _ _).trans ((sh_uZ _ _ _ _ _).trans ((sh_uZ _ _ _ _ _).trans ((sh_uZ _ _ _ _ _).trans (K10_s k1)))))))).trans (congrArg am_rv ((fA_uZ _ _ _ _ _ _).trans ((fA_uZ _ _ _ _ _ _).trans ((fA_uZ _ _ _ _ _ _).trans ((fA_uZ _ _ _ _ _ _).trans ((fA_uZ _ _ _ _ _ _).trans (fA_uZ _ _ _ _ _ _)))))))) (K10_e16 k1)) (isV_ref _) rfl).trans ?_
  refine (tq_aload_n i_X12_keeps_80 rfl (isA_ref _) rfl).trans ?_
  refine (tq_getfield i_X12_keeps_81 ((sh_uZ _ _ _ _ _).trans ((sh_uZ _ _ _ _ _).trans ((sh_uZ _ _ _ _ _).trans ((sh_uZ _ _ _ _ _).trans ((sh_uZ _ _ _ _ _).trans ((sh_uZ _ _ _ _ _).trans (K10_s k1))))))) ((g_10_9 ((sh_uZ _ _ _ _ _).trans ((sh_uZ _ _ _ _ _).trans ((sh_uZ _ _ _ _ _).trans ((sh_uZ _ _ _ _ _).trans ((sh_uZ _ _ _ _ _).trans ((sh_uZ _ _ _ _ _).trans (K10_s k1)))))))).trans (congrArg (fun z => Value.int (mI z)) ((fZ_uZ _ _ _ _ _ _).trans ((fZ_uZ _ _ _ _ _ _).trans ((fZ_uZ _ _ _ _ _ _).trans ((fZ_uZ _ _ _ _ _ _).trans ((fZ_uZ _ _ _ _ _ _).trans (fZ_uZ _ _ _ _ _ _)))))))) (isV_I _) rfl).trans ?_
  refine (tq_iload i_X12_keeps_84 rfl rfl).trans ?_
  refine (tq_iastore i_X12_keeps_86 ((sh_uZ _ _ _ _ _).trans ((sh_uZ _ _ _ _ _).trans ((sh_uZ _ _ _ _ _).trans ((sh_uZ _ _ _ _ _).trans ((sh_uZ _ _ _ _ _).trans ((sh_uZ _ _ _ _ _).trans (K10_s16 k1))))))) (wr_fZ _ _ _) g2.1 (lt_gn ((gn_uZ _ _ _ _ _).trans ((gn_uZ _ _ _ _ _).trans ((gn_uZ _ _ _ _ _).trans ((gn_uZ _ _ _ _ _).trans ((gn_uZ _ _ _ _ _).trans ((gn_uZ _ _ _ _ _).trans (K10_n16 k1))))))) g2.2) rfl).trans ?_
  refine (tq_aload_n i_X12_keeps_87 rfl (isA_ref _) rfl).trans ?_
  refine (tq_getfield i_X12_keeps_88 ((sh_uZ _ _ _ _ _).trans ((sh_uZ _ _ _ _ _).trans ((sh_uZ _ _ _ _ _).trans ((sh_uZ _ _ _ _ _).trans ((sh_uZ _ _ _ _ _).trans ((sh_uZ _ _ _ _ _).trans ((sh_uZ _ _ _ _ _).trans (K10_s k1)))))))) (gR ((g_10_17 ((sh_uZ _ _ _ _ _).trans ((sh_uZ _ _ _ _ _).trans ((sh_uZ _ _ _ _ _).trans ((sh_uZ _ _ _ _ _).trans ((sh_uZ _ _ _ _ _).trans ((sh_uZ _ _ _ _ _).trans ((sh_uZ _ _ _ _ _).trans (K10_s k1))))))))).trans (congrArg am_rv ((fA_uZ _ _ _ _ _ _).trans ((fA_uZ _ _ _ _ _ _).trans ((fA_uZ _ _ _ _ _ _).trans ((fA_uZ _ _ _ _ _ _).trans ((fA_uZ _ _ _ _ _ _).trans ((fA_uZ _ _ _ _ _ _).trans (fA_uZ _ _ _ _ _ _))))))))) (K10_e17 k1)) (isV_ref _) rfl).trans ?_
  refine (tq_aload_n i_X12_keeps_91 rfl (isA_ref _) rfl).trans ?_
  refine (tq_getfield i_X12_keeps_92 ((sh_uZ _ _ _ _ _).trans ((sh_uZ _ _ _ _ _).trans ((sh_uZ _ _ _ _ _).trans ((sh_uZ _ _ _ _ _).trans ((sh_uZ _ _ _ _ _).trans ((sh_uZ _ _ _ _ _).trans ((sh_uZ _ _ _ _ _).trans (K10_s k1)))))))) ((g_10_9 ((sh_uZ _ _ _ _ _).trans ((sh_uZ _ _ _ _ _).trans ((sh_uZ _ _ _ _ _).trans ((sh_uZ _ _ _ _ _).trans ((sh_uZ _ _ _ _ _).trans ((sh_uZ _ _ _ _ _).trans ((sh_uZ _ _ _ _ _).trans (K10_s k1))))))))).trans (congrArg (fun z => Value.int (mI z)) ((fZ_uZ _ _ _ _ _ _).trans ((fZ_uZ _ _ _ _ _ _).trans ((fZ_uZ _ _ _ _ _ _).trans ((fZ_uZ _ _ _ _ _ _).trans ((fZ_uZ _ _ _ _ _ _).trans ((fZ_uZ _ _ _ _ _ _).trans (fZ_uZ _ _ _ _ _ _))))))))) (isV_I _) rfl).trans ?_
  refine (tq_iload i_X12_keeps_95 rfl rfl).trans ?_
  refine (tq_iastore i_X12_keeps_97 ((sh_uZ _ _ _ _ _).trans ((sh_uZ _ _ _ _ _).trans ((sh_uZ _ _ _ _ _).trans ((sh_uZ _ _ _ _ _).trans ((sh_uZ _ _ _ _ _).trans ((sh_uZ _ _ _ _ _).trans ((sh_uZ _ _ _ _ _).trans (K10_s17 k1)))))))) (wr_fZ _ _ _) g2.1 (lt_gn ((gn_uZ _ _ _ _ _).trans ((gn_uZ _ _ _ _ _).trans ((gn_uZ _ _ _ _ _).trans ((gn_uZ _ _ _ _ _).trans ((gn_uZ _ _ _ _ _).trans ((gn_uZ _ _ _ _ _).trans ((gn_uZ _ _ _ _ _).trans (K10_n17 k1)))))))) g2.2) rfl).trans ?_
  refine (tq_aload_n i_X12_keeps_98 rfl (isA_ref _) rfl).trans ?_
  refine (tq_getfield i_X12_keeps_99 ((sh_uZ _ _ _ _ _).trans ((sh_uZ _ _ _ _ _).trans ((sh_uZ _ _ _ _ _).trans ((sh_uZ _ _ _ _ _).trans ((sh_uZ _ _ _ _ _).trans ((sh_uZ _ _ _ _ _).trans ((sh_uZ _ _ _ _ _).trans ((sh_uZ _ _ _ _ _).trans (K10_s k1))))))))) (gR ((g_10_18 ((sh_uZ _ _ _ _ _).trans ((sh_uZ _ _ _ _ _).trans ((sh_uZ _ _ _ _ _).trans ((sh_uZ _ _ _ _ _).trans ((sh_uZ _ _ _ _ _).trans ((sh_uZ _ _ _ _ _).trans ((sh_uZ _ _ _ _ _).trans ((sh_uZ _ _ _ _ _).trans (K10_s k1)))))))))).trans (congrArg am_rv ((fA_uZ _ _ _ _ _ _).trans ((fA_uZ _ _ _ _ _ _).trans ((fA_uZ _ _ _ _ _ _).trans ((fA_uZ _ _ _ _ _ _).trans ((fA_uZ _ _ _ _ _ _).trans ((fA_uZ _ _ _ _ _ _).trans ((fA_uZ _ _ _ _ _ _).trans (fA_uZ _ _ _ _ _ _)))))))))) (K10_e18 k1)) (isV_ref _) rfl).trans ?_
  refine (tq_aload_n i_X12_keeps_102 rfl (isA_ref _) rfl).trans ?_
  refine (tq_getfield i_X12_keeps_103 ((sh_uZ _ _ _ _ _).trans ((sh_uZ _ _ _ _ _).trans ((sh_uZ _ _ _ _ _).trans ((sh_uZ _ _ _ _ _).trans ((sh_uZ _ _ _ _ _).trans ((sh_uZ _ _ _ _ _).trans ((sh_uZ _ _ _ _ _).trans ((sh_uZ _ _ _ _ _).trans (K10_s k1))))))))) ((g_10_9 ((sh_uZ _ _ _ _ _).trans ((sh_uZ _ _ _ _ _).trans ((sh_uZ _ _ _ _ _).trans ((sh_uZ _ _ _ _ _).trans ((sh_uZ _ _ _ _ _).trans ((sh_uZ _ _ _ _ _).trans ((sh_uZ _ _ _ _ _).trans ((sh_uZ _ _ _ _ _).trans (K10_s k1)))))))))).trans (congrArg (fun z => Value.int (mI z)) ((fZ_uZ _ _ _ _ _ _).trans ((fZ_uZ _ _ _ _ _ _).trans ((fZ_uZ _ _ _ _ _ _).trans ((fZ_uZ _ _ _ _ _ _).trans ((fZ_uZ _ _ _ _ _ _).trans ((fZ_uZ _ _ _ _ _ _).trans ((fZ_uZ _ _ _ _ _ _).trans (fZ_uZ _ _ _ _ _ _)))))))))) (isV_I _) rfl).trans ?_
  refine (tq_aload_n i_X12_keeps_106 rfl (isA_ref _) rfl).trans ?_
  exact c_X12_errorNow i_X12_keeps_107 ((sh_uZ _ _ _ _ _).trans ((sh_uZ _ _ _ _ _).trans ((sh_uZ _ _ _ _ _).trans ((sh_uZ _ _ _ _ _).trans ((sh_uZ _ _ _ _ _).trans ((sh_uZ _ _ _ _ _).trans ((sh_uZ _ _ _ _ _).trans ((sh_uZ _ _ _ _ _).trans (K10_s k1))))))))) (ltd d_X12_keeps (by decide)) (stOk_2 _ _) rfl
theorem i_X12_keeps_110 : am_i m_X12_keeps 110 = some (110, .lastore, 1, [], 0) := rfl
theorem i_X12_keeps_111 : am_i m_X12_keeps 111 = some (111, .aload_n 0, 1, [], 0) := rfl
theorem i_X12_keeps_112 : am_i m_X12_keeps 112 = some (112, .getfield 70, 3, [10, 19, 0], 0) := rfl
theorem i_X12_keeps_115 : am_i m_X12_keeps 115 = some (115, .aload_n 0, 1, [], 0) := rfl
theorem i_X12_keeps_116 : am_i m_X12_keeps 116 = some (116, .getfield 305, 3, [10, 9, 0], 0) := rfl
theorem i_X12_keeps_119 : am_i m_X12_keeps 119 = some (119, .aload_n 0, 1, [], 0) := rfl
theorem i_X12_keeps_120 : am_i m_X12_keeps 120 = some (120, .getfield 155, 3, [10, 27, 0], 0) := rfl
theorem i_X12_keeps_123 : am_i m_X12_keeps 123 = some (123, .aastore, 1, [], 0) := rfl
theorem i_X12_keeps_124 : am_i m_X12_keeps 124 = some (124, .aload_n 0, 1, [], 0) := rfl
theorem i_X12_keeps_125 : am_i m_X12_keeps 125 = some (125, .getfield 74, 3, [10, 20, 0], 0) := rfl
theorem i_X12_keeps_128 : am_i m_X12_keeps 128 = some (128, .aload_n 0, 1, [], 0) := rfl
theorem i_X12_keeps_129 : am_i m_X12_keeps 129 = some (129, .getfield 305, 3, [10, 9, 0], 0) := rfl
theorem i_X12_keeps_132 : am_i m_X12_keeps 132 = some (132, .aload_n 0, 1, [], 0) := rfl
theorem i_X12_keeps_133 : am_i m_X12_keeps 133 = some (133, .getfield 205, 3, [10, 32, 0], 0) := rfl
theorem i_X12_keeps_136 : am_i m_X12_keeps 136 = some (136, .aastore, 1, [], 0) := rfl
theorem i_X12_keeps_137 : am_i m_X12_keeps 137 = some (137, .aload_n 0, 1, [], 0) := rfl
theorem i_X12_keeps_138 : am_i m_X12_keeps 138 = some (138, .getfield 80, 3, [10, 22, 0], 0) := rfl
theorem i_X12_keeps_141 : am_i m_X12_keeps 141 = some (141, .aload_n 0, 1, [], 0) := rfl
theorem i_X12_keeps_142 : am_i m_X12_keeps 142 = some (142, .getfield 305, 3, [10, 9, 0], 0) := rfl
theorem i_X12_keeps_145 : am_i m_X12_keeps 145 = some (145, .aload_n 1, 1, [], 0) := rfl
theorem i_X12_keeps_146 : am_i m_X12_keeps 146 = some (146, .aastore, 1, [], 0) := rfl
theorem i_X12_keeps_147 : am_i m_X12_keeps 147 = some (147, .aload_n 0, 1, [], 0) := rfl
theorem i_X12_keeps_148 : am_i m_X12_keeps 148 = some (148, .getfield 83, 3, [10, 23, 0], 0) := rfl
theorem i_X12_keeps_151 : am_i m_X12_keeps 151 = some (151, .aload_n 0, 1, [], 0) := rfl
theorem i_X12_keeps_152 : am_i m_X12_keeps 152 = some (152, .getfield 305, 3, [10, 9, 0], 0) := rfl
theorem i_X12_keeps_155 : am_i m_X12_keeps 155 = some (155, .aload_n 0, 1, [], 0) := rfl
theorem i_X12_keeps_156 : am_i m_X12_keeps 156 = some (156, .getfield 258, 3, [10, 30, 0], 0) := rfl
theorem i_X12_keeps_159 : am_i m_X12_keeps 159 = some (159, .aastore, 1, [], 0) := rfl
theorem i_X12_keeps_160 : am_i m_X12_keeps 160 = some (160, .aload_n 0, 1, [], 0) := rfl
theorem i_X12_keeps_161 : am_i m_X12_keeps 161 = some (161, .getfield 86, 3, [10, 24, 0], 0) := rfl
theorem i_X12_keeps_164 : am_i m_X12_keeps 164 = some (164, .aload_n 0, 1, [], 0) := rfl
theorem i_X12_keeps_165 : am_i m_X12_keeps 165 = some (165, .getfield 305, 3, [10, 9, 0], 0) := rfl
theorem i_X12_keeps_168 : am_i m_X12_keeps 168 = some (168, .aload_n 0, 1, [], 0) := rfl
theorem i_X12_keeps_169 : am_i m_X12_keeps 169 = some (169, .getfield 168, 3, [10, 31, 0], 0) := rfl
theorem i_X12_keeps_172 : am_i m_X12_keeps 172 = some (172, .aastore, 1, [], 0) := rfl
theorem i_X12_keeps_173 : am_i m_X12_keeps 173 = some (173, .aload_n 0, 1, [], 0) := rfl
theorem i_X12_keeps_174 : am_i m_X12_keeps 174 = some (174, .getfield 77, 3, [10, 21, 0], 0) := rfl
theorem i_X12_keeps_177 : am_i m_X12_keeps 177 = some (177, .iconst 2, 1, [], 2) := rfl
theorem i_X12_keeps_178 : am_i m_X12_keeps 178 = some (178, .aload_n 0, 1, [], 0) := rfl
theorem i_X12_keeps_179 : am_i m_X12_keeps 179 = some (179, .getfield 305, 3, [10, 9, 0], 0) := rfl
theorem i_X12_keeps_182 : am_i m_X12_keeps 182 = some (182, .imul, 1, [], 0) := rfl
theorem i_X12_keeps_183 : am_i m_X12_keeps 183 = some (183, .aload_n 2, 1, [], 0) := rfl
theorem i_X12_keeps_184 : am_i m_X12_keeps 184 = some (184, .aastore, 1, [], 0) := rfl
theorem i_X12_keeps_185 : am_i m_X12_keeps 185 = some (185, .aload_n 0, 1, [], 0) := rfl
theorem i_X12_keeps_186 : am_i m_X12_keeps 186 = some (186, .getfield 77, 3, [10, 21, 0], 0) := rfl
theorem i_X12_keeps_189 : am_i m_X12_keeps 189 = some (189, .iconst 2, 1, [], 2) := rfl
theorem i_X12_keeps_190 : am_i m_X12_keeps 190 = some (190, .aload_n 0, 1, [], 0) := rfl
theorem i_X12_keeps_191 : am_i m_X12_keeps 191 = some (191, .getfield 305, 3, [10, 9, 0], 0) := rfl
theorem i_X12_keeps_194 : am_i m_X12_keeps 194 = some (194, .imul, 1, [], 0) := rfl
theorem i_X12_keeps_195 : am_i m_X12_keeps 195 = some (195, .iconst 1, 1, [], 1) := rfl
theorem i_X12_keeps_196 : am_i m_X12_keeps 196 = some (196, .iadd, 1, [], 0) := rfl
theorem i_X12_keeps_197 : am_i m_X12_keeps 197 = some (197, .aload_n 3, 1, [], 0) := rfl
theorem i_X12_keeps_198 : am_i m_X12_keeps 198 = some (198, .aastore, 1, [], 0) := rfl
theorem i_X12_keeps_199 : am_i m_X12_keeps 199 = some (199, .aload_n 0, 1, [], 0) := rfl
theorem i_X12_keeps_200 : am_i m_X12_keeps 200 = some (200, .getfield 32, 3, [10, 5, 0], 0) := rfl
theorem i_X12_keeps_203 : am_i m_X12_keeps 203 = some (203, .ifCond .eq 22, 3, [], 0) := rfl
theorem i_X12_keeps_206 : am_i m_X12_keeps 206 = some (206, .aload_n 0, 1, [], 0) := rfl
theorem i_X12_keeps_207 : am_i m_X12_keeps 207 = some (207, .aload_n 0, 1, [], 0) := rfl
theorem i_X12_keeps_208 : am_i m_X12_keeps 208 = some (208, .getfield 89, 3, [10, 25, 0], 0) := rfl
theorem i_X12_keeps_211 : am_i m_X12_keeps 211 = some (211, .aload_n 0, 1, [], 0) := rfl
theorem i_X12_keeps_212 : am_i m_X12_keeps 212 = some (212, .getfield 302, 3, [10, 26, 0], 0) := rfl
theorem i_X12_keeps_215 : am_i m_X12_keeps 215 = some (215, .aload_n 0, 1, [], 0) := rfl
theorem i_X12_keeps_216 : am_i m_X12_keeps 216 = some (216, .getfield 305, 3, [10, 9, 0], 0) := rfl
theorem i_X12_keeps_219 : am_i m_X12_keeps 219 = some (219, .invokestatic 326, 3, [83], 0) := rfl
theorem i_X12_keeps_225 : am_i m_X12_keeps 225 = some (225, .aload_n 0, 1, [], 0) := rfl
theorem i_X12_keeps_226 : am_i m_X12_keeps 226 = some (226, .dup, 1, [], 0) := rfl
theorem i_X12_keeps_227 : am_i m_X12_keeps 227 = some (227, .getfield 305, 3, [10, 9, 0], 0) := rfl
theorem i_X12_keeps_230 : am_i m_X12_keeps 230 = some (230, .iconst 1, 1, [], 1) := rfl
theorem i_X12_keeps_231 : am_i m_X12_keeps 231 = some (231, .iadd, 1, [], 0) := rfl
theorem i_X12_keeps_232 : am_i m_X12_keeps 232 = some (232, .putfield 305, 3, [10, 9, 0], 0) := rfl
theorem i_X12_keeps_235 : am_i m_X12_keeps 235 = some (235, .return_, 1, [], 0) := rfl
theorem b_X12_keeps_110 {a0 a1 a2 as2 n_as2 a0_now a0_level a0_mode a0_vector : Nat} {r3 : Option Nat} {v4 v5 v6 : Value} {js0 xs1 xs1' : Int} {h : am_H} (ws1 : wr xs1 = xs1') (n1 : gn h as2 = n_as2) (s2 : sh h as2 = (2, 3)) (g3 : 0 ≤ xs1' ∧ xs1' < (n_as2 : Int)) (k4 : K10 h a0) (e5 : fA h a0 27 = some a0_now) (g6 : 0 ≤ fZ h a0 9 ∧ fZ h a0 9 < (12 : Int)) (s7 : sh h a0_now = (1, 0)) (e8 : fA h a0 32 = some a0_level) (s9 : sh h a0_level = (1, 0)) (s10 : sh h a1 = (1, 0)) (e11 : fA h a0 30 = some a0_mode) (s12 : sh h a0_mode = (1, 0)) (e13 : fA h a0 31 = some a0_vector) (s14 : sh h a0_vector = (1, 0)) (g15 : 0 ≤ wr (2 * (fZ h a0 9)) ∧ wr (2 * (fZ h a0 9)) < (24 : Int)) (s16 : sh h a2 = (1, 0)) (g17 : 0 ≤ wr ((2 * (fZ h a0 9)) + 1) ∧ wr ((2 * (fZ h a0 9)) + 1) < (24 : Int)) (g18 : elok (uA (uA (uA (uA (uA (uA (uJ h as2 xs1' js0) (a0 + 11) (fZ h a0 9) (some a0_now)) (a0 + 12) (fZ h a0 9) (some a0_level)) (a0 + 14) (fZ h a0 9) (some a1)) (a0 + 15) (fZ h a0 9) (some a0_mode)) (a0 + 16) (fZ h a0 9) (some a0_vector)) (a0 + 13) (wr (2 * (fZ h a0 9))) (some a2)) 6 r3) : rn m_X12_keeps 110 [.ref a0, .ref a1, .ref a2, am_rv r3, v4, v5, v6] [.long (mL js0), .int (mI xs1), .ref as2] h = if (fZ h a0 5) = 0 then some (.inl none, uF 10 (uA (uA (uA (uA (uA (uA (uA (uJ h as2 xs1' js0) (a0 + 11) (fZ h a0 9) (some a0_now)) (a0 + 12) (fZ h a0 9) (some a0_level)) (a0 + 14) (fZ h a0 9) (some a1)) (a0 + 15) (fZ h a0 9) (some a0_mode)) (a0 + 16) (fZ h a0 9) (some a0_vector)) (a0 + 13) (wr (2 * (fZ h a0 9))) (some a2)) (a0 + 13) (wr ((2 * (fZ h a0 9)) + 1)) r3) a0 9 (.int (mI ((fZ h a0 9) + 1)))) else cl m_X12_keeps 222 [.ref a0, .ref a1, .ref a2, am_rv r3, v4, v5, v6] [.ref a0] (rn m_X12_keeps_ 0 [.ref (a0 + 17), .int (mI (fZ h a0 26)), .int (mI (fZ h a0 9)), am_J] [] (uA (uA (uA (uA (uA (uA (uA (uJ h as2 xs1' js0) (a0 + 11) (fZ h a0 9) (some a0_now)) (a0 + 12) (fZ h a0 9) (some a0_level)) (a0 + 14) (fZ h a0 9) (some a1)) (a0 + 15) (fZ h a0 9) (some a0_mode)) (a0 + 16) (fZ h a0 9) (some a0_vector)) (a0 + 13) (wr (2 * (fZ h a0 9))) (some a2)) (a0 + 13) (wr ((2 * (fZ h a0 9)) + 1)) r3)) := by
  refine (tq_lastore i_X12_keeps_110 s2 ws1 g3.1 (lt_gn n1 g3.2) rfl).trans ?_
  refine (tq_aload_n i_X12_keeps_111 rfl (isA_ref _) rfl).trans ?_
  refine (tq_getfield i_X12_keeps_112 ((sh_uJ _ _ _ _ _).trans (K10_s k4)) (gR ((g_10_19 ((sh_uJ _ _ _ _ _).trans (K10_s k4))).trans (congrArg am_rv (fA_uJ _ _ _ _ _ _))) (K10_e19 k4)) (isV_ref _) rfl).trans ?_
  refine (tq_aload_n i_X12_keeps_115 rfl (isA_ref _) rfl).trans ?_
  refine (tq_getfield i_X12_keeps_116 ((sh_uJ _ _ _ _ _).trans (K10_s k4)) ((g_10_9 ((sh_uJ _ _ _ _ _).trans (K10_s k4))).trans (congrArg (fun z => Value.int (mI z)) (fZ_uJ _ _ _ _ _ _))) (isV_I _) rfl).trans ?_
  refine (tq_aload_n i_X12_keeps_119 rfl (isA_ref _) rfl).trans ?_
  refine (tq_getfield i_X12_keeps_120 ((sh_uJ _ _ _ _ _).trans (K10_s k4)) (gR ((g_10_27 ((sh_uJ _ _ _ _ _).trans (K10_s k4))).trans (congrArg am_rv (fA_uJ _ _ _ _ _ _))) e5) (isV_ref _) rfl).trans ?_
  refine (tq_aastore (r := (some a0_now)) i_X12_keeps_123 ((sh_uJ _ _ _ _ _).trans (K10_s19 k4)) (elok_6 ((sh_uJ _ _ _ _ _).trans s7)) (wr_fZ _ _ _) g6.1 (lt_gn ((gn_uJ _ _ _ _ _).trans (K10_n19 k4)) g6.2) rfl).trans ?_
  refine (tq_aload_n i_X12_keeps_124 rfl (isA_ref _) rfl).trans ?_
  refine (tq_getfield i_X12_keeps_125 ((sh_uA _ _ _ _ _).trans ((sh_uJ _ _ _ _ _).trans (K10_s k4))) (gR ((g_10_20 ((sh_uA _ _ _ _ _).trans ((sh_uJ _ _ _ _ _).trans (K10_s k4)))).trans (congrArg am_rv ((fA_uA _ _ _ _ _ _).trans (fA_uJ _ _ _ _ _ _)))) (K10_e20 k4)) (isV_ref _) rfl).trans ?_
  refine (tq_aload_n i_X12_keeps_128 rfl (isA_ref _) rfl).trans ?_
  refine (tq_getfield i_X12_keeps_129 ((sh_uA _ _ _ _ _).trans ((sh_uJ _ _ _ _ _).trans (K10_s k4))) ((g_10_9 ((sh_uA _ _ _ _ _).trans ((sh_uJ _ _ _ _ _).trans (K10_s k4)))).trans (congrArg (fun z => Value.int (mI z)) ((fZ_uA _ _ _ _ _ _).trans (fZ_uJ _ _ _ _ _ _)))) (isV_I _) rfl).trans ?_
  refine (tq_aload_n i_X12_keeps_132 rfl (isA_ref _) rfl).trans ?_
  refine (tq_getfield i_X12_keeps_133 ((sh_uA _ _ _ _ _).trans ((sh_uJ _ _ _ _ _).trans (K10_s k4))) (gR ((g_10_32 ((sh_uA _ _ _ _ _).trans ((sh_uJ _ _ _ _ _).trans (K10_s k4)))).trans (congrArg am_rv ((fA_uA _ _ _ _ _ _).trans (fA_uJ _ _ _ _ _ _)))) e8) (isV_ref _) rfl).trans ?_
  refine (tq_aastore (r := (some a0_level)) i_X12_keeps_136 ((sh_uA _ _ _ _ _).trans ((sh_uJ _ _ _ _ _).trans (K10_s20 k4))) (elok_6 ((sh_uA _ _ _ _ _).trans ((sh_uJ _ _ _ _ _).trans s9))) (wr_fZ _ _ _) g6.1 (lt_gn ((gn_uA _ _ _ _ _).trans ((gn_uJ _ _ _ _ _).trans (K10_n20 k4))) g6.2) rfl).trans ?_
  refine (tq_aload_n i_X12_keeps_137 rfl (isA_ref _) rfl).trans ?_
  refine (tq_getfield i_X12_keeps_138 ((sh_uA _ _ _ _ _).trans ((sh_uA _ _ _ _ _).trans ((sh_uJ _ _ _ _ _).trans (K10_s k4)))) (gR ((g_10_22 ((sh_uA _ _ _ _ _).trans ((sh_uA _ _ _ _ _).trans ((sh_uJ _ _ _ _ _).trans (K10_s k4))))).trans (congrArg am_rv ((fA_uA _ _ _ _ _ _).trans ((fA_uA _ _ _ _ _ _).trans (fA_uJ _ _ _ _ _ _))))) (K10_e22 k4)) (isV_ref _) rfl).trans ?_
  refine (tq_aload_n i_X12_keeps_141 rfl (isA_ref _) rfl).trans ?_
  refine (tq_getfield i_X12_keeps_142 ((sh_uA _ _ _ _ _).trans ((sh_uA _ _ _ _ _).trans ((sh_uJ _ _ _ _ _).trans (K10_s k4)))) ((g_10_9 ((sh_uA _ _ _ _ _).trans ((sh_uA _ _ _ _ _).trans ((sh_uJ _ _ _ _ _).trans (K10_s k4))))).trans (congrArg (fun z => Value.int (mI z)) ((fZ_uA _ _ _ _ _ _).trans ((fZ_uA _ _ _ _ _ _).trans (fZ_uJ _ _ _ _ _ _))))) (isV_I _) rfl).trans ?_
  refine (tq_aload_n i_X12_keeps_145 rfl (isA_ref _) rfl).trans ?_
  refine (tq_aastore (r := (some a1)) i_X12_keeps_146 ((sh_uA _ _ _ _ _).trans ((sh_uA _ _ _ _ _).trans ((sh_uJ _ _ _ _ _).trans (K10_s22 k4)))) (elok_6 ((sh_uA _ _ _ _ _).trans ((sh_uA _ _ _ _ _).trans ((sh_uJ _ _ _ _ _).trans s10)))) (wr_fZ _ _ _) g6.1 (lt_gn ((gn_uA _ _ _ _ _).trans ((gn_uA _ _ _ _ _).trans ((gn_uJ _ _ _ _ _).trans (K10_n22 k4)))) g6.2) rfl).trans ?_
  refine (tq_aload_n i_X12_keeps_147 rfl (isA_ref _) rfl).trans ?_
  refine (tq_getfield i_X12_keeps_148 ((sh_uA _ _ _ _ _).trans ((sh_uA _ _ _ _ _).trans ((sh_uA _ _ _ _ _).trans ((sh_uJ _ _ _ _ _).trans (K10_s k4))))) (gR ((g_10_23 ((sh_uA _ _ _ _ _).trans ((sh_uA _ _ _ _ _).trans ((sh_uA _ _ _ _ _).trans ((sh_uJ _ _ _ _ _).trans (K10_s k4)))))).trans (congrArg am_rv ((fA_uA _ _ _ _ _ _).trans ((fA_uA _ _ _ _ _ _).trans ((fA_uA _ _ _ _ _ _).trans (fA_uJ _ _ _ _ _ _)))))) (K10_e23 k4)) (isV_ref _) rfl).trans ?_
  refine (tq_aload_n i_X12_keeps_151 rfl (isA_ref _) rfl).trans ?_
  refine (tq_getfield i_X12_keeps_152 ((sh_uA _ _ _ _ _).trans ((sh_uA _ _ _ _ _).trans ((sh_uA _ _ _ _ _).trans ((sh_uJ _ _ _ _ _).trans (K10_s k4))))) ((g_10_9 ((sh_uA _ _ _ _ _).trans ((sh_uA _ _ _ _ _).trans ((sh_uA _ _ _ _ _).trans ((sh_uJ _ _ _ _ _).trans (K10_s k4)))))).trans (congrArg (fun z => Value.int (mI z)) ((fZ_uA _ _ _ _ _ _).trans ((fZ_uA _ _ _ _ _ _).trans ((fZ_uA _ _ _ _ _ _).trans (fZ_uJ _ _ _ _ _ _)))))) (isV_I _) rfl).trans ?_
  refine (tq_aload_n i_X12_keeps_155 rfl (isA_ref _) rfl).trans ?_
  refine (tq_getfield i_X12_keeps_156 ((sh_uA _ _ _ _ _).trans ((sh_uA _ _ _ _ _).trans ((sh_uA _ _ _ _ _).trans ((sh_uJ _ _ _ _ _).trans (K10_s k4))))) (gR ((g_10_30 ((sh_uA _ _ _ _ _).trans ((sh_uA _ _ _ _ _).trans ((sh_uA _ _ _ _ _).trans ((sh_uJ _ _ _ _ _).trans (K10_s k4)))))).trans (congrArg am_rv ((fA_uA _ _ _ _ _ _).trans ((fA_uA _ _ _ _ _ _).trans ((fA_uA _ _ _ _ _ _).trans (fA_uJ _ _ _ _ _ _)))))) e11) (isV_ref _) rfl).trans ?_
  refine (tq_aastore (r := (some a0_mode)) i_X12_keeps_159 ((sh_uA _ _ _ _ _).trans ((sh_uA _ _ _ _ _).trans ((sh_uA _ _ _ _ _).trans ((sh_uJ _ _ _ _ _).trans (K10_s23 k4))))) (elok_6 ((sh_uA _ _ _ _ _).trans ((sh_uA _ _ _ _ _).trans ((sh_uA _ _ _ _ _).trans ((sh_uJ _ _ _ _ _).trans s12))))) (wr_fZ _ _ _) g6.1 (lt_gn ((gn_uA _ _ _ _ _).trans ((gn_uA _ _ _ _ _).trans ((gn_uA _ _ _ _ _).trans ((gn_uJ _ _ _ _ _).trans (K10_n23 k4))))) g6.2) rfl).trans ?_
  refine (tq_aload_n i_X12_keeps_160 rfl (isA_ref _) rfl).trans ?_
  refine (tq_getfield i_X12_keeps_161 ((sh_uA _ _ _ _ _).trans ((sh_uA _ _ _ _ _).trans ((sh_uA _ _ _ _ _).trans ((sh_uA _ _ _ _ _).trans ((sh_uJ _ _ _ _ _).trans (K10_s k4)))))) (gR ((g_10_24 ((sh_uA _ _ _ _ _).trans ((sh_uA _ _ _ _ _).trans ((sh_uA _ _ _ _ _).trans ((sh_uA _ _ _ _ _).trans ((sh_uJ _ _ _ _ _).trans (K10_s k4))))))).trans (congrArg am_rv ((fA_uA _ _ _ _ _ _).trans ((fA_uA _ _ _ _ _ _).trans ((fA_uA _ _ _ _ _ _).trans ((fA_uA _ _ _ _ _ _).trans (fA_uJ _ _ _ _ _ _))))))) (K10_e24 k4)) (isV_ref _) rfl).trans ?_
  refine (tq_aload_n i_X12_keeps_164 rfl (isA_ref _) rfl).trans ?_
  refine (tq_getfield i_X12_keeps_165 ((sh_uA _ _ _ _ _).trans ((sh_uA _ _ _ _ _).trans ((sh_uA _ _ _ _ _).trans ((sh_uA _ _ _ _ _).trans ((sh_uJ _ _ _ _ _).trans (K10_s k4)))))) ((g_10_9 ((sh_uA _ _ _ _ _).trans ((sh_uA _ _ _ _ _).trans ((sh_uA _ _ _ _ _).trans ((sh_uA _ _ _ _ _).trans ((sh_uJ _ _ _ _ _).trans (K10_s k4))))))).trans (congrArg (fun z => Value.int (mI z)) ((fZ_uA _ _ _ _ _ _).trans ((fZ_uA _ _ _ _ _ _).trans ((fZ_uA _ _ _ _ _ _).trans ((fZ_uA _ _ _ _ _ _).trans (fZ_uJ _ _ _ _ _ _))))))) (isV_I _) rfl).trans ?_
  refine (tq_aload_n i_X12_keeps_168 rfl (isA_ref _) rfl).trans ?_
  refine (tq_getfield i_X12_keeps_169 ((sh_uA _ _ _ _ _).trans ((sh_uA _ _ _ _ _).trans ((sh_uA _ _ _ _ _).trans ((sh_uA _ _ _ _ _).trans ((sh_uJ _ _ _ _ _).trans (K10_s k4)))))) (gR ((g_10_31 ((sh_uA _ _ _ _ _).trans ((sh_uA _ _ _ _ _).trans ((sh_uA _ _ _ _ _).trans ((sh_uA _ _ _ _ _).trans ((sh_uJ _ _ _ _ _).trans (K10_s k4))))))).trans (congrArg am_rv ((fA_uA _ _ _ _ _ _).trans ((fA_uA _ _ _ _ _ _).trans ((fA_uA _ _ _ _ _ _).trans ((fA_uA _ _ _ _ _ _).trans (fA_uJ _ _ _ _ _ _))))))) e13) (isV_ref _) rfl).trans ?_
  refine (tq_aastore (r := (some a0_vector)) i_X12_keeps_172 ((sh_uA _ _ _ _ _).trans ((sh_uA _ _ _ _ _).trans ((sh_uA _ _ _ _ _).trans ((sh_uA _ _ _ _ _).trans ((sh_uJ _ _ _ _ _).trans (K10_s24 k4)))))) (elok_6 ((sh_uA _ _ _ _ _).trans ((sh_uA _ _ _ _ _).trans ((sh_uA _ _ _ _ _).trans ((sh_uA _ _ _ _ _).trans ((sh_uJ _ _ _ _ _).trans s14)))))) (wr_fZ _ _ _) g6.1 (lt_gn ((gn_uA _ _ _ _ _).trans ((gn_uA _ _ _ _ _).trans ((gn_uA _ _ _ _ _).trans ((gn_uA _ _ _ _ _).trans ((gn_uJ _ _ _ _ _).trans (K10_n24 k4)))))) g6.2) rfl).trans ?_
  refine (tq_aload_n i_X12_keeps_173 rfl (isA_ref _) rfl).trans ?_
  refine (tq_getfield i_X12_keeps_174 ((sh_uA _ _ _ _ _).trans ((sh_uA _ _ _ _ _).trans ((sh_uA _ _ _ _ _).trans ((sh_uA _ _ _ _ _).trans ((sh_uA _ _ _ _ _).trans ((sh_uJ _ _ _ _ _).trans (K10_s k4))))))) (gR ((g_10_21 ((sh_uA _ _ _ _ _).trans ((sh_uA _ _ _ _ _).trans ((sh_uA _ _ _ _ _).trans ((sh_uA _ _ _ _ _).trans ((sh_uA _ _ _ _ _).trans ((sh_uJ _ _ _ _ _).trans (K10_s k4)))))))).trans (congrArg am_rv ((fA_uA _ _ _ _ _ _).trans ((fA_uA _ _ _ _ _ _).trans ((fA_uA _ _ _ _ _ _).trans ((fA_uA _ _ _ _ _ _).trans ((fA_uA _ _ _ _ _ _).trans (fA_uJ _ _ _ _ _ _)))))))) (K10_e21 k4)) (isV_ref _) rfl).trans ?_
  refine (tq_iconst i_X12_keeps_177 rfl).trans ?_
  refine (tq_aload_n i_X12_keeps_178 rfl (isA_ref _) rfl).trans ?_
  refine (tq_getfield i_X12_keeps_179 ((sh_uA _ _ _ _ _).trans ((sh_uA _ _ _ _ _).trans ((sh_uA _ _ _ _ _).trans ((sh_uA _ _ _ _ _).trans ((sh_uA _ _ _ _ _).trans ((sh_uJ _ _ _ _ _).trans (K10_s k4))))))) ((g_10_9 ((sh_uA _ _ _ _ _).trans ((sh_uA _ _ _ _ _).trans ((sh_uA _ _ _ _ _).trans ((sh_uA _ _ _ _ _).trans ((sh_uA _ _ _ _ _).trans ((sh_uJ _ _ _ _ _).trans (K10_s k4)))))))).trans (congrArg (fun z => Value.int (mI z)) ((fZ_uA _ _ _ _ _ _).trans ((fZ_uA _ _ _ _ _ _).trans ((fZ_uA _ _ _ _ _ _).trans ((fZ_uA _ _ _ _ _ _).trans ((fZ_uA _ _ _ _ _ _).trans (fZ_uJ _ _ _ _ _ _)))))))) (isV_I _) rfl).trans ?_
  refine (tq_imul i_X12_keeps_182 rfl).trans ?_
  refine (tq_aload_n i_X12_keeps_183 rfl (isA_ref _) rfl).trans ?_
  refine (tq_aastore (r := (some a2)) i_X12_keeps_184 ((sh_uA _ _ _ _ _).trans ((sh_uA _ _ _ _ _).trans ((sh_uA _ _ _ _ _).trans ((sh_uA _ _ _ _ _).trans ((sh_uA _ _ _ _ _).trans ((sh_uJ _ _ _ _ _).trans (K10_s21 k4))))))) (elok_6 ((sh_uA _ _ _ _ _).trans ((sh_uA _ _ _ _ _).trans ((sh_uA _ _ _ _ _).trans ((sh_uA _ _ _ _ _).trans ((sh_uA _ _ _ _ _).trans ((sh_uJ _ _ _ _ _).trans s16))))))) rfl g15.1 (lt_gn ((gn_uA _ _ _ _ _).trans ((gn_uA _ _ _ _ _).trans ((gn_uA _ _ _ _ _).trans ((gn_uA _ _ _ _ _).trans ((gn_uA _ _ _ _ _).trans ((gn_uJ _ _ _ _ _).trans (K10_n21 k4))))))) g15.2) rfl).trans ?_
  refine (tq_aload_n i_X12_keeps_185 rfl (isA_ref _) rfl).trans ?_
  refine (tq_getfield i_X12_keeps_186 ((sh_uA _ _ _ _ _).trans ((sh_uA _ _ _ _ _).trans ((sh_uA _ _ _ _ _).trans ((sh_uA _ _ _ _ _).trans ((sh_uA _ _ _ _ _).trans ((sh_uA _ _ _ _ _).trans ((sh_uJ _ _ _ _ _).trans (K10_s k4)))))))) (gR ((g_10_21 ((sh_uA _ _ _ _ _).trans ((sh_uA _ _ _ _ _).trans ((sh_uA _ _ _ _ _).trans ((sh_uA _ _ _ _ _).trans ((sh_uA _ _ _ _ _).trans ((sh_uA _ _ _ _ _).trans ((sh_uJ _ _ _ _ _).trans (K10_s k4))))))))).trans (congrArg am_rv ((fA_uA _ _ _ _ _ _).trans ((fA_uA _ _ _ _ _ _).trans ((fA_uA _ _ _ _ _ _).trans ((fA_uA _ _ _ _ _ _).trans ((fA_uA _ _ _ _ _ _).trans ((fA_uA _ _ _ _ _ _).trans (fA_uJ _ _ _ _ _ _))))))))) (K10_e21 k4)) (isV_ref _) rfl).trans ?_
  refine (tq_iconst i_X12_keeps_189 rfl).trans ?_
  refine (tq_aload_n i_X12_keeps_190 rfl (isA_ref _) rfl).trans ?_
  refine (tq_getfield i_X12_keeps_191 ((sh_uA _ _ _ _ _).trans ((sh_uA _ _ _ _ _).trans ((sh_uA _ _ _ _ _).trans ((sh_uA _ _ _ _ _).trans ((sh_uA _ _ _ _ _).trans ((sh_uA _ _ _ _ _).trans ((sh_uJ _ _ _ _ _).trans (K10_s k4)))))))) ((g_10_9 ((sh_uA _ _ _ _ _).trans ((sh_uA _ _ _ _ _).trans ((sh_uA _ _ _ _ _).trans ((sh_uA _ _ _ _ _).trans ((sh_uA _ _ _ _ _).trans ((sh_uA _ _ _ _ _).trans ((sh_uJ _ _ _ _ _).trans (K10_s k4))))))))).trans (congrArg (fun z => Value.int (mI z)) ((fZ_uA _ _ _ _ _ _).trans ((fZ_uA _ _ _ _ _ _).trans ((fZ_uA _ _ _ _ _ _).trans ((fZ_uA _ _ _ _ _ _).trans ((fZ_uA _ _ _ _ _ _).trans ((fZ_uA _ _ _ _ _ _).trans (fZ_uJ _ _ _ _ _ _))))))))) (isV_I _) rfl).trans ?_
  refine (tq_imul i_X12_keeps_194 rfl).trans ?_
  refine (tq_iconst i_X12_keeps_195 rfl).trans ?_
  refine (tq_iadd i_X12_keeps_196 rfl).trans ?_
  refine (tq_aload_n i_X12_keeps_197 rfl (isA_rv _) rfl).trans ?_
  refine (tq_aastore (r := r3) i_X12_keeps_198 ((sh_uA _ _ _ _ _).trans ((sh_uA _ _ _ _ _).trans ((sh_uA _ _ _ _ _).trans ((sh_uA _ _ _ _ _).trans ((sh_uA _ _ _ _ _).trans ((sh_uA _ _ _ _ _).trans ((sh_uJ _ _ _ _ _).trans (K10_s21 k4)))))))) g18 rfl g17.1 (lt_gn ((gn_uA _ _ _ _ _).trans ((gn_uA _ _ _ _ _).trans ((gn_uA _ _ _ _ _).trans ((gn_uA _ _ _ _ _).trans ((gn_uA _ _ _ _ _).trans ((gn_uA _ _ _ _ _).trans ((gn_uJ _ _ _ _ _).trans (K10_n21 k4)))))))) g17.2) rfl).trans ?_
  refine (tq_aload_n i_X12_keeps_199 rfl (isA_ref _) rfl).trans ?_
  refine (tq_getfield i_X12_keeps_200 ((sh_uA _ _ _ _ _).trans ((sh_uA _ _ _ _ _).trans ((sh_uA _ _ _ _ _).trans ((sh_uA _ _ _ _ _).trans ((sh_uA _ _ _ _ _).trans ((sh_uA _ _ _ _ _).trans ((sh_uA _ _ _ _ _).trans ((sh_uJ _ _ _ _ _).trans (K10_s k4))))))))) ((g_10_5 ((sh_uA _ _ _ _ _).trans ((sh_uA _ _ _ _ _).trans ((sh_uA _ _ _ _ _).trans ((sh_uA _ _ _ _ _).trans ((sh_uA _ _ _ _ _).trans ((sh_uA _ _ _ _ _).trans ((sh_uA _ _ _ _ _).trans ((sh_uJ _ _ _ _ _).trans (K10_s k4)))))))))).trans (congrArg (fun z => Value.int (mI z)) ((fZ_uA _ _ _ _ _ _).trans ((fZ_uA _ _ _ _ _ _).trans ((fZ_uA _ _ _ _ _ _).trans ((fZ_uA _ _ _ _ _ _).trans ((fZ_uA _ _ _ _ _ _).trans ((fZ_uA _ _ _ _ _ _).trans ((fZ_uA _ _ _ _ _ _).trans (fZ_uJ _ _ _ _ _ _)))))))))) (isV_I _) rfl).trans ?_
  refine (tq_if_eq (pt := 225) i_X12_keeps_203 (wr_fZ _ _ _) (by decide) rfl).trans ?_
  refine ite_congr rfl (fun c1 => ?_) (fun c1 => ?_)
  · refine (tq_aload_n i_X12_keeps_225 rfl (isA_ref _) rfl).trans ?_
    refine (tq_dup i_X12_keeps_226 rfl rfl).trans ?_
    refine (tq_getfield i_X12_keeps_227 ((sh_uA _ _ _ _ _).trans ((sh_uA _ _ _ _ _).trans ((sh_uA _ _ _ _ _).trans ((sh_uA _ _ _ _ _).trans ((sh_uA _ _ _ _ _).trans ((sh_uA _ _ _ _ _).trans ((sh_uA _ _ _ _ _).trans ((sh_uJ _ _ _ _ _).trans (K10_s k4))))))))) ((g_10_9 ((sh_uA _ _ _ _ _).trans ((sh_uA _ _ _ _ _).trans ((sh_uA _ _ _ _ _).trans ((sh_uA _ _ _ _ _).trans ((sh_uA _ _ _ _ _).trans ((sh_uA _ _ _ _ _).trans ((sh_uA _ _ _ _ _).trans ((sh_uJ _ _ _ _ _).trans (K10_s k4)))))))))).trans (congrArg (fun z => Value.int (mI z)) ((fZ_uA _ _ _ _ _ _).trans ((fZ_uA _ _ _ _ _ _).trans ((fZ_uA _ _ _ _ _ _).trans ((fZ_uA _ _ _ _ _ _).trans ((fZ_uA _ _ _ _ _ _).trans ((fZ_uA _ _ _ _ _ _).trans ((fZ_uA _ _ _ _ _ _).trans (fZ_uJ _ _ _ _ _ _)))))))))) (isV_I _) rfl).trans ?_
    refine (tq_iconst i_X12_keeps_230 rfl).trans ?_
    refine (tq_iadd i_X12_keeps_231 rfl).trans ?_
    refine (tq_putfield i_X12_keeps_232 ((sh_uA _ _ _ _ _).trans ((sh_uA _ _ _ _ _).trans ((sh_uA _ _ _ _ _).trans ((sh_uA _ _ _ _ _).trans ((sh_uA _ _ _ _ _).trans ((sh_uA _ _ _ _ _).trans ((sh_uA _ _ _ _ _).trans ((sh_uJ _ _ _ _ _).trans (K10_s k4))))))))) (okf_10_9 _) rfl).trans ?_
    exact tq_return i_X12_keeps_235 r_X12_keeps
  · refine (tq_aload_n i_X12_keeps_206 rfl (isA_ref _) rfl).trans ?_
    refine (tq_aload_n i_X12_keeps_207 rfl (isA_ref _) rfl).trans ?_
    refine (tq_getfield i_X12_keeps_208 ((sh_uA _ _ _ _ _).trans ((sh_uA _ _ _ _ _).trans ((sh_uA _ _ _ _ _).trans ((sh_uA _ _ _ _ _).trans ((sh_uA _ _ _ _ _).trans ((sh_uA _ _ _ _ _).trans ((sh_uA _ _ _ _ _).trans ((sh_uJ _ _ _ _ _).trans (K10_s k4))))))))) (gR ((g_10_25 ((sh_uA _ _ _ _ _).trans ((sh_uA _ _ _ _ _).trans ((sh_uA _ _ _ _ _).trans ((sh_uA _ _ _ _ _).trans ((sh_uA _ _ _ _ _).trans ((sh_uA _ _ _ _ _).trans ((sh_uA _ _ _ _ _).trans ((sh_uJ _ _ _ _ _).trans (K10_s k4)))))))))).trans (congrArg am_rv ((fA_uA _ _ _ _ _ _).trans ((fA_uA _ _ _ _ _ _).trans ((fA_uA _ _ _ _ _ _).trans ((fA_uA _ _ _ _ _ _).trans ((fA_uA _ _ _ _ _ _).trans ((fA_uA _ _ _ _ _ _).trans ((fA_uA _ _ _ _ _ _).trans (fA_uJ _ _ _ _ _ _)))))))))) (K10_e25 k4)) (isV_ref _) rfl).trans ?_
    refine (tq_aload_n i_X12_keeps_211 rfl (isA_ref _) rfl).trans ?_
    refine (tq_getfield i_X12_keeps_212 ((sh_uA _ _ _ _ _).trans ((sh_uA _ _ _ _ _).trans ((sh_uA _ _ _ _ _).trans ((sh_uA _ _ _ _ _).trans ((sh_uA _ _ _ _ _).trans ((sh_uA _ _ _ _ _).trans ((sh_uA _ _ _ _ _).trans ((sh_uJ _ _ _ _ _).trans (K10_s k4))))))))) ((g_10_26 ((sh_uA _ _ _ _ _).trans ((sh_uA _ _ _ _ _).trans ((sh_uA _ _ _ _ _).trans ((sh_uA _ _ _ _ _).trans ((sh_uA _ _ _ _ _).trans ((sh_uA _ _ _ _ _).trans ((sh_uA _ _ _ _ _).trans ((sh_uJ _ _ _ _ _).trans (K10_s k4)))))))))).trans (congrArg (fun z => Value.int (mI z)) ((fZ_uA _ _ _ _ _ _).trans ((fZ_uA _ _ _ _ _ _).trans ((fZ_uA _ _ _ _ _ _).trans ((fZ_uA _ _ _ _ _ _).trans ((fZ_uA _ _ _ _ _ _).trans ((fZ_uA _ _ _ _ _ _).trans ((fZ_uA _ _ _ _ _ _).trans (fZ_uJ _ _ _ _ _ _)))))))))) (isV_I _) rfl).trans ?_
    refine (tq_aload_n i_X12_keeps_215 rfl (isA_ref _) rfl).trans ?_
    refine (tq_getfield i_X12_keeps_216 ((sh_uA _ _ _ _ _).trans ((sh_uA _ _ _ _ _).trans ((sh_uA _ _ _ _ _).trans ((sh_uA _ _ _ _ _).trans ((sh_uA _ _ _ _ _).trans ((sh_uA _ _ _ _ _).trans ((sh_uA _ _ _ _ _).trans ((sh_uJ _ _ _ _ _).trans (K10_s k4))))))))) ((g_10_9 ((sh_uA _ _ _ _ _).trans ((sh_uA _ _ _ _ _).trans ((sh_uA _ _ _ _ _).trans ((sh_uA _ _ _ _ _).trans ((sh_uA _ _ _ _ _).trans ((sh_uA _ _ _ _ _).trans ((sh_uA _ _ _ _ _).trans ((sh_uJ _ _ _ _ _).trans (K10_s k4)))))))))).trans (congrArg (fun z => Value.int (mI z)) ((fZ_uA _ _ _ _ _ _).trans ((fZ_uA _ _ _ _ _ _).trans ((fZ_uA _ _ _ _ _ _).trans ((fZ_uA _ _ _ _ _ _).trans ((fZ_uA _ _ _ _ _ _).trans ((fZ_uA _ _ _ _ _ _).trans ((fZ_uA _ _ _ _ _ _).trans (fZ_uJ _ _ _ _ _ _)))))))))) (isV_I _) rfl).trans ?_
    exact c_X12_keeps_ i_X12_keeps_219 (ltd d_X12_keeps (by decide)) (isA_ref _) (stOk_1 _) rfl
theorem i_X12_keeps_222 : am_i m_X12_keeps 222 = some (222, .putfield 302, 3, [10, 26, 0], 0) := rfl
theorem b_X12_keeps_222 {a0 as1 : Nat} {v1 v2 v3 v4 v5 v6 : Value} {xs0 : Int} {h : am_H} (k1 : K10 h as1) (k2 : K10 h a0) : rn m_X12_keeps 222 [.ref a0, v1, v2, v3, v4, v5, v6] [.int (mI xs0), .ref as1] h = some (.inl none, uF 10 (uF 10 h as1 26 (.int (mI xs0))) a0 9 (.int (mI ((fZ h a0 9) + 1)))) := by
  refine (tq_putfield i_X12_keeps_222 (K10_s k1) (okf_10_26 _) rfl).trans ?_
  refine (tq_aload_n i_X12_keeps_225 rfl (isA_ref _) rfl).trans ?_
  refine (tq_dup i_X12_keeps_226 rfl rfl).trans ?_
  refine (tq_getfield i_X12_keeps_227 ((sh_uF _ _ _ _ _ _).trans (K10_s k2)) ((g_10_9 ((sh_uF _ _ _ _ _ _).trans (K10_s k2))).trans (congrArg (fun z => Value.int (mI z)) (fZ_uF_nk (K10_s k1) (okf_10_26 _) (by decide)))) (isV_I _) rfl).trans ?_
  refine (tq_iconst i_X12_keeps_230 rfl).trans ?_
  refine (tq_iadd i_X12_keeps_231 rfl).trans ?_
  refine (tq_putfield i_X12_keeps_232 ((sh_uF _ _ _ _ _ _).trans (K10_s k2)) (okf_10_9 _) rfl).trans ?_
  exact tq_return i_X12_keeps_235 r_X12_keeps
theorem keeps_ok (k : K10 h 51) {n kd q tl sl kp k8 B x5 x6 : Int} {N W U : Nat} {r3 : Option Nat} (en : fZ h 51 9 = n) (hn : 0 ≤ n ∧ n < 12) (e33 : fZ h 51 33 = kd) (hk : isKind kd) (e2 : fZ h 51 2 = q) (e3 : fZ h 51 3 = tl) (e4 : fZ h 51 4 = sl) (e5 : fZ h 51 5 = kp) (e26 : fZ h 51 26 = k8) (h8 : 0 ≤ k8 ∧ k8 ≤ 3) (eN : fA h 51 27 = some N ∧ fA h 51 30 = some (N + 1) ∧ fA h 51 31 = some (N + 2) ∧ fA h 51 32 = some (N + 3)) (hN : 73 < N) (hW : 73 < W) (hU : 73 < U) (sN : sh h N = (1, 0) ∧ gn h N = 256) (s1 : sh h (N + 1) = (1, 0)) (s2 : sh h (N + 2) = (1, 0)) (s3 : sh h (N + 3) = (1, 0)) (sW : sh h W = (1, 0)) (sU : sh h U = (1, 0)) (sV : ∀ V, r3 = some V → sh h V = (1, 0)) (hP : pixels (gZ h N)) (hC : pixels (gZ h 52)) (w5 : wr x5 = x5) (w6 : wr x6 = x6) (wB : wr B = B) : ∃ h', rn m_X12_keeps 0 [.ref 51, .ref W, .ref U, am_rv r3, .int (mI B), .int (mI x5), .int (mI x6)] [] h = some (.inl none, h') ∧ Md (fun a k => (53 ≤ a ∧ a ≤ 68) ∨ (a = 51 ∧ (k = 9 ∨ k = 26))) h h' ∧ ((∀ i, gZ h' 53 i = if i = n then kd else gZ h 53 i) ∧ (∀ i, gZ h' 54 i = if i = n then q else gZ h 54 i) ∧ (∀ i, gZ h' 55 i = if i = n then tl else gZ h 55 i) ∧ (∀ i, gZ h' 56 i = if i = n then sl else gZ h 56 i) ∧ (∀ i, gZ h' 57 i = if i = n then kp else gZ h 57 i) ∧ (∀ i, gZ h' 58 i = if i = n then x5 else gZ h 58 i) ∧ (∀ i, gZ h' 59 i = if i = n then x6 else gZ h 59 i) ∧ (∀ i, gZ h' 60 i = if i = n then B else gZ h 60 i)) ∧ (∀ i, gJ h' 61 i = if i = n then erK (gZ h N) (gZ h 52) 256 else gJ h 61 i) ∧ ((∀ i, gA h' 62 i = if i = n then some N else gA h 62 i) ∧ (∀ i, gA h' 63 i = if i = n then some (N + 3) else gA h 63 i) ∧ (∀ i, gA h' 65 i = if i = n then some W else gA h 65 i) ∧ (∀ i, gA h' 66 i = if i = n then some (N + 1) else gA h 66 i) ∧ (∀ i, gA h' 67 i = if i = n then some (N + 2) else gA h 67 i) ∧ (∀ i, gA h' 64 i = if i = 2 * n + 1 then r3 else if i = 2 * n then some U else gA h 64 i)) ∧ fZ h' 51 9 = n + 1 ∧ fZ h' 51 26 = (if kp = 0 then k8 else min (k8 + 1) 3) ∧ ∀ j, 0 ≤ j → j < (if kp = 0 then k8 else min (k8 + 1) 3) → gZ h' 68 j = if kp = 0 then gZ h 68 j else if j = 0 then n else gZ h 68 (j - 1) := by
  have wfz := fun j => wr_fZ h 51 j
  have w33 : wr kd = kd := by rw [← e33]; exact wfz _
  have w2 : wr q = q := by rw [← e2]; exact wfz _
  have w3 : wr tl = tl := by rw [← e3]; exact wfz _
  have w4 : wr sl = sl := by rw [← e4]; exact wfz _
  have wk : wr kp = kp := by rw [← e5]; exact wfz _
  have kb : kd = 105 ∨ kd = 112 ∨ kd = 98 := hk
  have st := b_X12_keeps_0 (a0 := 51) (a1 := W) (a2 := U) (r3 := r3) (x4 := B) (x5 := x5) (x6 := x6) (h := h) k (by rw [en]; exact hn) (by rw [e33]; omega)
  simp only [Nat.reduceAdd] at st
  rw [en, e33, e2, e3, e4, e5] at st
  have c1 : ∀ a, 53 ≤ a → a ≤ 60 → (sh h a).1 = 1 := fun a a0 a1 => by
    have : a = 53 ∨ a = 54 ∨ a = 55 ∨ a = 56 ∨ a = 57 ∨ a = 58 ∨ a = 59 ∨ a = 60 := by omega
    rcases this with rfl | rfl | rfl | rfl | rfl | rfl | rfl | rfl
    · exact congrArg Prod.fst (K10_s10 k)
    · exact congrArg Prod.fst (K10_s11 k)
    · exact congrArg Prod.fst (K10_s12 k)
    · exact congrArg Prod.fst (K10_s13 k)
    · exact congrArg Prod.fst (K10_s14 k)
    · exact congrArg Prod.fst (K10_s15 k)
    · exact congrArg Prod.fst (K10_s16 k)
    · exact congrArg Prod.fst (K10_s17 k)
  obtain ⟨hZ, eZ, mZ, g53, g54, g55, g56, g57, g58, g59, g60⟩ := kz_ok (h := h) c1 (n := n) (z0 := kd) (z1 := q) (z2 := tl) (z3 := sl) (z4 := kp) (z5 := x5) (z6 := x6) (z7 := B)
  rw [← eZ] at st
  clear eZ
  have kZ := K10_sm mZ.1 k
  have zN : gZ hZ N = gZ h N := md_Z mZ (by omega)
  have z52 : gZ hZ 52 = gZ h 52 := md_Z mZ (by omega)
  rw [errorNow_ok (P := gZ h N) kZ ((md_fA mZ (by omega)).trans eN.1) ((md_sh mZ _).trans sN.1) ((md_gn mZ _).trans sN.2) (by rw [zN]; exact hP) (by rw [z52]; exact hC), cl_v, zN, z52] at st
  have eb := erK_b hP hC (n := 256) (by omega)
  generalize hE : erK (gZ h N) (gZ h 52) 256 = er at *
  have c2 : ∀ a, 62 ≤ a → a ≤ 67 → (sh hZ a).1 = 4 := fun a a0 a1 => by
    have : a = 62 ∨ a = 63 ∨ a = 64 ∨ a = 65 ∨ a = 66 ∨ a = 67 := by omega
    rcases this with rfl | rfl | rfl | rfl | rfl | rfl
    · exact congrArg Prod.fst (K10_s19 kZ)
    · exact congrArg Prod.fst (K10_s20 kZ)
    · exact congrArg Prod.fst (K10_s21 kZ)
    · exact congrArg Prod.fst (K10_s22 kZ)
    · exact congrArg Prod.fst (K10_s23 kZ)
    · exact congrArg Prod.fst (K10_s24 kZ)
  obtain ⟨hA, eA, mA, j61, a62, a63, a65, a66, a67, a64⟩ := ka_ok (h := hZ) (congrArg Prod.fst (K10_s18 kZ)) c2 (n := n) (er := er) (m1 := 2 * n) (m2 := 2 * n + 1) (a0 := N) (a1 := N + 3) (a2 := W) (a3 := N + 1) (a4 := N + 2) (a5 := U) (r3 := r3) (by omega)
  have st2 := b_X12_keeps_110 (a0 := 51) (a1 := W) (a2 := U) (as2 := 61) (n_as2 := 12) (a0_now := N) (a0_level := N + 3) (a0_mode := N + 1) (a0_vector := N + 2) (r3 := r3) (v4 := .int (mI B)) (v5 := .int (mI x5)) (v6 := .int (mI x6)) (js0 := er) (h := hZ) (wr_id (z := n) (by omega) (by omega)) (K10_n18 kZ) (K10_s18 kZ) (by omega) kZ ((md_fA mZ (by omega)).trans eN.1) (by rw [(md_fZ mZ (by omega)).trans en]; exact hn) ((md_sh mZ _).trans sN.1) ((md_fA mZ (by omega)).trans eN.2.2.2) ((md_sh mZ _).trans s3) ((md_sh mZ _).trans sW) ((md_fA mZ (by omega)).trans eN.2.1) ((md_sh mZ _).trans s1) ((md_fA mZ (by omega)).trans eN.2.2.1) ((md_sh mZ _).trans s2) (by rw [(md_fZ mZ (by omega)).trans en, wr_id (by omega) (by omega)]; omega) ((md_sh mZ _).trans sU) (by rw [(md_fZ mZ (by omega)).trans en, wr_id (by omega) (by omega)]; omega) (by
    cases r3 with
    | none => exact elok_n _ _
    | some V => exact elok_6 (by simp only [sh_uA, sh_uJ]; exact (md_sh mZ _).trans (sV V rfl)))
  simp only [Nat.reduceAdd] at st2
  rw [(md_fZ mZ (a := 51) (k := 9) (by omega)).trans en, (md_fZ mZ (a := 51) (k := 5) (by omega)).trans e5, (md_fZ mZ (a := 51) (k := 26) (by omega)).trans e26, wr_id (z := 2 * n) (by omega) (by omega), wr_id (z := 2 * n + 1) (by omega) (by omega), ← eA] at st2
  clear eA
  have kA := K10_sm mA.1 kZ
  have mH : Md (fun a _ => 53 ≤ a ∧ a ≤ 67) h hA := Md_tr (Md_mono mZ fun a _ q => by omega) (Md_mono mA fun a _ q => by omega)
  rw [wl_id (by omega) (by omega)] at j61
  have zz : ∀ a, 53 ≤ a → a ≤ 60 → ∀ i, gZ hA a i = gZ hZ a i := fun a a0 a1 i => md_gZ mA (by omega) i
  have zj : ∀ i, gJ hZ 61 i = gJ h 61 i := fun i => md_gJ mZ (by omega) i
  have za : ∀ a, 62 ≤ a → gA hZ a = gA h a := fun a a0 => md_gA mZ (by omega)
  -- what is at the end
  have endd : ∀ (g : am_H) (S : Nat → Nat → Prop), Md S hA g → (∀ a k, S a k → a = 68 ∨ (a = 51 ∧ (k = 9 ∨ k = 26))) → ((∀ i, gZ g 53 i = if i = n then kd else gZ h 53 i) ∧ (∀ i, gZ g 54 i = if i = n then q else gZ h 54 i) ∧ (∀ i, gZ g 55 i = if i = n then tl else gZ h 55 i) ∧ (∀ i, gZ g 56 i = if i = n then sl else gZ h 56 i) ∧ (∀ i, gZ g 57 i = if i = n then kp else gZ h 57 i) ∧ (∀ i, gZ g 58 i = if i = n then x5 else gZ h 58 i) ∧ (∀ i, gZ g 59 i = if i = n then x6 else gZ h 59 i) ∧ (∀ i, gZ g 60 i = if i = n then B else gZ h 60 i)) ∧ (∀ i, gJ g 61 i = if i = n then er else gJ h 61 i) ∧ ((∀ i, gA g 62 i = if i = n then some N else gA h 62 i) ∧ (∀ i, gA g 63 i = if i = n then some (N + 3) else gA h 63 i) ∧ (∀ i, gA g 65 i = if i = n then some W else gA h 65 i) ∧ (∀ i, gA g 66 i = if i = n then some (N + 1) else gA h 66 i) ∧ (∀ i, gA g 67 i = if i = n then some (N + 2) else gA h 67 i) ∧ (∀ i, gA g 64 i = if i = 2 * n + 1 then r3 else if i = 2 * n then some U else gA h 64 i)) := by
    intro g S m hS
    have nS : ∀ a k, 53 ≤ a → a ≤ 67 → ¬ S a k := fun a k a0 a1 q => by have := hS a k q; omega
    have y : ∀ a, 53 ≤ a → a ≤ 60 → ∀ i, gZ g a i = gZ hZ a i := fun a a0 a1 i => (md_gZ m (nS _ _ a0 (by omega)) i).trans (zz a a0 a1 i)
    have ya : ∀ a, 62 ≤ a → a ≤ 67 → gA g a = gA hA a := fun a a0 a1 => md_gA m (nS _ _ (by omega) a1)
    refine ⟨⟨fun i => ?_, fun i => ?_, fun i => ?_, fun i => ?_, fun i => ?_, fun i => ?_, fun i => ?_, fun i => ?_⟩, fun i => ?_, fun i => ?_, fun i => ?_, fun i => ?_, fun i => ?_, fun i => ?_, fun i => ?_⟩
    · rw [y 53 (by decide) (by decide), g53, w33]
    · rw [y 54 (by decide) (by decide), g54, w2]
    · rw [y 55 (by decide) (by decide), g55, w3]
    · rw [y 56 (by decide) (by decide), g56, w4]
    · rw [y 57 (by decide) (by decide), g57, wk]
    · rw [y 58 (by decide) (by decide), g58, w5]
    · rw [y 59 (by decide) (by decide), g59, w6]
    · rw [y 60 (by decide) (by decide), g60, wB]
    · rw [md_gJ m (nS _ _ (by decide) (by decide)) i, j61, zj]
    · rw [ya 62 (by decide) (by decide), a62, za 62 (by decide)]
    · rw [ya 63 (by decide) (by decide), a63, za 63 (by decide)]
    · rw [ya 65 (by decide) (by decide), a65, za 65 (by decide)]
    · rw [ya 66 (by decide) (by decide), a66, za 66 (by decide)]
    · rw [ya 67 (by decide) (by decide), a67, za 67 (by decide)]
    · rw [ya 64 (by decide) (by decide), a64, za 64 (by decide)]
  have g68 : ∀ j, gZ hA 68 j = gZ h 68 j := fun j => md_gZ mH (by omega) j
  have f26 : fZ hA 51 26 = k8 := (md_fZ mH (by omega)).trans e26
  have f9 : fZ hA 51 9 = n := (md_fZ mH (by omega)).trans en
  by_cases q0 : kp = 0
  · rw [if_pos q0] at st2
    have mV : Md (fun a k => a = 51 ∧ k = 9) hA (uF 10 hA 51 9 (.int (mI (n + 1)))) := Md_uF (Sm_uF_10_9 _ _ _)
    have fV : fZ (uF 10 hA 51 9 (.int (mI (n + 1)))) 51 9 = n + 1 := by rw [fZ_uF_eq (K10_s kA) (okf_10_9 _), wr_id (by omega) (by omega)]
    obtain ⟨r1, r2, r3'⟩ := endd _ _ mV (fun a k q => Or.inr ⟨q.1, Or.inl q.2⟩)
    refine ⟨_, st.trans st2, Md_tr (Md_mono mH fun a _ q => Or.inl (by omega)) (Md_mono mV fun a k q => Or.inr ⟨q.1, Or.inl q.2⟩), r1, r2, r3', fV, ?_, fun j j0 j1 => ?_⟩
    · rw [if_pos q0]; exact (md_fZ mV (by omega)).trans f26
    · rw [if_pos q0, md_gZ mV (by omega)]; exact g68 j
  · rw [if_neg q0] at st2
    obtain ⟨hs, es, ms, zs⟩ := keeps2_ok (h := hA) (k8 := k8) (n := n) (K10_s25 kA) (K10_n25 kA) h8 (by omega)
    have ks := K10_sm ms.1 kA
    rw [es, cl_v, b_X12_keeps_222 ks ks, (md_fZ ms (a := 51) (k := 9) (by omega)).trans f9] at st2
    have mX : Md (fun a k => a = 51 ∧ k = 26) hs (uF 10 hs 51 26 (.int (mI (min (k8 + 1) 3)))) := Md_uF (Sm_uF_10_26 _ _ _)
    have fX : fZ (uF 10 hs 51 26 (.int (mI (min (k8 + 1) 3)))) 51 26 = min (k8 + 1) 3 := by rw [fZ_uF_eq (K10_s ks) (okf_10_26 _), wr_id (by omega) (by omega)]
    have kX := K10_sm mX.1 ks
    generalize uF 10 hs 51 26 (.int (mI (min (k8 + 1) 3))) = hX at *
    have mV : Md (fun a k => a = 51 ∧ k = 9) hX (uF 10 hX 51 9 (.int (mI (n + 1)))) := Md_uF (Sm_uF_10_9 _ _ _)
    have fV : fZ (uF 10 hX 51 9 (.int (mI (n + 1)))) 51 9 = n + 1 := by rw [fZ_uF_eq (K10_s kX) (okf_10_9 _), wr_id (by omega) (by omega)]
    have mT : Md (fun a k => a = 68 ∨ (a = 51 ∧ (k = 9 ∨ k = 26))) hA (uF 10 hX 51 9 (.int (mI (n + 1)))) := Md_tr (Md_mono ms fun a k q => Or.inl q) (Md_tr (Md_mono mX fun a k q => Or.inr ⟨q.1, Or.inr q.2⟩) (Md_mono mV fun a k q => Or.inr ⟨q.1, Or.inl q.2⟩))
    obtain ⟨r1, r2, r3'⟩ := endd _ _ mT (fun a k q => q)
    refine ⟨_, st.trans st2, Md_tr (Md_mono mH fun a _ q => Or.inl (by omega)) (Md_mono mT fun a k q => by omega), r1, r2, r3', fV, ?_, fun j j0 j1 => ?_⟩
    · rw [if_neg q0]; exact (md_fZ mV (by omega)).trans fX
    · rw [if_neg q0] at j1
      rw [if_neg q0, md_gZ mV (by omega), md_gZ mX (by omega), zs j j0 j1]
      by_cases j00 : j = 0
      · rw [if_pos j00, if_pos j00]
      · rw [if_neg j00, if_neg j00, g68]
end MK2
