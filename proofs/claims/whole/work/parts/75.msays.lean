/-! ===== the model says modes and vectors ===== -/
theorem MR_md {T : Nat → Nat → Prop} {h h' : am_H} {M : Nat} {A : cA} (m : Md T h h') (n1 : ¬ T (M + 18) 0) (n2 : ¬ T (M + 19) 0) (n3 : ¬ T M 36) (n4 : ¬ T M 37) (q : MR h M A) : MR h' M A := by
  obtain ⟨q1, q2, q3, q4, q5⟩ := q
  exact ⟨K10_sm m.1 q1, fun i i0 i1 => (md_gZ m n2 i).trans (q2 i i0 i1), (md_fJ m n3).trans q3, (md_fZ m n4).trans q4, by rw [md_Z m n1]; exact q5⟩
def SMl (M : Nat) : Nat → Nat → Prop := fun c k => SM M c k ∨ c = M + 20
/-- a run of the model that says these bits -/
def Msl (h h' : am_H) (M : Nat) (A : cA) (es : List (Int × Bool)) : Prop := Md (SMl M) h h' ∧ MR h' M (runA A es)
theorem Msl_tr {h h' h'' : am_H} {M : Nat} {A : cA} {xs ys : List (Int × Bool)} (a : Msl h h' M A xs) (b : Msl h' h'' M (runA A xs) ys) : Msl h h'' M A (xs ++ ys) := by
  refine ⟨Md_tr a.1 b.1, ?_⟩
  rw [runA_app]
  exact b.2
theorem Msl_nil {h : am_H} {M : Nat} {A : cA} (q : MR h M A) : Msl h h M A [] := ⟨Md_rf _ _, q⟩
theorem Ms_l {h h' : am_H} {M : Nat} {A : cA} {es : List (Int × Bool)} (a : Ms h h' M A es) : Msl h h' M A es := ⟨Md_mono a.1 fun c k q => Or.inl q, a.2⟩
theorem saysP {h : am_H} {M e : Nat} {A : cA} {c x1 : Int} {p : Prop} [Decidable p] (w1 : wr x1 = c) (q : MR h M A) (f : Ft A e 1 0) (hc : 0 ≤ c ∧ c < 70) : ∃ h', rn m_X12_says 0 [.ref M, .int (mI x1), .int (mI (bZ p)), am_J, am_J] [] h = some (.inl none, h') ∧ Ms h h' M A [(c, decide p)] := saysw w1 (wr_bZ _) bZ_iff q f hc
theorem saysPP {h : am_H} {M e : Nat} {A : cA} {p : Prop} [Decidable p] (q : MR h M A) (f : Ft A e 0 1) : ∃ h', rn m_X12_saysPlain 0 [.ref M, .int (mI (bZ p))] [] h = some (.inl none, h') ∧ Ms h h' M A [((-1 : Int), decide p)] := saysPw (wr_bZ _) bZ_iff q f
theorem SMl_n {M c k : Nat} (h : c ≠ M ∧ c ≠ M + 18 ∧ c ≠ M + 19 ∧ c ≠ M + 20) : ¬ SMl M c k := by unfold SMl SM; omega
theorem SM_n {M c k : Nat} (h : c ≠ M ∧ c ≠ M + 18 ∧ c ≠ M + 19) : ¬ SM M c k := by unfold SM; omega
theorem SM_f {M k : Nat} (h : k ≠ 36 ∧ k ≠ 37) : ¬ SM M M k := by unfold SM; omega
theorem SMl_f {M k : Nat} (h : k ≠ 36 ∧ k ≠ 37) : ¬ SMl M M k := by unfold SMl SM; omega
theorem i_X12_saysVector_0 : am_i m_X12_saysVector 0 = some (0, .iload_n 2, 1, [], 0) := rfl
theorem i_X12_saysVector_1 : am_i m_X12_saysVector 1 = some (1, .istore_n 3, 1, [], 0) := rfl
theorem b_X12_saysVector_0 {a0 : Nat} {x1 x2 : Int} {h : am_H} : rn m_X12_saysVector 0 [.ref a0, .int (mI x1), .int (mI x2), am_J, am_J] [] h = rn m_X12_saysVector 2 [.ref a0, .int (mI x1), .int (mI x2), .int (mI x2), am_J] [] h := by
  refine (tq_iload_n i_X12_saysVector_0 rfl rfl).trans ?_
  refine (tq_istore_n (L' := [.ref a0, .int (mI x1), .int (mI x2), .int (mI x2), am_J]) i_X12_saysVector_1 rfl rfl).trans ?_
  rfl
theorem i_X12_saysVector_2 : am_i m_X12_saysVector 2 = some (2, .iload_n 3, 1, [], 0) := rfl
theorem i_X12_saysVector_3 : am_i m_X12_saysVector 3 = some (3, .iload_n 2, 1, [], 0) := rfl
theorem i_X12_saysVector_4 : am_i m_X12_saysVector 4 = some (4, .iconst 2, 1, [], 2) := rfl
theorem i_X12_saysVector_5 : am_i m_X12_saysVector 5 = some (5, .iadd, 1, [], 0) := rfl
theorem i_X12_saysVector_6 : am_i m_X12_saysVector 6 = some (6, .if_icmp .ge 74, 3, [], 0) := rfl
theorem i_X12_saysVector_9 : am_i m_X12_saysVector 9 = some (9, .aload_n 0, 1, [], 0) := rfl
theorem i_X12_saysVector_10 : am_i m_X12_saysVector 10 = some (10, .getfield 168, 3, [10, 31, 0], 0) := rfl
theorem i_X12_saysVector_13 : am_i m_X12_saysVector 13 = some (13, .iconst 4, 1, [], 4) := rfl
theorem i_X12_saysVector_14 : am_i m_X12_saysVector 14 = some (14, .iload_n 1, 1, [], 0) := rfl
theorem i_X12_saysVector_15 : am_i m_X12_saysVector 15 = some (15, .imul, 1, [], 0) := rfl
theorem i_X12_saysVector_16 : am_i m_X12_saysVector 16 = some (16, .iload_n 3, 1, [], 0) := rfl
theorem i_X12_saysVector_17 : am_i m_X12_saysVector 17 = some (17, .iadd, 1, [], 0) := rfl
theorem i_X12_saysVector_18 : am_i m_X12_saysVector 18 = some (18, .iaload, 1, [], 0) := rfl
theorem i_X12_saysVector_19 : am_i m_X12_saysVector 19 = some (19, .aload_n 0, 1, [], 0) := rfl
theorem i_X12_saysVector_20 : am_i m_X12_saysVector 20 = some (20, .getfield 98, 3, [10, 38, 0], 0) := rfl
theorem i_X12_saysVector_23 : am_i m_X12_saysVector 23 = some (23, .iload_n 3, 1, [], 0) := rfl
theorem i_X12_saysVector_24 : am_i m_X12_saysVector 24 = some (24, .iaload, 1, [], 0) := rfl
theorem i_X12_saysVector_25 : am_i m_X12_saysVector 25 = some (25, .isub, 1, [], 0) := rfl
theorem i_X12_saysVector_26 : am_i m_X12_saysVector 26 = some (26, .istore 4, 2, [], 0) := rfl
theorem i_X12_saysVector_28 : am_i m_X12_saysVector 28 = some (28, .aload_n 0, 1, [], 0) := rfl
theorem i_X12_saysVector_29 : am_i m_X12_saysVector 29 = some (29, .bipush 8, 2, [], 8) := rfl
theorem i_X12_saysVector_31 : am_i m_X12_saysVector 31 = some (31, .iload 4, 2, [], 0) := rfl
theorem i_X12_saysVector_33 : am_i m_X12_saysVector 33 = some (33, .invokestatic 175, 3, [0, 0], 0) := rfl
theorem i_X12_saysVector_36 : am_i m_X12_saysVector 36 = some (36, .invokevirtual 254, 3, [138, 10], 0) := rfl
theorem i_X12_saysVector_80 : am_i m_X12_saysVector 80 = some (80, .return_, 1, [], 0) := rfl
theorem b_X12_saysVector_2 {a0 a0_vector n_a0_vector : Nat} {x1 x2 x3 x3' : Int} {v4 : Value} {h : am_H} (w3 : wr x3 = x3') (k1 : K10 h a0) (e2 : fA h a0 31 = some a0_vector) (n3 : gn h a0_vector = n_a0_vector) (s4 : sh h a0_vector = (1, 0)) (g5 : (¬ ((wr (x2 + 2)) ≤ x3')) → (0 ≤ wr ((4 * x1) + x3) ∧ wr ((4 * x1) + x3) < (n_a0_vector : Int))) (g6 : (¬ ((wr (x2 + 2)) ≤ x3')) → (0 ≤ x3' ∧ x3' < (4 : Int))) : rn m_X12_saysVector 2 [.ref a0, .int (mI x1), .int (mI x2), .int (mI x3), v4] [] h = if (wr (x2 + 2)) ≤ x3' then some (.inl none, h) else cl m_X12_saysVector 39 [.ref a0, .int (mI x1), .int (mI x2), .int (mI x3), .int (mI ((gZ h a0_vector (wr ((4 * x1) + x3))) - (gZ h (a0 + 20) x3')))] [] (rn m_X12_saysNumber 0 [.ref a0, .int (mI 8), .int (mI (max (wr ((gZ h a0_vector (wr ((4 * x1) + x3))) - (gZ h (a0 + 20) x3'))) (-(wr ((gZ h a0_vector (wr ((4 * x1) + x3))) - (gZ h (a0 + 20) x3')))))), am_J, am_J, am_J] [] h) := by
  refine (tq_iload_n i_X12_saysVector_2 rfl rfl).trans ?_
  refine (tq_iload_n i_X12_saysVector_3 rfl rfl).trans ?_
  refine (tq_iconst i_X12_saysVector_4 rfl).trans ?_
  refine (tq_iadd i_X12_saysVector_5 rfl).trans ?_
  refine (tq_icmp_ge (pt := 80) i_X12_saysVector_6 w3 rfl (by decide) rfl).trans ?_
  refine ite_congr rfl (fun c1 => ?_) (fun c1 => ?_)
  · exact tq_return i_X12_saysVector_80 r_X12_saysVector
  · refine (tq_aload_n i_X12_saysVector_9 rfl (isA_ref _) rfl).trans ?_
    refine (tq_getfield i_X12_saysVector_10 (K10_s k1) (gR (g_10_31 (K10_s k1)) e2) (isV_ref _) rfl).trans ?_
    refine (tq_iconst i_X12_saysVector_13 rfl).trans ?_
    refine (tq_iload_n i_X12_saysVector_14 rfl rfl).trans ?_
    refine (tq_imul i_X12_saysVector_15 rfl).trans ?_
    refine (tq_iload_n i_X12_saysVector_16 rfl rfl).trans ?_
    refine (tq_iadd i_X12_saysVector_17 rfl).trans ?_
    refine (tq_iaload i_X12_saysVector_18 s4 (by decide) rfl (g5 c1).1 (lt_gn n3 (g5 c1).2) rfl).trans ?_
    refine (tq_aload_n i_X12_saysVector_19 rfl (isA_ref _) rfl).trans ?_
    refine (tq_getfield i_X12_saysVector_20 (K10_s k1) (gR (g_10_38 (K10_s k1)) (K10_e38 k1)) (isV_ref _) rfl).trans ?_
    refine (tq_iload_n i_X12_saysVector_23 rfl rfl).trans ?_
    refine (tq_iaload i_X12_saysVector_24 (K10_s38 k1) (by decide) w3 (g6 c1).1 (lt_gn (K10_n38 k1) (g6 c1).2) rfl).trans ?_
    refine (tq_isub i_X12_saysVector_25 rfl).trans ?_
    refine (tq_istore (L' := [.ref a0, .int (mI x1), .int (mI x2), .int (mI x3), .int (mI ((gZ h a0_vector (wr ((4 * x1) + x3))) - (gZ h (a0 + 20) x3')))]) i_X12_saysVector_26 rfl rfl).trans ?_
    refine (tq_aload_n i_X12_saysVector_28 rfl (isA_ref _) rfl).trans ?_
    refine (tq_bipush i_X12_saysVector_29 rfl).trans ?_
    refine (tq_iload i_X12_saysVector_31 rfl rfl).trans ?_
    refine (tq_abs i_X12_saysVector_33 rfl (Nat.le_of_ble_eq_true rfl) rfl).trans ?_
    exact c_X12_saysNumber i_X12_saysVector_36 (K10_s k1) (ltd d_X12_saysVector (by decide)) stOk_0 rfl
theorem i_X12_saysVector_39 : am_i m_X12_saysVector 39 = some (39, .iload 4, 2, [], 0) := rfl
theorem i_X12_saysVector_41 : am_i m_X12_saysVector 41 = some (41, .ifCond .eq 17, 3, [], 0) := rfl
theorem i_X12_saysVector_44 : am_i m_X12_saysVector 44 = some (44, .aload_n 0, 1, [], 0) := rfl
theorem i_X12_saysVector_45 : am_i m_X12_saysVector 45 = some (45, .iload 4, 2, [], 0) := rfl
theorem i_X12_saysVector_47 : am_i m_X12_saysVector 47 = some (47, .ifCond .ge 7, 3, [], 0) := rfl
theorem i_X12_saysVector_50 : am_i m_X12_saysVector 50 = some (50, .iconst 1, 1, [], 1) := rfl
theorem i_X12_saysVector_51 : am_i m_X12_saysVector 51 = some (51, .goto 4, 3, [], 0) := rfl
theorem i_X12_saysVector_54 : am_i m_X12_saysVector 54 = some (54, .iconst 0, 1, [], 0) := rfl
theorem i_X12_saysVector_55 : am_i m_X12_saysVector 55 = some (55, .invokevirtual 250, 3, [91, 10], 0) := rfl
theorem b_X12_saysVector_39 {a0 : Nat} {x1 x2 x3 x4 x4' : Int} {h : am_H} (w4 : wr x4 = x4') (k1 : K10 h a0) : rn m_X12_saysVector 39 [.ref a0, .int (mI x1), .int (mI x2), .int (mI x3), .int (mI x4)] [] h = if x4' = 0 then rn m_X12_saysVector 58 [.ref a0, .int (mI x1), .int (mI x2), .int (mI x3), .int (mI x4)] [] h else cl m_X12_saysVector 58 [.ref a0, .int (mI x1), .int (mI x2), .int (mI x3), .int (mI x4)] [] (rn m_X12_saysPlain 0 [.ref a0, .int (mI (bZ (¬ (0 ≤ x4'))))] [] h) := by
  refine (tq_iload i_X12_saysVector_39 rfl rfl).trans ?_
  refine (tq_if_eq (pt := 58) i_X12_saysVector_41 w4 (by decide) rfl).trans ?_
  refine ite_congr rfl (fun c1 => ?_) (fun c1 => ?_)
  · rfl
  · refine (tq_aload_n i_X12_saysVector_44 rfl (isA_ref _) rfl).trans ?_
    refine (tq_iload i_X12_saysVector_45 rfl rfl).trans ?_
    refine (tq_if_ge (pt := 54) i_X12_saysVector_47 w4 (by decide) rfl).trans ?_
    refine Eq.trans (b := if 0 ≤ x4' then rn m_X12_saysVector 55 [.ref a0, .int (mI x1), .int (mI x2), .int (mI x3), .int (mI x4)] [.int (mI 0), .ref a0] h else rn m_X12_saysVector 55 [.ref a0, .int (mI x1), .int (mI x2), .int (mI x3), .int (mI x4)] [.int (mI 1), .ref a0] h) (ite_congr rfl (fun c2 => ?_) (fun c2 => ?_)) ?_
    · refine (tq_iconst i_X12_saysVector_54 rfl).trans ?_
      rfl
    · refine (tq_iconst i_X12_saysVector_50 rfl).trans ?_
      refine (tq_goto (pc' := 55) i_X12_saysVector_51 (by decide)).trans ?_
      rfl
    refine Eq.trans ite_b01 ?_
    exact c_X12_saysPlain i_X12_saysVector_55 (K10_s k1) (ltd d_X12_saysVector (by decide)) stOk_0 rfl
theorem i_X12_saysVector_58 : am_i m_X12_saysVector 58 = some (58, .aload_n 0, 1, [], 0) := rfl
theorem i_X12_saysVector_59 : am_i m_X12_saysVector 59 = some (59, .getfield 98, 3, [10, 38, 0], 0) := rfl
theorem i_X12_saysVector_62 : am_i m_X12_saysVector 62 = some (62, .iload_n 3, 1, [], 0) := rfl
theorem i_X12_saysVector_63 : am_i m_X12_saysVector 63 = some (63, .aload_n 0, 1, [], 0) := rfl
theorem i_X12_saysVector_64 : am_i m_X12_saysVector 64 = some (64, .getfield 168, 3, [10, 31, 0], 0) := rfl
theorem i_X12_saysVector_67 : am_i m_X12_saysVector 67 = some (67, .iconst 4, 1, [], 4) := rfl
theorem i_X12_saysVector_68 : am_i m_X12_saysVector 68 = some (68, .iload_n 1, 1, [], 0) := rfl
theorem i_X12_saysVector_69 : am_i m_X12_saysVector 69 = some (69, .imul, 1, [], 0) := rfl
theorem i_X12_saysVector_70 : am_i m_X12_saysVector 70 = some (70, .iload_n 3, 1, [], 0) := rfl
theorem i_X12_saysVector_71 : am_i m_X12_saysVector 71 = some (71, .iadd, 1, [], 0) := rfl
theorem i_X12_saysVector_72 : am_i m_X12_saysVector 72 = some (72, .iaload, 1, [], 0) := rfl
theorem i_X12_saysVector_73 : am_i m_X12_saysVector 73 = some (73, .iastore, 1, [], 0) := rfl
theorem i_X12_saysVector_74 : am_i m_X12_saysVector 74 = some (74, .iinc 3 1, 3, [], 0) := rfl
theorem i_X12_saysVector_77 : am_i m_X12_saysVector 77 = some (77, .goto (-75), 3, [], 0) := rfl
theorem b_X12_saysVector_58 {a0 a0_vector n_a0_vector : Nat} {x1 x2 x3 x3' : Int} {v4 : Value} {h : am_H} (w3 : wr x3 = x3') (k1 : K10 h a0) (e2 : fA h a0 31 = some a0_vector) (n3 : gn h a0_vector = n_a0_vector) (s4 : sh h a0_vector = (1, 0)) (g5 : 0 ≤ wr ((4 * x1) + x3) ∧ wr ((4 * x1) + x3) < (n_a0_vector : Int)) (g6 : 0 ≤ x3' ∧ x3' < (4 : Int)) : rn m_X12_saysVector 58 [.ref a0, .int (mI x1), .int (mI x2), .int (mI x3), v4] [] h = rn m_X12_saysVector 2 [.ref a0, .int (mI x1), .int (mI x2), .int (mI (x3 + 1)), v4] [] (uZ h (a0 + 20) x3' (gZ h a0_vector (wr ((4 * x1) + x3)))) := by
  refine (tq_aload_n i_X12_saysVector_58 rfl (isA_ref _) rfl).trans ?_
  refine (tq_getfield i_X12_saysVector_59 (K10_s k1) (gR (g_10_38 (K10_s k1)) (K10_e38 k1)) (isV_ref _) rfl).trans ?_
  refine (tq_iload_n i_X12_saysVector_62 rfl rfl).trans ?_
  refine (tq_aload_n i_X12_saysVector_63 rfl (isA_ref _) rfl).trans ?_
  refine (tq_getfield i_X12_saysVector_64 (K10_s k1) (gR (g_10_31 (K10_s k1)) e2) (isV_ref _) rfl).trans ?_
  refine (tq_iconst i_X12_saysVector_67 rfl).trans ?_
  refine (tq_iload_n i_X12_saysVector_68 rfl rfl).trans ?_
  refine (tq_imul i_X12_saysVector_69 rfl).trans ?_
  refine (tq_iload_n i_X12_saysVector_70 rfl rfl).trans ?_
  refine (tq_iadd i_X12_saysVector_71 rfl).trans ?_
  refine (tq_iaload i_X12_saysVector_72 s4 (by decide) rfl g5.1 (lt_gn n3 g5.2) rfl).trans ?_
  refine (tq_iastore i_X12_saysVector_73 (K10_s38 k1) w3 g6.1 (lt_gn (K10_n38 k1) g6.2) rfl).trans ?_
  refine (tq_iinc (L' := [.ref a0, .int (mI x1), .int (mI x2), .int (mI (x3 + 1)), v4]) i_X12_saysVector_74 rfl rfl rfl).trans ?_
  refine (tq_goto (pc' := 2) i_X12_saysVector_77 (by decide)).trans ?_
  rfl
theorem sV1_ok {h : am_H} {M V e : Nat} {A : cA} {r k a b x2 : Int} {v4 : Value} (q : MR h M A) (eV : fA h M 31 = some V) (gV : gn h V = 64) (sV : sh h V = (1, 0)) (nV : M + 22 < V) (hr : 0 ≤ r ∧ r < 16) (hk : 0 ≤ k ∧ k < 4) (hx : 0 ≤ x2 ∧ x2 ≤ 2 ∧ k < x2 + 2) (ea : gZ h V (4 * r + k) = a) (eb : gZ h (M + 20) k = b) (ha : -8 ≤ a ∧ a ≤ 8) (hb : -8 ≤ b ∧ b ≤ 8) (f : Ft A e 12 6) : ∃ h', rn m_X12_saysVector 2 [.ref M, .int (mI r), .int (mI x2), .int (mI k), v4] [] h = rn m_X12_saysVector 2 [.ref M, .int (mI r), .int (mI x2), .int (mI (k + 1)), .int (mI (a - b))] [] h' ∧ Msl h h' M A (evS (a - b)) ∧ gZ h' (M + 20) k = a ∧ ∀ j, j ≠ k → gZ h' (M + 20) j = gZ h (M + 20) j := by
  have k10 := q.1
  have w1 : wr (4 * r + k) = 4 * r + k := wr_id (by omega) (by omega)
  have st := b_X12_saysVector_2 (a0 := M) (a0_vector := V) (n_a0_vector := 64) (x1 := r) (x2 := x2) (x3 := k) (v4 := v4) (h := h) (wr_id (by omega) (by omega)) k10 eV gV sV (fun _ => by rw [w1]; omega) (fun _ => hk)
  rw [w1, ea, eb, wr_id (z := x2 + 2) (by omega) (by omega), if_neg (by omega), wr_id (z := a - b) (by omega) (by omega), show max (a - b) (-(a - b)) = iabs (a - b) from rfl] at st
  have ne := n_evN8 (r := a - b) (by omega)
  obtain ⟨h1, e1, r1⟩ := saysNumber_ok (c := 8) (n := iabs (a - b)) q (Ft_mono f (by omega) (by omega)) (by decide) (by unfold iabs; omega)
  have f1 : Ft (runA A (evN 8 (iabs (a - b)))) (e + (evN 8 (iabs (a - b))).length) 0 1 := Ft_run _ (Ft_mono f (by omega) (by omega))
  have k1 := r1.2.1
  have st1 := b_X12_saysVector_39 (a0 := M) (x1 := r) (x2 := x2) (x3 := k) (x4 := a - b) (h := h1) (wr_id (by omega) (by omega)) k1
  have sg : ∃ h2, rn m_X12_saysVector 39 [.ref M, .int (mI r), .int (mI x2), .int (mI k), .int (mI (a - b))] [] h1 = rn m_X12_saysVector 58 [.ref M, .int (mI r), .int (mI x2), .int (mI k), .int (mI (a - b))] [] h2 ∧ Ms h h2 M A (evS (a - b)) := by
    by_cases z : a - b = 0
    · rw [if_pos z] at st1
      refine ⟨h1, st1, ?_⟩
      unfold evS
      rw [if_pos z, List.append_nil]
      exact r1
    · rw [if_neg z, bZ_congr (q := a - b < 0) (by omega)] at st1
      obtain ⟨h2, e2, r2⟩ := saysPP (p := a - b < 0) r1.2 f1
      rw [e2, cl_n] at st1
      refine ⟨h2, st1, ?_⟩
      unfold evS
      rw [if_neg z]
      exact Ms_tr r1 r2
  obtain ⟨h2, e2, r2⟩ := sg
  have nS : ∀ k, ¬ SM M V k := fun k => SM_n (by omega)
  have n20 : ∀ k, ¬ SM M (M + 20) k := fun k => SM_n (by omega)
  have k2 := r2.2.1
  have ea2 : gZ h2 V (4 * r + k) = a := (md_gZ r2.1 (nS 0) _).trans ea
  have st2 := b_X12_saysVector_58 (a0 := M) (a0_vector := V) (n_a0_vector := 64) (x1 := r) (x2 := x2) (x3 := k) (v4 := .int (mI (a - b))) (h := h2) (wr_id (by omega) (by omega)) k2 ((md_fA r2.1 (SM_f (by decide))).trans eV) ((md_gn r2.1 _).trans gV) ((md_sh r2.1 _).trans sV) (by rw [w1]; omega) hk
  rw [w1, ea2] at st2
  rw [e1, cl_n, e2, st2] at st
  have mu : Md (fun c _ => c = M + 20) h2 (uZ h2 (M + 20) k a) := Md_uZ _ _ _ _
  refine ⟨_, st, ⟨Md_tr (Md_mono r2.1 fun c k q => Or.inl q) (Md_mono mu fun c k q => Or.inr q), MR_md mu (by omega) (by omega) (by omega) (by omega) r2.2⟩, ?_, fun j hj => ?_⟩
  · rw [gZ_uZ_eq _ (sh1 (K10_s38 k2)) rfl]
    exact wr_id (by omega) (by omega)
  · rw [gZ_uZ_nj _ (sh1 (K10_s38 k2)) hj]
    exact md_gZ r2.1 (n20 0) j
theorem sV_ok {h : am_H} {M V e : Nat} {A : cA} {r x2 v l : Int} (q : MR h M A) (eV : fA h M 31 = some V) (gV : gn h V = 64) (sV : sh h V = (1, 0)) (nV : M + 22 < V) (hr : 0 ≤ r ∧ r < 16) (hx : x2 = 0 ∨ x2 = 2) (ea : gZ h V (4 * r + x2) = vX v ∧ gZ h V (4 * r + (x2 + 1)) = vY v) (eb : gZ h (M + 20) x2 = vX l ∧ gZ h (M + 20) (x2 + 1) = vY l) (ov : okv v) (ol : okv l) (f : Ft A e 24 12) : ∃ h', rn m_X12_saysVector 0 [.ref M, .int (mI r), .int (mI x2), am_J, am_J] [] h = some (.inl none, h') ∧ Msl h h' M A (evV v l) ∧ (gZ h' (M + 20) x2 = vX v ∧ gZ h' (M + 20) (x2 + 1) = vY v) ∧ ∀ j, j ≠ x2 → j ≠ x2 + 1 → gZ h' (M + 20) j = gZ h (M + 20) j := by
  have wv := okv_w ov
  have wl := okv_w ol
  unfold okw at wv wl
  have rr := okv_r ov ol
  have n1 := n_evS rr.1
  obtain ⟨h1, e1, r1, g1, o1⟩ := sV1_ok (k := x2) (x2 := x2) (v4 := am_J) q eV gV sV nV hr (by omega) (by omega) ea.1 eb.1 wv.1 wl.1 (Ft_mono f (by omega) (by omega))
  have f1 : Ft (runA A (evS (vX v - vX l))) (e + (evS (vX v - vX l)).length) 12 6 := Ft_run _ (Ft_mono f (by omega) (by omega))
  have nS : ∀ k, ¬ SMl M V k := fun k => SMl_n (by omega)
  obtain ⟨h2, e2, r2, g2, o2⟩ := sV1_ok (k := x2 + 1) (x2 := x2) (v4 := .int (mI (vX v - vX l))) r1.2 ((md_fA r1.1 (SMl_f (by decide))).trans eV) ((md_gn r1.1 _).trans gV) ((md_sh r1.1 _).trans sV) nV hr (by omega) (by omega) ((md_gZ r1.1 (nS 0) _).trans ea.2) ((o1 _ (by omega)).trans eb.2) wv.2 wl.2 f1
  have k2 := r2.2.1
  have st2 := b_X12_saysVector_2 (a0 := M) (a0_vector := V) (n_a0_vector := 64) (x1 := r) (x2 := x2) (x3 := x2 + 1 + 1) (v4 := .int (mI (vY v - vY l))) (h := h2) (wr_id (by omega) (by omega)) k2 ((md_fA r2.1 (SMl_f (by decide))).trans ((md_fA r1.1 (SMl_f (by decide))).trans eV)) ((md_gn r2.1 _).trans ((md_gn r1.1 _).trans gV)) ((md_sh r2.1 _).trans ((md_sh r1.1 _).trans sV)) (fun g => absurd (by rw [wr_id (by omega) (by omega)]; omega) g) (fun g => absurd (by rw [wr_id (by omega) (by omega)]; omega) g)
  rw [wr_id (z := x2 + 2) (by omega) (by omega), if_pos (by omega)] at st2
  exact ⟨h2, (b_X12_saysVector_0).trans (e1.trans (e2.trans st2)), Msl_tr r1 r2, ⟨(o2 _ (by omega)).trans g1, g2⟩, fun j j0 j1 => (o2 j j1).trans (o1 j j0)⟩
theorem i_X12_saysMode_0 : am_i m_X12_saysMode 0 = some (0, .aload_n 0, 1, [], 0) := rfl
theorem i_X12_saysMode_1 : am_i m_X12_saysMode 1 = some (1, .getfield 258, 3, [10, 30, 0], 0) := rfl
theorem i_X12_saysMode_4 : am_i m_X12_saysMode 4 = some (4, .iload_n 1, 1, [], 0) := rfl
theorem i_X12_saysMode_5 : am_i m_X12_saysMode 5 = some (5, .iaload, 1, [], 0) := rfl
theorem i_X12_saysMode_6 : am_i m_X12_saysMode 6 = some (6, .istore_n 2, 1, [], 0) := rfl
theorem i_X12_saysMode_7 : am_i m_X12_saysMode 7 = some (7, .aload_n 0, 1, [], 0) := rfl
theorem i_X12_saysMode_8 : am_i m_X12_saysMode 8 = some (8, .getfield 189, 3, [10, 33, 0], 0) := rfl
theorem i_X12_saysMode_11 : am_i m_X12_saysMode 11 = some (11, .bipush 105, 2, [], 105) := rfl
theorem i_X12_saysMode_13 : am_i m_X12_saysMode 13 = some (13, .if_icmp .eq 18, 3, [], 0) := rfl
theorem i_X12_saysMode_16 : am_i m_X12_saysMode 16 = some (16, .aload_n 0, 1, [], 0) := rfl
theorem i_X12_saysMode_17 : am_i m_X12_saysMode 17 = some (17, .iconst 1, 1, [], 1) := rfl
theorem i_X12_saysMode_18 : am_i m_X12_saysMode 18 = some (18, .iload_n 2, 1, [], 0) := rfl
theorem i_X12_saysMode_19 : am_i m_X12_saysMode 19 = some (19, .iconst 3, 1, [], 3) := rfl
theorem i_X12_saysMode_20 : am_i m_X12_saysMode 20 = some (20, .if_icmp .le 7, 3, [], 0) := rfl
theorem i_X12_saysMode_23 : am_i m_X12_saysMode 23 = some (23, .iconst 1, 1, [], 1) := rfl
theorem i_X12_saysMode_24 : am_i m_X12_saysMode 24 = some (24, .goto 4, 3, [], 0) := rfl
theorem i_X12_saysMode_27 : am_i m_X12_saysMode 27 = some (27, .iconst 0, 1, [], 0) := rfl
theorem i_X12_saysMode_28 : am_i m_X12_saysMode 28 = some (28, .invokevirtual 246, 3, [90, 10], 0) := rfl
theorem b_X12_saysMode_0 {a0 a0_mode n_a0_mode : Nat} {x1 x1' : Int} {h : am_H} (w1 : wr x1 = x1') (k1 : K10 h a0) (e2 : fA h a0 30 = some a0_mode) (n3 : gn h a0_mode = n_a0_mode) (s4 : sh h a0_mode = (1, 0)) (g5 : 0 ≤ x1' ∧ x1' < (n_a0_mode : Int)) : rn m_X12_saysMode 0 [.ref a0, .int (mI x1), am_J] [] h = if (fZ h a0 33) = 105 then rn m_X12_saysMode 31 [.ref a0, .int (mI x1), .int (mI (gZ h a0_mode x1'))] [] h else cl m_X12_saysMode 31 [.ref a0, .int (mI x1), .int (mI (gZ h a0_mode x1'))] [] (rn m_X12_says 0 [.ref a0, .int (mI 1), .int (mI (bZ (¬ ((gZ h a0_mode x1') ≤ 3)))), am_J, am_J] [] h) := by
  refine (tq_aload_n i_X12_saysMode_0 rfl (isA_ref _) rfl).trans ?_
  refine (tq_getfield i_X12_saysMode_1 (K10_s k1) (gR (g_10_30 (K10_s k1)) e2) (isV_ref _) rfl).trans ?_
  refine (tq_iload_n i_X12_saysMode_4 rfl rfl).trans ?_
  refine (tq_iaload i_X12_saysMode_5 s4 (by decide) w1 g5.1 (lt_gn n3 g5.2) rfl).trans ?_
  refine (tq_istore_n (L' := [.ref a0, .int (mI x1), .int (mI (gZ h a0_mode x1'))]) i_X12_saysMode_6 rfl rfl).trans ?_
  refine (tq_aload_n i_X12_saysMode_7 rfl (isA_ref _) rfl).trans ?_
  refine (tq_getfield i_X12_saysMode_8 (K10_s k1) (g_10_33 (K10_s k1)) (isV_I _) rfl).trans ?_
  refine (tq_bipush i_X12_saysMode_11 rfl).trans ?_
  refine (tq_icmp_eq (pt := 31) i_X12_saysMode_13 (wr_fZ _ _ _) w_105 (by decide) rfl).trans ?_
  refine ite_congr rfl (fun c1 => ?_) (fun c1 => ?_)
  · rfl
  · refine (tq_aload_n i_X12_saysMode_16 rfl (isA_ref _) rfl).trans ?_
    refine (tq_iconst i_X12_saysMode_17 rfl).trans ?_
    refine (tq_iload_n i_X12_saysMode_18 rfl rfl).trans ?_
    refine (tq_iconst i_X12_saysMode_19 rfl).trans ?_
    refine (tq_icmp_le (pt := 27) i_X12_saysMode_20 (wr_gZ _ _ _) w_3 (by decide) rfl).trans ?_
    refine Eq.trans (b := if (gZ h a0_mode x1') ≤ 3 then rn m_X12_saysMode 28 [.ref a0, .int (mI x1), .int (mI (gZ h a0_mode x1'))] [.int (mI 0), .int (mI 1), .ref a0] h else rn m_X12_saysMode 28 [.ref a0, .int (mI x1), .int (mI (gZ h a0_mode x1'))] [.int (mI 1), .int (mI 1), .ref a0] h) (ite_congr rfl (fun c2 => ?_) (fun c2 => ?_)) ?_
    · refine (tq_iconst i_X12_saysMode_27 rfl).trans ?_
      rfl
    · refine (tq_iconst i_X12_saysMode_23 rfl).trans ?_
      refine (tq_goto (pc' := 28) i_X12_saysMode_24 (by decide)).trans ?_
      rfl
    refine Eq.trans ite_b01 ?_
    exact c_X12_says i_X12_saysMode_28 (K10_s k1) (ltd d_X12_saysMode (by decide)) stOk_0 rfl
theorem i_X12_saysMode_31 : am_i m_X12_saysMode 31 = some (31, .iload_n 2, 1, [], 0) := rfl
theorem i_X12_saysMode_32 : am_i m_X12_saysMode 32 = some (32, .iconst 3, 1, [], 3) := rfl
theorem i_X12_saysMode_33 : am_i m_X12_saysMode 33 = some (33, .if_icmp .le 74, 3, [], 0) := rfl
theorem i_X12_saysMode_36 : am_i m_X12_saysMode 36 = some (36, .aload_n 0, 1, [], 0) := rfl
theorem i_X12_saysMode_37 : am_i m_X12_saysMode 37 = some (37, .getfield 189, 3, [10, 33, 0], 0) := rfl
theorem i_X12_saysMode_40 : am_i m_X12_saysMode 40 = some (40, .bipush 98, 2, [], 98) := rfl
theorem i_X12_saysMode_42 : am_i m_X12_saysMode 42 = some (42, .if_icmp .ne 40, 3, [], 0) := rfl
theorem i_X12_saysMode_45 : am_i m_X12_saysMode 45 = some (45, .aload_n 0, 1, [], 0) := rfl
theorem i_X12_saysMode_46 : am_i m_X12_saysMode 46 = some (46, .iconst 2, 1, [], 2) := rfl
theorem i_X12_saysMode_47 : am_i m_X12_saysMode 47 = some (47, .iload_n 2, 1, [], 0) := rfl
theorem i_X12_saysMode_48 : am_i m_X12_saysMode 48 = some (48, .bipush 6, 2, [], 6) := rfl
theorem i_X12_saysMode_50 : am_i m_X12_saysMode 50 = some (50, .if_icmp .ne 7, 3, [], 0) := rfl
theorem i_X12_saysMode_53 : am_i m_X12_saysMode 53 = some (53, .iconst 1, 1, [], 1) := rfl
theorem i_X12_saysMode_54 : am_i m_X12_saysMode 54 = some (54, .goto 4, 3, [], 0) := rfl
theorem i_X12_saysMode_57 : am_i m_X12_saysMode 57 = some (57, .iconst 0, 1, [], 0) := rfl
theorem i_X12_saysMode_58 : am_i m_X12_saysMode 58 = some (58, .invokevirtual 246, 3, [90, 10], 0) := rfl
theorem i_X12_saysMode_107 : am_i m_X12_saysMode 107 = some (107, .aload_n 0, 1, [], 0) := rfl
theorem i_X12_saysMode_108 : am_i m_X12_saysMode 108 = some (108, .iconst 4, 1, [], 4) := rfl
theorem i_X12_saysMode_109 : am_i m_X12_saysMode 109 = some (109, .iload_n 2, 1, [], 0) := rfl
theorem i_X12_saysMode_110 : am_i m_X12_saysMode 110 = some (110, .iconst 1, 1, [], 1) := rfl
theorem i_X12_saysMode_111 : am_i m_X12_saysMode 111 = some (111, .if_icmp .le 7, 3, [], 0) := rfl
theorem i_X12_saysMode_114 : am_i m_X12_saysMode 114 = some (114, .iconst 1, 1, [], 1) := rfl
theorem i_X12_saysMode_115 : am_i m_X12_saysMode 115 = some (115, .goto 4, 3, [], 0) := rfl
theorem i_X12_saysMode_118 : am_i m_X12_saysMode 118 = some (118, .iconst 0, 1, [], 0) := rfl
theorem i_X12_saysMode_119 : am_i m_X12_saysMode 119 = some (119, .invokevirtual 246, 3, [90, 10], 0) := rfl
theorem b_X12_saysMode_31 {a0 : Nat} {x1 x2 x2' : Int} {h : am_H} (w2 : wr x2 = x2') (k1 : K10 h a0) : rn m_X12_saysMode 31 [.ref a0, .int (mI x1), .int (mI x2)] [] h = if x2' ≤ 3 then cl m_X12_saysMode 122 [.ref a0, .int (mI x1), .int (mI x2)] [] (rn m_X12_says 0 [.ref a0, .int (mI 4), .int (mI (bZ (¬ (x2' ≤ 1)))), am_J, am_J] [] h) else if ¬ (fZ h a0 33) = 98 then rn m_X12_saysMode 82 [.ref a0, .int (mI x1), .int (mI x2)] [] h else cl m_X12_saysMode 61 [.ref a0, .int (mI x1), .int (mI x2)] [] (rn m_X12_says 0 [.ref a0, .int (mI 2), .int (mI (bZ (¬ (¬ x2' = 6)))), am_J, am_J] [] h) := by
  refine (tq_iload_n i_X12_saysMode_31 rfl rfl).trans ?_
  refine (tq_iconst i_X12_saysMode_32 rfl).trans ?_
  refine (tq_icmp_le (pt := 107) i_X12_saysMode_33 w2 w_3 (by decide) rfl).trans ?_
  refine ite_congr rfl (fun c1 => ?_) (fun c1 => ?_)
  · refine (tq_aload_n i_X12_saysMode_107 rfl (isA_ref _) rfl).trans ?_
    refine (tq_iconst i_X12_saysMode_108 rfl).trans ?_
    refine (tq_iload_n i_X12_saysMode_109 rfl rfl).trans ?_
    refine (tq_iconst i_X12_saysMode_110 rfl).trans ?_
    refine (tq_icmp_le (pt := 118) i_X12_saysMode_111 w2 w_1 (by decide) rfl).trans ?_
    refine Eq.trans (b := if x2' ≤ 1 then rn m_X12_saysMode 119 [.ref a0, .int (mI x1), .int (mI x2)] [.int (mI 0), .int (mI 4), .ref a0] h else rn m_X12_saysMode 119 [.ref a0, .int (mI x1), .int (mI x2)] [.int (mI 1), .int (mI 4), .ref a0] h) (ite_congr rfl (fun c2 => ?_) (fun c2 => ?_)) ?_
    · refine (tq_iconst i_X12_saysMode_118 rfl).trans ?_
      rfl
    · refine (tq_iconst i_X12_saysMode_114 rfl).trans ?_
      refine (tq_goto (pc' := 119) i_X12_saysMode_115 (by decide)).trans ?_
      rfl
    refine Eq.trans ite_b01 ?_
    exact c_X12_says i_X12_saysMode_119 (K10_s k1) (ltd d_X12_saysMode (by decide)) stOk_0 rfl
  · refine (tq_aload_n i_X12_saysMode_36 rfl (isA_ref _) rfl).trans ?_
    refine (tq_getfield i_X12_saysMode_37 (K10_s k1) (g_10_33 (K10_s k1)) (isV_I _) rfl).trans ?_
    refine (tq_bipush i_X12_saysMode_40 rfl).trans ?_
    refine (tq_icmp_ne (pt := 82) i_X12_saysMode_42 (wr_fZ _ _ _) w_98 (by decide) rfl).trans ?_
    refine ite_congr rfl (fun c3 => ?_) (fun c3 => ?_)
    · rfl
    · refine (tq_aload_n i_X12_saysMode_45 rfl (isA_ref _) rfl).trans ?_
      refine (tq_iconst i_X12_saysMode_46 rfl).trans ?_
      refine (tq_iload_n i_X12_saysMode_47 rfl rfl).trans ?_
      refine (tq_bipush i_X12_saysMode_48 rfl).trans ?_
      refine (tq_icmp_ne (pt := 57) i_X12_saysMode_50 w2 w_6 (by decide) rfl).trans ?_
      refine Eq.trans (b := if ¬ x2' = 6 then rn m_X12_saysMode 58 [.ref a0, .int (mI x1), .int (mI x2)] [.int (mI 0), .int (mI 2), .ref a0] h else rn m_X12_saysMode 58 [.ref a0, .int (mI x1), .int (mI x2)] [.int (mI 1), .int (mI 2), .ref a0] h) (ite_congr rfl (fun c4 => ?_) (fun c4 => ?_)) ?_
      · refine (tq_iconst i_X12_saysMode_57 rfl).trans ?_
        rfl
      · refine (tq_iconst i_X12_saysMode_53 rfl).trans ?_
        refine (tq_goto (pc' := 58) i_X12_saysMode_54 (by decide)).trans ?_
        rfl
      refine Eq.trans ite_b01 ?_
      exact c_X12_says i_X12_saysMode_58 (K10_s k1) (ltd d_X12_saysMode (by decide)) stOk_0 rfl
theorem i_X12_saysMode_61 : am_i m_X12_saysMode 61 = some (61, .iload_n 2, 1, [], 0) := rfl
theorem i_X12_saysMode_62 : am_i m_X12_saysMode 62 = some (62, .bipush 6, 2, [], 6) := rfl
theorem i_X12_saysMode_64 : am_i m_X12_saysMode 64 = some (64, .if_icmp .eq 18, 3, [], 0) := rfl
theorem i_X12_saysMode_67 : am_i m_X12_saysMode 67 = some (67, .aload_n 0, 1, [], 0) := rfl
theorem i_X12_saysMode_68 : am_i m_X12_saysMode 68 = some (68, .iconst 3, 1, [], 3) := rfl
theorem i_X12_saysMode_69 : am_i m_X12_saysMode 69 = some (69, .iload_n 2, 1, [], 0) := rfl
theorem i_X12_saysMode_70 : am_i m_X12_saysMode 70 = some (70, .iconst 5, 1, [], 5) := rfl
theorem i_X12_saysMode_71 : am_i m_X12_saysMode 71 = some (71, .if_icmp .ne 7, 3, [], 0) := rfl
theorem i_X12_saysMode_74 : am_i m_X12_saysMode 74 = some (74, .iconst 1, 1, [], 1) := rfl
theorem i_X12_saysMode_75 : am_i m_X12_saysMode 75 = some (75, .goto 4, 3, [], 0) := rfl
theorem i_X12_saysMode_78 : am_i m_X12_saysMode 78 = some (78, .iconst 0, 1, [], 0) := rfl
theorem i_X12_saysMode_79 : am_i m_X12_saysMode 79 = some (79, .invokevirtual 246, 3, [90, 10], 0) := rfl
theorem b_X12_saysMode_61 {a0 : Nat} {x1 x2 x2' : Int} {h : am_H} (w2 : wr x2 = x2') (k1 : K10 h a0) : rn m_X12_saysMode 61 [.ref a0, .int (mI x1), .int (mI x2)] [] h = if x2' = 6 then rn m_X12_saysMode 82 [.ref a0, .int (mI x1), .int (mI x2)] [] h else cl m_X12_saysMode 82 [.ref a0, .int (mI x1), .int (mI x2)] [] (rn m_X12_says 0 [.ref a0, .int (mI 3), .int (mI (bZ (¬ (¬ x2' = 5)))), am_J, am_J] [] h) := by
  refine (tq_iload_n i_X12_saysMode_61 rfl rfl).trans ?_
  refine (tq_bipush i_X12_saysMode_62 rfl).trans ?_
  refine (tq_icmp_eq (pt := 82) i_X12_saysMode_64 w2 w_6 (by decide) rfl).trans ?_
  refine ite_congr rfl (fun c1 => ?_) (fun c1 => ?_)
  · rfl
  · refine (tq_aload_n i_X12_saysMode_67 rfl (isA_ref _) rfl).trans ?_
    refine (tq_iconst i_X12_saysMode_68 rfl).trans ?_
    refine (tq_iload_n i_X12_saysMode_69 rfl rfl).trans ?_
    refine (tq_iconst i_X12_saysMode_70 rfl).trans ?_
    refine (tq_icmp_ne (pt := 78) i_X12_saysMode_71 w2 w_5 (by decide) rfl).trans ?_
    refine Eq.trans (b := if ¬ x2' = 5 then rn m_X12_saysMode 79 [.ref a0, .int (mI x1), .int (mI x2)] [.int (mI 0), .int (mI 3), .ref a0] h else rn m_X12_saysMode 79 [.ref a0, .int (mI x1), .int (mI x2)] [.int (mI 1), .int (mI 3), .ref a0] h) (ite_congr rfl (fun c2 => ?_) (fun c2 => ?_)) ?_
    · refine (tq_iconst i_X12_saysMode_78 rfl).trans ?_
      rfl
    · refine (tq_iconst i_X12_saysMode_74 rfl).trans ?_
      refine (tq_goto (pc' := 79) i_X12_saysMode_75 (by decide)).trans ?_
      rfl
    refine Eq.trans ite_b01 ?_
    exact c_X12_says i_X12_saysMode_79 (K10_s k1) (ltd d_X12_saysMode (by decide)) stOk_0 rfl
theorem i_X12_saysMode_82 : am_i m_X12_saysMode 82 = some (82, .iload_n 2, 1, [], 0) := rfl
theorem i_X12_saysMode_83 : am_i m_X12_saysMode 83 = some (83, .iconst 5, 1, [], 5) := rfl
theorem i_X12_saysMode_84 : am_i m_X12_saysMode 84 = some (84, .if_icmp .eq 9, 3, [], 0) := rfl
theorem i_X12_saysMode_87 : am_i m_X12_saysMode 87 = some (87, .aload_n 0, 1, [], 0) := rfl
theorem i_X12_saysMode_88 : am_i m_X12_saysMode 88 = some (88, .iload_n 1, 1, [], 0) := rfl
theorem i_X12_saysMode_89 : am_i m_X12_saysMode 89 = some (89, .iconst 0, 1, [], 0) := rfl
theorem i_X12_saysMode_90 : am_i m_X12_saysMode 90 = some (90, .invokevirtual 261, 3, [160, 10], 0) := rfl
theorem b_X12_saysMode_82 {a0 : Nat} {x1 x2 x2' : Int} {h : am_H} (w2 : wr x2 = x2') (k1 : K10 h a0) : rn m_X12_saysMode 82 [.ref a0, .int (mI x1), .int (mI x2)] [] h = if x2' = 5 then rn m_X12_saysMode 93 [.ref a0, .int (mI x1), .int (mI x2)] [] h else cl m_X12_saysMode 93 [.ref a0, .int (mI x1), .int (mI x2)] [] (rn m_X12_saysVector 0 [.ref a0, .int (mI x1), .int (mI 0), am_J, am_J] [] h) := by
  refine (tq_iload_n i_X12_saysMode_82 rfl rfl).trans ?_
  refine (tq_iconst i_X12_saysMode_83 rfl).trans ?_
  refine (tq_icmp_eq (pt := 93) i_X12_saysMode_84 w2 w_5 (by decide) rfl).trans ?_
  refine ite_congr rfl (fun c1 => ?_) (fun c1 => ?_)
  · rfl
  · refine (tq_aload_n i_X12_saysMode_87 rfl (isA_ref _) rfl).trans ?_
    refine (tq_iload_n i_X12_saysMode_88 rfl rfl).trans ?_
    refine (tq_iconst i_X12_saysMode_89 rfl).trans ?_
    exact c_X12_saysVector i_X12_saysMode_90 (K10_s k1) (ltd d_X12_saysMode (by decide)) stOk_0 rfl
theorem i_X12_saysMode_93 : am_i m_X12_saysMode 93 = some (93, .iload_n 2, 1, [], 0) := rfl
theorem i_X12_saysMode_94 : am_i m_X12_saysMode 94 = some (94, .iconst 4, 1, [], 4) := rfl
theorem i_X12_saysMode_95 : am_i m_X12_saysMode 95 = some (95, .if_icmp .eq 54, 3, [], 0) := rfl
theorem i_X12_saysMode_98 : am_i m_X12_saysMode 98 = some (98, .aload_n 0, 1, [], 0) := rfl
theorem i_X12_saysMode_99 : am_i m_X12_saysMode 99 = some (99, .iload_n 1, 1, [], 0) := rfl
theorem i_X12_saysMode_100 : am_i m_X12_saysMode 100 = some (100, .iconst 2, 1, [], 2) := rfl
theorem i_X12_saysMode_101 : am_i m_X12_saysMode 101 = some (101, .invokevirtual 261, 3, [160, 10], 0) := rfl
theorem b_X12_saysMode_93 {a0 : Nat} {x1 x2 x2' : Int} {h : am_H} (w2 : wr x2 = x2') (k1 : K10 h a0) : rn m_X12_saysMode 93 [.ref a0, .int (mI x1), .int (mI x2)] [] h = if x2' = 4 then rn m_X12_saysMode 149 [.ref a0, .int (mI x1), .int (mI x2)] [] h else cl m_X12_saysMode 104 [.ref a0, .int (mI x1), .int (mI x2)] [] (rn m_X12_saysVector 0 [.ref a0, .int (mI x1), .int (mI 2), am_J, am_J] [] h) := by
  refine (tq_iload_n i_X12_saysMode_93 rfl rfl).trans ?_
  refine (tq_iconst i_X12_saysMode_94 rfl).trans ?_
  refine (tq_icmp_eq (pt := 149) i_X12_saysMode_95 w2 w_4 (by decide) rfl).trans ?_
  refine ite_congr rfl (fun c1 => ?_) (fun c1 => ?_)
  · rfl
  · refine (tq_aload_n i_X12_saysMode_98 rfl (isA_ref _) rfl).trans ?_
    refine (tq_iload_n i_X12_saysMode_99 rfl rfl).trans ?_
    refine (tq_iconst i_X12_saysMode_100 rfl).trans ?_
    exact c_X12_saysVector i_X12_saysMode_101 (K10_s k1) (ltd d_X12_saysMode (by decide)) stOk_0 rfl
theorem i_X12_saysMode_104 : am_i m_X12_saysMode 104 = some (104, .goto 45, 3, [], 0) := rfl
theorem b_X12_saysMode_104 {v0 v1 v2 : Value} {h : am_H} : rn m_X12_saysMode 104 [v0, v1, v2] [] h = rn m_X12_saysMode 149 [v0, v1, v2] [] h := by
  refine (tq_goto (pc' := 149) i_X12_saysMode_104 (by decide)).trans ?_
  rfl
theorem i_X12_saysMode_122 : am_i m_X12_saysMode 122 = some (122, .aload_n 0, 1, [], 0) := rfl
theorem i_X12_saysMode_123 : am_i m_X12_saysMode 123 = some (123, .iload_n 2, 1, [], 0) := rfl
theorem i_X12_saysMode_124 : am_i m_X12_saysMode 124 = some (124, .iconst 1, 1, [], 1) := rfl
theorem i_X12_saysMode_125 : am_i m_X12_saysMode 125 = some (125, .if_icmp .le 8, 3, [], 0) := rfl
theorem i_X12_saysMode_128 : am_i m_X12_saysMode 128 = some (128, .bipush 6, 2, [], 6) := rfl
theorem i_X12_saysMode_130 : am_i m_X12_saysMode 130 = some (130, .goto 4, 3, [], 0) := rfl
theorem i_X12_saysMode_133 : am_i m_X12_saysMode 133 = some (133, .iconst 5, 1, [], 5) := rfl
theorem i_X12_saysMode_134 : am_i m_X12_saysMode 134 = some (134, .iload_n 2, 1, [], 0) := rfl
theorem i_X12_saysMode_135 : am_i m_X12_saysMode 135 = some (135, .iconst 2, 1, [], 2) := rfl
theorem i_X12_saysMode_136 : am_i m_X12_saysMode 136 = some (136, .irem, 1, [], 0) := rfl
theorem i_X12_saysMode_137 : am_i m_X12_saysMode 137 = some (137, .iconst 1, 1, [], 1) := rfl
theorem i_X12_saysMode_138 : am_i m_X12_saysMode 138 = some (138, .if_icmp .ne 7, 3, [], 0) := rfl
theorem i_X12_saysMode_141 : am_i m_X12_saysMode 141 = some (141, .iconst 1, 1, [], 1) := rfl
theorem i_X12_saysMode_142 : am_i m_X12_saysMode 142 = some (142, .goto 4, 3, [], 0) := rfl
theorem i_X12_saysMode_145 : am_i m_X12_saysMode 145 = some (145, .iconst 0, 1, [], 0) := rfl
theorem i_X12_saysMode_146 : am_i m_X12_saysMode 146 = some (146, .invokevirtual 246, 3, [90, 10], 0) := rfl
theorem b_X12_saysMode_122 {a0 : Nat} {v1 : Value} {x2 x2' : Int} {h : am_H} (w2 : wr x2 = x2') (k1 : K10 h a0) : rn m_X12_saysMode 122 [.ref a0, v1, .int (mI x2)] [] h = cl m_X12_saysMode 149 [.ref a0, v1, .int (mI x2)] [] (rn m_X12_says 0 [.ref a0, .int (mI (if x2' ≤ 1 then (5 : Int) else 6)), .int (mI (bZ (¬ (¬ (wr (Int.tmod x2' 2)) = 1)))), am_J, am_J] [] h) := by
  refine (tq_aload_n i_X12_saysMode_122 rfl (isA_ref _) rfl).trans ?_
  refine (tq_iload_n i_X12_saysMode_123 rfl rfl).trans ?_
  refine (tq_iconst i_X12_saysMode_124 rfl).trans ?_
  refine (tq_icmp_le (pt := 133) i_X12_saysMode_125 w2 w_1 (by decide) rfl).trans ?_
  refine Eq.trans (b := if x2' ≤ 1 then rn m_X12_saysMode 134 [.ref a0, v1, .int (mI x2)] [.int (mI 5), .ref a0] h else rn m_X12_saysMode 134 [.ref a0, v1, .int (mI x2)] [.int (mI 6), .ref a0] h) (ite_congr rfl (fun c1 => ?_) (fun c1 => ?_)) ?_
  · refine (tq_iconst i_X12_saysMode_133 rfl).trans ?_
    rfl
  · refine (tq_bipush i_X12_saysMode_128 rfl).trans ?_
    refine (tq_goto (pc' := 134) i_X12_saysMode_130 (by decide)).trans ?_
    rfl
  refine Eq.trans ite_I ?_
  refine (tq_iload_n i_X12_saysMode_134 rfl rfl).trans ?_
  refine (tq_iconst i_X12_saysMode_135 rfl).trans ?_
  refine (tq_irem i_X12_saysMode_136 w2 w_2 (by decide) rfl).trans ?_
  refine (tq_iconst i_X12_saysMode_137 rfl).trans ?_
  refine (tq_icmp_ne (pt := 145) i_X12_saysMode_138 rfl w_1 (by decide) rfl).trans ?_
  refine Eq.trans (b := if ¬ (wr (Int.tmod x2' 2)) = 1 then rn m_X12_saysMode 146 [.ref a0, v1, .int (mI x2)] [.int (mI 0), .int (mI (if x2' ≤ 1 then (5 : Int) else 6)), .ref a0] h else rn m_X12_saysMode 146 [.ref a0, v1, .int (mI x2)] [.int (mI 1), .int (mI (if x2' ≤ 1 then (5 : Int) else 6)), .ref a0] h) (ite_congr rfl (fun c2 => ?_) (fun c2 => ?_)) ?_
  · refine (tq_iconst i_X12_saysMode_145 rfl).trans ?_
    rfl
  · refine (tq_iconst i_X12_saysMode_141 rfl).trans ?_
    refine (tq_goto (pc' := 146) i_X12_saysMode_142 (by decide)).trans ?_
    rfl
  refine Eq.trans ite_b01 ?_
  exact c_X12_says i_X12_saysMode_146 (K10_s k1) (ltd d_X12_saysMode (by decide)) stOk_0 rfl
theorem i_X12_saysMode_149 : am_i m_X12_saysMode 149 = some (149, .return_, 1, [], 0) := rfl
theorem b_X12_saysMode_149 {v0 v1 v2 : Value} {h : am_H} : rn m_X12_saysMode 149 [v0, v1, v2] [] h = some (.inl none, h) := by
  exact tq_return i_X12_saysMode_149 r_X12_saysMode
/-- the vectors that were said last -/
def LSt (h : am_H) (M : Nat) (l1 l2 : Int) : Prop := (gZ h (M + 20) 0 = vX l1 ∧ gZ h (M + 20) 1 = vY l1) ∧ gZ h (M + 20) 2 = vX l2 ∧ gZ h (M + 20) 3 = vY l2
/-- the model's picture as it is said -/
def Pm (h : am_H) (M N W : Nat) (pd : Nat → Int → Int) (kd tl sl : Int) : Prop := (fA h M 30 = some (N + 1) ∧ fA h M 31 = some (N + 2) ∧ fA h M 32 = some (N + 3)) ∧ ((sh h (N + 1) = (1, 0) ∧ gn h (N + 1) = 16) ∧ (sh h (N + 2) = (1, 0) ∧ gn h (N + 2) = 64) ∧ (sh h (N + 3) = (1, 0) ∧ gn h (N + 3) = 256) ∧ (sh h W = (1, 0) ∧ gn h W = 16)) ∧ (fZ h M 33 = kd ∧ fZ h M 3 = tl ∧ fZ h M 4 = sl) ∧ pdm h N W = pd ∧ (∀ s, 0 ≤ s → s < 16 → VB h N s) ∧ M + 22 < N ∧ M + 22 < W
theorem Pm_md {h h' : am_H} {M N W : Nat} {pd : Nat → Int → Int} {kd tl sl : Int} (m : Md (SMl M) h h') (p : Pm h M N W pd kd tl sl) : Pm h' M N W pd kd tl sl := by
  obtain ⟨⟨a1, a2, a3⟩, ⟨⟨b1, b2⟩, ⟨b3, b4⟩, ⟨b5, b6⟩, b7, b8⟩, ⟨c1, c2, c3⟩, d, v, n1, n2⟩ := p
  have e0 : gZ h' W = gZ h W := md_Z m (SMl_n (by omega))
  have e1 : gZ h' (N + 1) = gZ h (N + 1) := md_Z m (SMl_n (by omega))
  have e2 : gZ h' (N + 2) = gZ h (N + 2) := md_Z m (SMl_n (by omega))
  have e3 : gZ h' (N + 3) = gZ h (N + 3) := md_Z m (SMl_n (by omega))
  refine ⟨⟨(md_fA m (SMl_f (by decide))).trans a1, (md_fA m (SMl_f (by decide))).trans a2, (md_fA m (SMl_f (by decide))).trans a3⟩, ⟨⟨(md_sh m _).trans b1, (md_gn m _).trans b2⟩, ⟨(md_sh m _).trans b3, (md_gn m _).trans b4⟩, ⟨(md_sh m _).trans b5, (md_gn m _).trans b6⟩, (md_sh m _).trans b7, (md_gn m _).trans b8⟩, ⟨(md_fZ m (SMl_f (by decide))).trans c1, (md_fZ m (SMl_f (by decide))).trans c2, (md_fZ m (SMl_f (by decide))).trans c3⟩, ?_, fun s s0 s1 => VB_md e1 e2 (v s s0 s1), n1, n2⟩
  rw [← d]
  funext n s
  unfold pdm
  rw [e0, e1, e2, e3]
/-- the model's vectors, as the class numbers them -/
theorem Pm_vec {h : am_H} {M N W : Nat} {pd : Nat → Int → Int} {kd tl sl s : Int} (p : Pm h M N W pd kd tl sl) (hs : 0 ≤ s ∧ s < 16) : gZ h (N + 1) (rs s) = pd 1 s ∧ ((pd 1 s = 4 ∨ pd 1 s = 6) → gZ h (N + 2) (4 * rs s + 0) = vX (pd 2 s) ∧ gZ h (N + 2) (4 * rs s + (0 + 1)) = vY (pd 2 s)) ∧ ((pd 1 s = 5 ∨ pd 1 s = 6) → gZ h (N + 2) (4 * rs s + 2) = vX (pd 3 s) ∧ gZ h (N + 2) (4 * rs s + (2 + 1)) = vY (pd 3 s)) := by
  obtain ⟨-, -, -, d, v, -⟩ := p
  have v := v s hs.1 hs.2
  have e1 : gZ h (N + 1) (rs s) = pd 1 s := by rw [← d]; rfl
  have e2 : pd 2 s = used1 (gZ h (N + 1) (rs s)) (100 * (gZ h (N + 2) (4 * rs s) + 8) + gZ h (N + 2) (4 * rs s + 1) + 8) := by rw [← d]; rfl
  have e3 : pd 3 s = used2 (gZ h (N + 1) (rs s)) (100 * (gZ h (N + 2) (4 * rs s + 2) + 8) + gZ h (N + 2) (4 * rs s + 3) + 8) := by rw [← d]; rfl
  unfold VB okw at v
  rw [e1] at v e2 e3
  refine ⟨e1, fun g => ?_, fun g => ?_⟩
  · have vv := v.1 g
    unfold used1 at e2
    rw [if_pos g] at e2
    rw [e2]
    unfold vX vY
    rw [Int.add_zero, show (4 * rs s + (0 + 1) : Int) = 4 * rs s + 1 by omega]
    omega
  · have vv := v.2 g
    unfold used2 at e3
    rw [if_pos g] at e3
    rw [e3]
    unfold vX vY
    rw [show (4 * rs s + (2 + 1) : Int) = 4 * rs s + 3 by omega]
    omega
theorem sM_ok {h : am_H} {M N W e : Nat} {A : cA} {pd : Nat → Int → Int} {kd tl sl l1 l2 s : Int} (q : MR h M A) (p : Pm h M N W pd kd tl sl) (ls : LSt h M l1 l2) (hs : 0 ≤ s ∧ s < 16) (b : pdB pd s) (o1 : okv l1) (o2 : okv l2) (f : Ft A e 51 24) : ∃ h', rn m_X12_saysMode 0 [.ref M, .int (mI (rs s)), am_J] [] h = some (.inl none, h') ∧ Msl h h' M A (evP kd (pd 1 s) (pd 2 s) (pd 3 s) l1 l2) ∧ LSt h' M (if pd 1 s = 4 ∨ pd 1 s = 6 then pd 2 s else l1) (if pd 1 s = 5 ∨ pd 1 s = 6 then pd 3 s else l2) := by
  obtain ⟨b0, b1, b2, b3, b4⟩ := b
  have rb := rs_b s
  obtain ⟨v1, v2, v3⟩ := Pm_vec p hs
  obtain ⟨⟨a1, a2, a3⟩, ⟨⟨g1, g2⟩, ⟨g3, g4⟩, -⟩, ⟨c1, c2, c3⟩, -, -, nN, -⟩ := id p
  have wm : wr (pd 1 s) = pd 1 s := wr_id (by omega) (by omega)
  have st := b_X12_saysMode_0 (a0 := M) (a0_mode := N + 1) (n_a0_mode := 16) (x1 := rs s) (h := h) (wr_id (by omega) (by omega)) q.1 a1 g2 g1 (by omega)
  rw [c1, v1] at st
  have one : ∃ h1, rn m_X12_saysMode 0 [.ref M, .int (mI (rs s)), am_J] [] h = rn m_X12_saysMode 31 [.ref M, .int (mI (rs s)), .int (mI (pd 1 s))] [] h1 ∧ Ms h h1 M A (if kd = 105 then [] else [(1, decide (3 < pd 1 s))]) ∧ Ft (runA A (if kd = 105 then [] else [(1, decide (3 < pd 1 s))])) (e + (if kd = 105 then [] else [(1, decide (3 < pd 1 s))] : List (Int × Bool)).length) 50 24 := by
    by_cases g : kd = 105
    · rw [if_pos g] at st
      rw [if_pos g]
      exact ⟨h, st, Ms_nil q, Ft_mono f (by omega) (by omega)⟩
    · rw [if_neg g, bZ_congr (q := 3 < pd 1 s) (by omega)] at st
      rw [if_neg g]
      obtain ⟨h1, e1, r1⟩ := saysP (x1 := 1) (p := 3 < pd 1 s) (wr_id (by omega) (by omega)) q (Ft_mono f (by omega) (by omega)) (by omega)
      rw [e1, cl_n] at st
      exact ⟨h1, st, r1, Ft_b (by omega) f⟩
  obtain ⟨h1, e1, r1, f1⟩ := one
  have p1 := Pm_md (Ms_l r1).1 p
  have c1' := p1.2.2.1.1
  have st1 := b_X12_saysMode_31 (a0 := M) (x1 := rs s) (x2 := pd 1 s) (h := h1) wm r1.2.1
  rw [c1'] at st1
  have ls1 : LSt h1 M l1 l2 := by
    unfold LSt
    rw [md_Z r1.1 (SM_n (by omega))]
    exact ls
  unfold evP evM
  by_cases g : pd 1 s < 4
  · rw [if_pos (by omega), bZ_congr (q := 1 < pd 1 s) (by omega)] at st1
    obtain ⟨h2, e2, r2⟩ := saysP (x1 := 4) (p := 1 < pd 1 s) (wr_id (by omega) (by omega)) r1.2 (Ft_mono f1 (by omega) (by omega)) (by omega)
    have st2 := b_X12_saysMode_122 (a0 := M) (v1 := .int (mI (rs s))) (x2 := pd 1 s) (h := h2) wm r2.2.1
    have e56 : (if pd 1 s ≤ 1 then (5 : Int) else 6) = if pd 1 s < 2 then 5 else 6 := by
      by_cases z : pd 1 s < 2
      · rw [if_pos z, if_pos (by omega)]
      · rw [if_neg z, if_neg (by omega)]
    rw [tmd b1.1, wr_id (z := pd 1 s % 2) (by omega) (by omega), bZ_congr (q := pd 1 s % 2 = 1) (by omega), e56] at st2
    have f2 := Ft_b (c := 4) (b := decide (1 < pd 1 s)) (by decide) (Ft_mono f1 (show 1 + 1 ≤ 50 by omega) (Nat.zero_le _))
    have w56 : (if pd 1 s < 2 then (5 : Int) else 6) = 5 ∨ (if pd 1 s < 2 then (5 : Int) else 6) = 6 := by split <;> simp
    obtain ⟨h3, e3, r3⟩ := saysP (x1 := if pd 1 s < 2 then 5 else 6) (c := if pd 1 s < 2 then 5 else 6) (p := pd 1 s % 2 = 1) (wr_id (by omega) (by omega)) r2.2 f2 (by omega)
    rw [e2, cl_n, st2, e3, cl_n, b_X12_saysMode_149] at st1
    have r4 := Ms_tr r1 (Ms_tr r2 r3)
    refine ⟨h3, e1.trans st1, ?_, ?_⟩
    · have eE : evM2 kd (pd 1 s) = [(4, decide (1 < pd 1 s))] ++ [(if pd 1 s < 2 then 5 else 6, decide (pd 1 s % 2 = 1))] := by unfold evM2; rw [if_pos g]; rfl
      rw [if_neg (show ¬ (pd 1 s = 4 ∨ pd 1 s = 6) by omega), if_neg (show ¬ (pd 1 s = 5 ∨ pd 1 s = 6) by omega), List.append_nil, List.append_nil, eE]
      exact Ms_l r4
    · rw [if_neg (show ¬ (pd 1 s = 4 ∨ pd 1 s = 6) by omega), if_neg (show ¬ (pd 1 s = 5 ∨ pd 1 s = 6) by omega)]
      unfold LSt
      rw [md_Z r4.1 (SM_n (by omega))]
      exact ls
  · rw [if_neg (by omega)] at st1
    -- which of the kept ones
    have two : ∃ h2, rn m_X12_saysMode 31 [.ref M, .int (mI (rs s)), .int (mI (pd 1 s))] [] h1 = rn m_X12_saysMode 82 [.ref M, .int (mI (rs s)), .int (mI (pd 1 s))] [] h2 ∧ Ms h h2 M A (evM kd (pd 1 s)) ∧ Ft (runA A (evM kd (pd 1 s))) (e + (evM kd (pd 1 s)).length) 48 24 := by
      have nM := n_evM kd (pd 1 s)
      have fM : Ft (runA A (evM kd (pd 1 s))) (e + (evM kd (pd 1 s)).length) 48 24 := Ft_run _ (Ft_mono f (by omega) (by omega))
      have eM : evM kd (pd 1 s) = (if kd = 105 then [] else [(1, decide (3 < pd 1 s))]) ++ evM2 kd (pd 1 s) := rfl
      by_cases c : kd = 98
      · rw [if_neg (by omega), bZ_congr (q := pd 1 s = 6) (by omega)] at st1
        obtain ⟨h2, e2, r2⟩ := saysP (x1 := 2) (p := pd 1 s = 6) (wr_id (by omega) (by omega)) r1.2 (Ft_mono f1 (by omega) (by omega)) (by omega)
        have st2 := b_X12_saysMode_61 (a0 := M) (x1 := rs s) (x2 := pd 1 s) (h := h2) wm r2.2.1
        rw [e2, cl_n] at st1
        by_cases c6 : pd 1 s = 6
        · rw [if_pos c6] at st2
          have eE : evM2 kd (pd 1 s) = [(2, decide (pd 1 s = 6))] := by unfold evM2; rw [if_neg g, if_pos c, if_pos c6]
          refine ⟨h2, st1.trans st2, ?_, fM⟩
          rw [eM, eE]
          exact Ms_tr r1 r2
        · rw [if_neg c6, bZ_congr (q := pd 1 s = 5) (by omega)] at st2
          have f2 := Ft_b (c := 2) (b := decide (pd 1 s = 6)) (by decide) (Ft_mono f1 (show 1 + 1 ≤ 50 by omega) (Nat.zero_le _))
          obtain ⟨h3, e3, r3⟩ := saysP (x1 := 3) (p := pd 1 s = 5) (wr_id (by omega) (by omega)) r2.2 f2 (by omega)
          rw [e3, cl_n] at st2
          have eE : evM2 kd (pd 1 s) = [(2, decide (pd 1 s = 6))] ++ [(3, decide (pd 1 s = 5))] := by unfold evM2; rw [if_neg g, if_pos c, if_neg c6]; rfl
          refine ⟨h3, st1.trans st2, ?_, fM⟩
          rw [eM, eE]
          exact Ms_tr r1 (Ms_tr r2 r3)
      · rw [if_pos c] at st1
        have eE : evM2 kd (pd 1 s) = [] := by unfold evM2; rw [if_neg g, if_neg c]
        refine ⟨h1, st1, ?_, fM⟩
        rw [eM, eE, List.append_nil]
        exact r1
    obtain ⟨h2, e2, r2, f2⟩ := two
    have p2 := Pm_md (Ms_l r2).1 p
    have ls2 : LSt h2 M l1 l2 := by
      unfold LSt
      rw [md_Z r2.1 (SM_n (by omega))]
      exact ls
    -- the first vector
    have three : ∃ h3, rn m_X12_saysMode 82 [.ref M, .int (mI (rs s)), .int (mI (pd 1 s))] [] h2 = rn m_X12_saysMode 93 [.ref M, .int (mI (rs s)), .int (mI (pd 1 s))] [] h3 ∧ Msl h2 h3 M (runA A (evM kd (pd 1 s))) (if pd 1 s = 4 ∨ pd 1 s = 6 then evV (pd 2 s) l1 else []) ∧ LSt h3 M (if pd 1 s = 4 ∨ pd 1 s = 6 then pd 2 s else l1) l2 := by
      have st2 := b_X12_saysMode_82 (a0 := M) (x1 := rs s) (x2 := pd 1 s) (h := h2) wm r2.2.1
      by_cases c : pd 1 s = 5
      · rw [if_pos c] at st2
        rw [if_neg (show ¬ (pd 1 s = 4 ∨ pd 1 s = 6) by omega), if_neg (show ¬ (pd 1 s = 4 ∨ pd 1 s = 6) by omega)]
        exact ⟨h2, st2, Msl_nil r2.2, ls2⟩
      · rw [if_neg c] at st2
        have c46 : pd 1 s = 4 ∨ pd 1 s = 6 := by omega
        rw [if_pos c46, if_pos c46]
        obtain ⟨h3, e3, r3, g3, o3⟩ := sV_ok (r := rs s) (x2 := 0) (v := pd 2 s) (l := l1) r2.2 p2.1.2.1 p2.2.1.2.1.2 p2.2.1.2.1.1 (by omega) (by omega) (Or.inl rfl) ((Pm_vec p2 hs).2.1 c46) ls2.1 (b2 c46) o1 (Ft_mono f2 (by omega) (by omega))
        rw [e3, cl_n] at st2
        exact ⟨h3, st2, r3, g3, (o3 2 (by decide) (by decide)).trans ls2.2.1, (o3 3 (by decide) (by decide)).trans ls2.2.2⟩
    obtain ⟨h3, e3, r3, ls3⟩ := three
    have p3 := Pm_md r3.1 p2
    have n3 : nC (if pd 1 s = 4 ∨ pd 1 s = 6 then evV (pd 2 s) l1 else []) ≤ 24 ∧ nP (if pd 1 s = 4 ∨ pd 1 s = 6 then evV (pd 2 s) l1 else []) ≤ 12 := by
      split
      · rename_i g; exact n_evV (b2 g) o1
      · simp only [nC, nP]; omega
    have f3 : Ft (runA (runA A (evM kd (pd 1 s))) (if pd 1 s = 4 ∨ pd 1 s = 6 then evV (pd 2 s) l1 else [])) (e + (evM kd (pd 1 s)).length + (if pd 1 s = 4 ∨ pd 1 s = 6 then evV (pd 2 s) l1 else []).length) 24 12 := Ft_run _ (Ft_mono f2 (by omega) (by omega))
    have four : ∃ h4, rn m_X12_saysMode 93 [.ref M, .int (mI (rs s)), .int (mI (pd 1 s))] [] h3 = some (.inl none, h4) ∧ Msl h3 h4 M (runA (runA A (evM kd (pd 1 s))) (if pd 1 s = 4 ∨ pd 1 s = 6 then evV (pd 2 s) l1 else [])) (if pd 1 s = 5 ∨ pd 1 s = 6 then evV (pd 3 s) l2 else []) ∧ LSt h4 M (if pd 1 s = 4 ∨ pd 1 s = 6 then pd 2 s else l1) (if pd 1 s = 5 ∨ pd 1 s = 6 then pd 3 s else l2) := by
      have st3 := b_X12_saysMode_93 (a0 := M) (x1 := rs s) (x2 := pd 1 s) (h := h3) wm r3.2.1
      by_cases c : pd 1 s = 4
      · rw [if_pos c, b_X12_saysMode_149] at st3
        rw [if_neg (show ¬ (pd 1 s = 5 ∨ pd 1 s = 6) by omega), if_neg (show ¬ (pd 1 s = 5 ∨ pd 1 s = 6) by omega)]
        exact ⟨h3, st3, Msl_nil r3.2, ls3⟩
      · rw [if_neg c] at st3
        have c56 : pd 1 s = 5 ∨ pd 1 s = 6 := by omega
        rw [if_pos c56, if_pos c56]
        obtain ⟨h4, e4, r4, g4, o4⟩ := sV_ok (r := rs s) (x2 := 2) (v := pd 3 s) (l := l2) r3.2 p3.1.2.1 p3.2.1.2.1.2 p3.2.1.2.1.1 (by omega) (by omega) (Or.inr rfl) ((Pm_vec p3 hs).2.2 c56) ls3.2 (b3 c56) o2 f3
        rw [e4, cl_n, b_X12_saysMode_104, b_X12_saysMode_149] at st3
        exact ⟨h4, st3, r4, ⟨(o4 0 (by decide) (by decide)).trans ls3.1.1, (o4 1 (by decide) (by decide)).trans ls3.1.2⟩, g4⟩
    obtain ⟨h4, e4, r4, ls4⟩ := four
    exact ⟨h4, e1.trans (e2.trans (e3.trans e4)), Msl_tr (Ms_l r2) (Msl_tr r3 r4), ls4⟩
