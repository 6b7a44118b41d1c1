/-! ===== the search for a vector ===== -/
theorem lpe {σ : Type} {m pc : Nat} {L : Int → σ → List Value} {N : Int} {P : Option am_Rs → Prop} (I : Int → σ → am_H → Prop) (step : ∀ i s h, i < N → I i s h → P (rn m pc (L i s) [] h) ∨ ∃ s' h', rn m pc (L i s) [] h = rn m pc (L (i + 1) s') [] h' ∧ I (i + 1) s' h') (fin : ∀ s h, I N s h → P (rn m pc (L N s) [] h)) : ∀ i s h, i ≤ N → I i s h → P (rn m pc (L i s) [] h) := by
  have key : ∀ (n : Nat) i s h, i + n = N → I i s h → P (rn m pc (L i s) [] h) := by
    intro n
    induction n with
    | zero =>
      intro i s h e hi
      have : i = N := by omega
      subst this
      exact fin s h hi
    | succ n ih =>
      intro i s h e hi
      rcases step i s h (by omega) hi with p | ⟨s', h', e1, i1⟩
      · exact p
      · rw [e1]
        exact ih (i + 1) s' h' (by omega) i1
  intro i s h hi q
  exact key (N - i).toNat i s h (by omega) q
theorem sm_succ {f : Int → Int} {i : Int} (h : 0 ≤ i) : sm (i + 1).toNat f = sm i.toNat f + f i := by
  obtain ⟨n, rfl⟩ : ∃ n : Nat, i = n := ⟨i.toNat, by omega⟩
  rw [show ((n : Int) + 1).toNat = n + 1 by omega, show ((n : Int)).toNat = n by omega]
  rfl
theorem sm_add {f : Int → Int} (m : Nat) : ∀ n : Nat, sm (m + n) f = sm m f + sm n (fun i => f (m + i))
  | 0 => by simp only [sm, Nat.add_zero, Int.add_zero]
  | n + 1 => by
    rw [show m + (n + 1) = (m + n) + 1 by omega]
    simp only [sm]
    rw [sm_add m n, show (((m + n : Nat) : Int)) = (m : Int) + n by omega, Int.add_assoc]
theorem sm_mono {f : Int → Int} (hf : ∀ j, 0 ≤ f j) {m n : Nat} (h : m ≤ n) : sm m f ≤ sm n f := by
  induction h with
  | refl => exact Int.le_refl _
  | step _ ih =>
    rename_i k _
    have := hf k
    show sm m f ≤ sm k f + f k
    omega
theorem iabs_nn (z : Int) : 0 ≤ iabs z := by unfold iabs; omega
theorem iabs_le {z b : Int} (h : -b ≤ z ∧ z ≤ b) : iabs z ≤ b := by unfold iabs; omega
theorem dsum_row {c : Int → Int} {g : Int → Int → Int} {X Y Z i : Int} (hz : Z = 4 ∨ Z = 8) (hi : 0 ≤ i) : dsum c g X Y Z (Z * (i + 1)).toNat = dsum c g X Y Z (Z * i).toNat + sm Z.toNat (fun j => iabs (c (16 * (Y + i) + (X + j)) - g (X + j) (Y + i))) := by
  unfold dsum
  rcases hz with rfl | rfl
  · rw [show ((4 : Int) * (i + 1)).toNat = (4 * i).toNat + 4 by omega, sm_add]
    congr 1
    refine sm_congr fun j j0 j1 => ?_
    have e1 : (((4 * i).toNat : Int) + j) % 4 = j := by omega
    have e2 : (((4 * i).toNat : Int) + j) / 4 = i := by omega
    simp only [e1, e2]
  · rw [show ((8 : Int) * (i + 1)).toNat = (8 * i).toNat + 8 by omega, sm_add]
    congr 1
    refine sm_congr fun j j0 j1 => ?_
    have e1 : (((8 * i).toNat : Int) + j) % 8 = j := by omega
    have e2 : (((8 * i).toNat : Int) + j) / 8 = i := by omega
    simp only [e1, e2]
theorem dsum_b {c : Int → Int} {g : Int → Int → Int} {X Y Z : Int} {n : Nat} (hz : Z = 4 ∨ Z = 8) (hn : (n : Int) ≤ Z * Z) (hX : 0 ≤ X ∧ X + Z ≤ 16) (hY : 0 ≤ Y ∧ Y + Z ≤ 16) (hc : pixels c) (hg : ∀ x y, X ≤ x → x < X + Z → Y ≤ y → y < Y + Z → 0 ≤ g x y ∧ g x y ≤ 255) : 0 ≤ dsum c g X Y Z n ∧ dsum c g X Y Z n ≤ n * 255 := by
  refine sm_le fun k k0 k1 => ?_
  have q : 0 ≤ k % Z ∧ k % Z < Z ∧ 0 ≤ k / Z ∧ k / Z < Z := by rcases hz with rfl | rfl <;> omega
  have h1 := hc (16 * (Y + k / Z) + (X + k % Z)) (by omega) (by omega)
  have h2 := hg (X + k % Z) (Y + k / Z) (by omega) (by omega) (by omega) (by omega)
  exact ⟨iabs_nn _, iabs_le (by omega)⟩
theorem vlen_b {v : Int} (v0 : 0 ≤ v) (v1 : v / 100 ≤ 16) (v2 : v % 100 ≤ 16) : 0 ≤ vlen v ∧ vlen v ≤ 16 := by
  unfold vlen iabs vX vY
  omega
theorem length_ok {v : Int} {h : am_H} (v0 : 0 ≤ v) (v1 : v / 100 ≤ 16) (v2 : v % 100 ≤ 16) : (max (wr ((Int.tdiv v 100) - 8)) (-(wr ((Int.tdiv v 100) - 8)))) + (max (wr ((Int.tmod v 100) - 8)) (-(wr ((Int.tmod v 100) - 8)))) = vlen v := by
  rw [tdv v0, tmd v0, wr_id (z := v / 100 - 8) (by omega) (by omega), wr_id (z := v % 100 - 8) (by omega) (by omega)]
  rfl
theorem i_X4_rowDifference_0 : am_i m_X4_rowDifference 0 = some (0, .iload_n 2, 1, [], 0) := rfl
theorem i_X4_rowDifference_1 : am_i m_X4_rowDifference 1 = some (1, .ifCond .lt 32, 3, [], 0) := rfl
theorem i_X4_rowDifference_4 : am_i m_X4_rowDifference 4 = some (4, .iload_n 2, 1, [], 0) := rfl
theorem i_X4_rowDifference_5 : am_i m_X4_rowDifference 5 = some (5, .iload 4, 2, [], 0) := rfl
theorem i_X4_rowDifference_7 : am_i m_X4_rowDifference 7 = some (7, .iadd, 1, [], 0) := rfl
theorem i_X4_rowDifference_8 : am_i m_X4_rowDifference 8 = some (8, .aload_n 1, 1, [], 0) := rfl
theorem i_X4_rowDifference_9 : am_i m_X4_rowDifference 9 = some (9, .arraylength, 1, [], 0) := rfl
theorem i_X4_rowDifference_10 : am_i m_X4_rowDifference 10 = some (10, .if_icmp .gt 23, 3, [], 0) := rfl
theorem i_X4_rowDifference_13 : am_i m_X4_rowDifference 13 = some (13, .iload_n 3, 1, [], 0) := rfl
theorem i_X4_rowDifference_14 : am_i m_X4_rowDifference 14 = some (14, .ifCond .lt 19, 3, [], 0) := rfl
theorem i_X4_rowDifference_17 : am_i m_X4_rowDifference 17 = some (17, .iload_n 3, 1, [], 0) := rfl
theorem i_X4_rowDifference_18 : am_i m_X4_rowDifference 18 = some (18, .iconst 2, 1, [], 2) := rfl
theorem i_X4_rowDifference_19 : am_i m_X4_rowDifference 19 = some (19, .iload 4, 2, [], 0) := rfl
theorem i_X4_rowDifference_21 : am_i m_X4_rowDifference 21 = some (21, .imul, 1, [], 0) := rfl
theorem i_X4_rowDifference_22 : am_i m_X4_rowDifference 22 = some (22, .iadd, 1, [], 0) := rfl
theorem i_X4_rowDifference_23 : am_i m_X4_rowDifference 23 = some (23, .iconst 1, 1, [], 1) := rfl
theorem i_X4_rowDifference_24 : am_i m_X4_rowDifference 24 = some (24, .isub, 1, [], 0) := rfl
theorem i_X4_rowDifference_25 : am_i m_X4_rowDifference 25 = some (25, .aload_n 0, 1, [], 0) := rfl
theorem i_X4_rowDifference_26 : am_i m_X4_rowDifference 26 = some (26, .getfield 11, 3, [4, 0, 0], 0) := rfl
theorem i_X4_rowDifference_29 : am_i m_X4_rowDifference 29 = some (29, .arraylength, 1, [], 0) := rfl
theorem i_X4_rowDifference_30 : am_i m_X4_rowDifference 30 = some (30, .if_icmp .le 5, 3, [], 0) := rfl
theorem i_X4_rowDifference_33 : am_i m_X4_rowDifference 33 = some (33, .iconst 0, 1, [], 0) := rfl
theorem i_X4_rowDifference_34 : am_i m_X4_rowDifference 34 = some (34, .ireturn, 1, [], 0) := rfl
theorem i_X4_rowDifference_35 : am_i m_X4_rowDifference 35 = some (35, .iconst 0, 1, [], 0) := rfl
theorem i_X4_rowDifference_36 : am_i m_X4_rowDifference 36 = some (36, .istore 5, 2, [], 0) := rfl
theorem i_X4_rowDifference_38 : am_i m_X4_rowDifference 38 = some (38, .iconst 0, 1, [], 0) := rfl
theorem i_X4_rowDifference_39 : am_i m_X4_rowDifference 39 = some (39, .istore 6, 2, [], 0) := rfl
theorem b_X4_rowDifference_0 {a0 a1 n_a1 : Nat} {x2 x3 x4 x2' x3' : Int} {h : am_H} (w2 : wr x2 = x2') (w3 : wr x3 = x3') (n1 : gn h a1 = n_a1) (s2 : sh h a1 = (1, 0)) (k3 : K4 h a0) : rn m_X4_rowDifference 0 [.ref a0, .ref a1, .int (mI x2), .int (mI x3), .int (mI x4), am_J, am_J] [] h = if x2' < 0 then some (.inl (some (.int (mI 0))), h) else if (n_a1 : Int) < (wr (x2 + x4)) then some (.inl (some (.int (mI 0))), h) else if x3' < 0 then some (.inl (some (.int (mI 0))), h) else if (wr ((x3 + (2 * x4)) - 1)) ≤ (2209 : Int) then rn m_X4_rowDifference 41 [.ref a0, .ref a1, .int (mI x2), .int (mI x3), .int (mI x4), .int (mI 0), .int (mI 0)] [] h else some (.inl (some (.int (mI 0))), h) := by
  refine (tq_iload_n i_X4_rowDifference_0 rfl rfl).trans ?_
  refine (tq_if_lt (pt := 33) i_X4_rowDifference_1 w2 (by decide) rfl).trans ?_
  refine ite_congr rfl (fun c1 => ?_) (fun c1 => ?_)
  · refine (tq_iconst i_X4_rowDifference_33 rfl).trans ?_
    exact tq_ireturn i_X4_rowDifference_34 r_X4_rowDifference rfl
  · refine (tq_iload_n i_X4_rowDifference_4 rfl rfl).trans ?_
    refine (tq_iload i_X4_rowDifference_5 rfl rfl).trans ?_
    refine (tq_iadd i_X4_rowDifference_7 rfl).trans ?_
    refine (tq_aload_n i_X4_rowDifference_8 rfl (isA_ref _) rfl).trans ?_
    refine (tq_alen i_X4_rowDifference_9 s2 (by decide) (by decide) rfl).trans ?_
    rw [n1]
    refine (tq_icmp_gt (pt := 33) i_X4_rowDifference_10 rfl (wr_len s2 n1 (by decide) (by decide)) (by decide) rfl).trans ?_
    refine ite_congr rfl (fun c2 => ?_) (fun c2 => ?_)
    · refine (tq_iconst i_X4_rowDifference_33 rfl).trans ?_
      exact tq_ireturn i_X4_rowDifference_34 r_X4_rowDifference rfl
    · refine (tq_iload_n i_X4_rowDifference_13 rfl rfl).trans ?_
      refine (tq_if_lt (pt := 33) i_X4_rowDifference_14 w3 (by decide) rfl).trans ?_
      refine ite_congr rfl (fun c3 => ?_) (fun c3 => ?_)
      · refine (tq_iconst i_X4_rowDifference_33 rfl).trans ?_
        exact tq_ireturn i_X4_rowDifference_34 r_X4_rowDifference rfl
      · refine (tq_iload_n i_X4_rowDifference_17 rfl rfl).trans ?_
        refine (tq_iconst i_X4_rowDifference_18 rfl).trans ?_
        refine (tq_iload i_X4_rowDifference_19 rfl rfl).trans ?_
        refine (tq_imul i_X4_rowDifference_21 rfl).trans ?_
        refine (tq_iadd i_X4_rowDifference_22 rfl).trans ?_
        refine (tq_iconst i_X4_rowDifference_23 rfl).trans ?_
        refine (tq_isub i_X4_rowDifference_24 rfl).trans ?_
        refine (tq_aload_n i_X4_rowDifference_25 rfl (isA_ref _) rfl).trans ?_
        refine (tq_getfield i_X4_rowDifference_26 (K4_s k3) (gR (g_4_0 (K4_s k3)) (K4_e0 k3)) (isV_ref _) rfl).trans ?_
        refine (tq_alen i_X4_rowDifference_29 (K4_s0 k3) (by decide) (by decide) rfl).trans ?_
        rw [(K4_n0 k3)]
        refine (tq_icmp_le (pt := 35) i_X4_rowDifference_30 rfl (wr_len (K4_s0 k3) (K4_n0 k3) (by decide) (by decide)) (by decide) rfl).trans ?_
        refine ite_congr rfl (fun c4 => ?_) (fun c4 => ?_)
        · refine (tq_iconst i_X4_rowDifference_35 rfl).trans ?_
          refine (tq_istore (L' := [.ref a0, .ref a1, .int (mI x2), .int (mI x3), .int (mI x4), .int (mI 0), am_J]) i_X4_rowDifference_36 rfl rfl).trans ?_
          refine (tq_iconst i_X4_rowDifference_38 rfl).trans ?_
          refine (tq_istore (L' := [.ref a0, .ref a1, .int (mI x2), .int (mI x3), .int (mI x4), .int (mI 0), .int (mI 0)]) i_X4_rowDifference_39 rfl rfl).trans ?_
          rfl
        · refine (tq_iconst i_X4_rowDifference_33 rfl).trans ?_
          exact tq_ireturn i_X4_rowDifference_34 r_X4_rowDifference rfl
theorem i_X4_rowDifference_41 : am_i m_X4_rowDifference 41 = some (41, .iload 6, 2, [], 0) := rfl
theorem i_X4_rowDifference_43 : am_i m_X4_rowDifference 43 = some (43, .iload 4, 2, [], 0) := rfl
theorem i_X4_rowDifference_45 : am_i m_X4_rowDifference 45 = some (45, .if_icmp .ge 35, 3, [], 0) := rfl
theorem i_X4_rowDifference_48 : am_i m_X4_rowDifference 48 = some (48, .iload 5, 2, [], 0) := rfl
theorem i_X4_rowDifference_50 : am_i m_X4_rowDifference 50 = some (50, .aload_n 1, 1, [], 0) := rfl
theorem i_X4_rowDifference_51 : am_i m_X4_rowDifference 51 = some (51, .iload_n 2, 1, [], 0) := rfl
theorem i_X4_rowDifference_52 : am_i m_X4_rowDifference 52 = some (52, .iload 6, 2, [], 0) := rfl
theorem i_X4_rowDifference_54 : am_i m_X4_rowDifference 54 = some (54, .iadd, 1, [], 0) := rfl
theorem i_X4_rowDifference_55 : am_i m_X4_rowDifference 55 = some (55, .iaload, 1, [], 0) := rfl
theorem i_X4_rowDifference_56 : am_i m_X4_rowDifference 56 = some (56, .aload_n 0, 1, [], 0) := rfl
theorem i_X4_rowDifference_57 : am_i m_X4_rowDifference 57 = some (57, .getfield 11, 3, [4, 0, 0], 0) := rfl
theorem i_X4_rowDifference_60 : am_i m_X4_rowDifference 60 = some (60, .iload_n 3, 1, [], 0) := rfl
theorem i_X4_rowDifference_61 : am_i m_X4_rowDifference 61 = some (61, .iconst 2, 1, [], 2) := rfl
theorem i_X4_rowDifference_62 : am_i m_X4_rowDifference 62 = some (62, .iload 6, 2, [], 0) := rfl
theorem i_X4_rowDifference_64 : am_i m_X4_rowDifference 64 = some (64, .imul, 1, [], 0) := rfl
theorem i_X4_rowDifference_65 : am_i m_X4_rowDifference 65 = some (65, .iadd, 1, [], 0) := rfl
theorem i_X4_rowDifference_66 : am_i m_X4_rowDifference 66 = some (66, .iaload, 1, [], 0) := rfl
theorem i_X4_rowDifference_67 : am_i m_X4_rowDifference 67 = some (67, .isub, 1, [], 0) := rfl
theorem i_X4_rowDifference_68 : am_i m_X4_rowDifference 68 = some (68, .invokestatic 61, 3, [0, 0], 0) := rfl
theorem i_X4_rowDifference_71 : am_i m_X4_rowDifference 71 = some (71, .iadd, 1, [], 0) := rfl
theorem i_X4_rowDifference_72 : am_i m_X4_rowDifference 72 = some (72, .istore 5, 2, [], 0) := rfl
theorem i_X4_rowDifference_74 : am_i m_X4_rowDifference 74 = some (74, .iinc 6 1, 3, [], 0) := rfl
theorem i_X4_rowDifference_77 : am_i m_X4_rowDifference 77 = some (77, .goto (-36), 3, [], 0) := rfl
theorem i_X4_rowDifference_80 : am_i m_X4_rowDifference 80 = some (80, .iload 5, 2, [], 0) := rfl
theorem i_X4_rowDifference_82 : am_i m_X4_rowDifference 82 = some (82, .ireturn, 1, [], 0) := rfl
theorem b_X4_rowDifference_41 {a0 a1 n_a1 : Nat} {x2 x3 x4 x5 x6 x4' x6' : Int} {h : am_H} (w4 : wr x4 = x4') (w6 : wr x6 = x6') (n1 : gn h a1 = n_a1) (s2 : sh h a1 = (1, 0)) (g3 : (¬ (x4' ≤ x6')) → (0 ≤ wr (x2 + x6) ∧ wr (x2 + x6) < (n_a1 : Int))) (k4 : K4 h a0) (g5 : (¬ (x4' ≤ x6')) → (0 ≤ wr (x3 + (2 * x6)) ∧ wr (x3 + (2 * x6)) < (2209 : Int))) : rn m_X4_rowDifference 41 [.ref a0, .ref a1, .int (mI x2), .int (mI x3), .int (mI x4), .int (mI x5), .int (mI x6)] [] h = if x4' ≤ x6' then some (.inl (some (.int (mI x5))), h) else rn m_X4_rowDifference 41 [.ref a0, .ref a1, .int (mI x2), .int (mI x3), .int (mI x4), .int (mI (x5 + (max (wr ((gZ h a1 (wr (x2 + x6))) - (gZ h (a0 + 1) (wr (x3 + (2 * x6)))))) (-(wr ((gZ h a1 (wr (x2 + x6))) - (gZ h (a0 + 1) (wr (x3 + (2 * x6)))))))))), .int (mI (x6 + 1))] [] h := by
  refine (tq_iload i_X4_rowDifference_41 rfl rfl).trans ?_
  refine (tq_iload i_X4_rowDifference_43 rfl rfl).trans ?_
  refine (tq_icmp_ge (pt := 80) i_X4_rowDifference_45 w6 w4 (by decide) rfl).trans ?_
  refine ite_congr rfl (fun c1 => ?_) (fun c1 => ?_)
  · refine (tq_iload i_X4_rowDifference_80 rfl rfl).trans ?_
    exact tq_ireturn i_X4_rowDifference_82 r_X4_rowDifference rfl
  · refine (tq_iload i_X4_rowDifference_48 rfl rfl).trans ?_
    refine (tq_aload_n i_X4_rowDifference_50 rfl (isA_ref _) rfl).trans ?_
    refine (tq_iload_n i_X4_rowDifference_51 rfl rfl).trans ?_
    refine (tq_iload i_X4_rowDifference_52 rfl rfl).trans ?_
    refine (tq_iadd i_X4_rowDifference_54 rfl).trans ?_
    refine (tq_iaload i_X4_rowDifference_55 s2 (by decide) rfl (g3 c1).1 (lt_gn n1 (g3 c1).2) rfl).trans ?_
    refine (tq_aload_n i_X4_rowDifference_56 rfl (isA_ref _) rfl).trans ?_
    refine (tq_getfield i_X4_rowDifference_57 (K4_s k4) (gR (g_4_0 (K4_s k4)) (K4_e0 k4)) (isV_ref _) rfl).trans ?_
    refine (tq_iload_n i_X4_rowDifference_60 rfl rfl).trans ?_
    refine (tq_iconst i_X4_rowDifference_61 rfl).trans ?_
    refine (tq_iload i_X4_rowDifference_62 rfl rfl).trans ?_
    refine (tq_imul i_X4_rowDifference_64 rfl).trans ?_
    refine (tq_iadd i_X4_rowDifference_65 rfl).trans ?_
    refine (tq_iaload i_X4_rowDifference_66 (K4_s0 k4) (by decide) rfl (g5 c1).1 (lt_gn (K4_n0 k4) (g5 c1).2) rfl).trans ?_
    refine (tq_isub i_X4_rowDifference_67 rfl).trans ?_
    refine (tq_abs i_X4_rowDifference_68 rfl (Nat.le_of_ble_eq_true rfl) rfl).trans ?_
    refine (tq_iadd i_X4_rowDifference_71 rfl).trans ?_
    refine (tq_istore (L' := [.ref a0, .ref a1, .int (mI x2), .int (mI x3), .int (mI x4), .int (mI (x5 + (max (wr ((gZ h a1 (wr (x2 + x6))) - (gZ h (a0 + 1) (wr (x3 + (2 * x6)))))) (-(wr ((gZ h a1 (wr (x2 + x6))) - (gZ h (a0 + 1) (wr (x3 + (2 * x6)))))))))), .int (mI x6)]) i_X4_rowDifference_72 rfl rfl).trans ?_
    refine (tq_iinc (L' := [.ref a0, .ref a1, .int (mI x2), .int (mI x3), .int (mI x4), .int (mI (x5 + (max (wr ((gZ h a1 (wr (x2 + x6))) - (gZ h (a0 + 1) (wr (x3 + (2 * x6)))))) (-(wr ((gZ h a1 (wr (x2 + x6))) - (gZ h (a0 + 1) (wr (x3 + (2 * x6)))))))))), .int (mI (x6 + 1))]) i_X4_rowDifference_74 rfl rfl rfl).trans ?_
    refine (tq_goto (pc' := 41) i_X4_rowDifference_77 (by decide)).trans ?_
    rfl
theorem rowDifference_ok {h : am_H} {a b : Nat} {f p z : Int} (k : K4 h a) (s : sh h b = (1, 0)) (n1 : gn h b = 256) (hf : 0 ≤ f ∧ f + z ≤ 256) (hp : 0 ≤ p ∧ p + 2 * z - 1 ≤ 2209) (hz : z = 4 ∨ z = 8) (hc : pixels (gZ h b)) (hv : ∀ i, 0 ≤ i → i < z → 0 ≤ gZ h (a + 1) (p + 2 * i) ∧ gZ h (a + 1) (p + 2 * i) ≤ 255) : rn m_X4_rowDifference 0 [.ref a, .ref b, .int (mI f), .int (mI p), .int (mI z), am_J, am_J] [] h = some (.inl (some (.int (mI (sm z.toNat (fun i => iabs (gZ h b (f + i) - gZ h (a + 1) (p + 2 * i))))))), h) := by
  have w1 : wr (f + z) = f + z := wr_id (by omega) (by omega)
  have w2 : wr ((p + 2 * z) - 1) = p + 2 * z - 1 := wr_id (by omega) (by omega)
  rw [b_X4_rowDifference_0 (wr_id (by omega) (by omega)) (wr_id (by omega) (by omega)) n1 s k, if_neg (by omega), w1, if_neg (by omega), if_neg (by omega), w2, if_pos (by omega)]
  refine lp (m := m_X4_rowDifference) (pc := 41) (L := fun i (x : Int) => [.ref a, .ref b, .int (mI f), .int (mI p), .int (mI z), .int (mI x), .int (mI i)]) (N := z) (P := fun r => r = some (.inl (some (.int (mI (sm z.toNat (fun i => iabs (gZ h b (f + i) - gZ h (a + 1) (p + 2 * i))))))), h)) (fun i x h' => 0 ≤ i ∧ h' = h ∧ x = sm i.toNat (fun i => iabs (gZ h b (f + i) - gZ h (a + 1) (p + 2 * i)))) ?_ ?_ 0 0 h (by omega) ⟨by omega, rfl, rfl⟩
  · intro i x h' hi ⟨i0, e, ex⟩
    subst e
    have u1 : wr (f + i) = f + i := wr_id (by omega) (by omega)
    have u2 : wr (p + 2 * i) = p + 2 * i := wr_id (by omega) (by omega)
    have c1 := hc (f + i) (by omega) (by omega)
    have c2 := hv i i0 hi
    refine ⟨_, h', (b_X4_rowDifference_41 (wr_id (by omega) (by omega)) (wr_id (by omega) (by omega)) n1 s (fun _ => by rw [u1]; omega) k (fun _ => by rw [u2]; omega)).trans (if_neg (by omega)), by omega, rfl, ?_⟩
    rw [u1, u2, wr_id (z := gZ h' b (f + i) - gZ h' (a + 1) (p + 2 * i)) (by omega) (by omega), sm_succ i0, ex]
    rfl
  · intro x h' ⟨i0, e, ex⟩
    subst e
    rw [b_X4_rowDifference_41 (wr_id (by omega) (by omega)) (wr_id (by omega) (by omega)) n1 s (fun q => absurd (Int.le_refl _) q) k (fun q => absurd (Int.le_refl _) q), if_pos (by omega), ex]
theorem i_X4_costOf_0 : am_i m_X4_costOf 0 = some (0, .iload_n 1, 1, [], 0) := rfl
theorem i_X4_costOf_1 : am_i m_X4_costOf 1 = some (1, .invokestatic 37, 3, [71], 0) := rfl
theorem i_X4_costOf_4 : am_i m_X4_costOf 4 = some (4, .istore 5, 2, [], 0) := rfl
theorem i_X4_costOf_6 : am_i m_X4_costOf 6 = some (6, .aload_n 3, 1, [], 0) := rfl
theorem i_X4_costOf_7 : am_i m_X4_costOf 7 = some (7, .getfield 42, 3, [5, 0, 1], 0) := rfl
theorem i_X4_costOf_10 : am_i m_X4_costOf 10 = some (10, .aload_n 3, 1, [], 0) := rfl
theorem i_X4_costOf_11 : am_i m_X4_costOf 11 = some (11, .getfield 48, 3, [5, 1, 1], 0) := rfl
theorem i_X4_costOf_14 : am_i m_X4_costOf 14 = some (14, .invokestatic 51, 3, [13], 0) := rfl
theorem i_X4_costOf_17 : am_i m_X4_costOf 17 = some (17, .istore 6, 2, [], 0) := rfl
theorem i_X4_costOf_19 : am_i m_X4_costOf 19 = some (19, .iload_n 1, 1, [], 0) := rfl
theorem i_X4_costOf_20 : am_i m_X4_costOf 20 = some (20, .aload_n 3, 1, [], 0) := rfl
theorem i_X4_costOf_21 : am_i m_X4_costOf 21 = some (21, .getfield 42, 3, [5, 0, 1], 0) := rfl
theorem i_X4_costOf_24 : am_i m_X4_costOf 24 = some (24, .aload_n 3, 1, [], 0) := rfl
theorem i_X4_costOf_25 : am_i m_X4_costOf 25 = some (25, .getfield 48, 3, [5, 1, 1], 0) := rfl
theorem i_X4_costOf_28 : am_i m_X4_costOf 28 = some (28, .invokestatic 33, 3, [19], 0) := rfl
theorem i_X4_costOf_31 : am_i m_X4_costOf 31 = some (31, .istore 7, 2, [], 0) := rfl
theorem i_X4_costOf_33 : am_i m_X4_costOf 33 = some (33, .iconst 0, 1, [], 0) := rfl
theorem i_X4_costOf_34 : am_i m_X4_costOf 34 = some (34, .istore 8, 2, [], 0) := rfl
theorem b_X4_costOf_0 {a0 a2 a3 : Nat} {x1 x4 x1' : Int} {h : am_H} (w1 : wr x1 = x1') (k1 : K5 h a3) : rn m_X4_costOf 0 [.ref a0, .int (mI x1), .ref a2, .ref a3, .int (mI x4), am_J, am_J, am_J, am_J] [] h = rn m_X4_costOf 36 [.ref a0, .int (mI x1), .ref a2, .ref a3, .int (mI x4), .int (mI ((max (wr ((Int.tdiv x1' 100) - 8)) (-(wr ((Int.tdiv x1' 100) - 8)))) + (max (wr ((Int.tmod x1' 100) - 8)) (-(wr ((Int.tmod x1' 100) - 8)))))), .int (mI ((16 * (fZ h a3 1)) + (fZ h a3 0))), .int (mI (((47 * ((2 * (fZ h a3 1)) + (Int.tmod x1' 100))) + (2 * (fZ h a3 0))) + (Int.tdiv x1' 100))), .int (mI 0)] [] h := by
  refine (tq_iload_n i_X4_costOf_0 rfl rfl).trans ?_
  refine (c_X9_length i_X4_costOf_1 (ltd d_X4_costOf (by decide)) stOk_0 rfl).trans ?_
  refine (congrArg (cl _ _ _ _) (b_X9_length_0 w1)).trans ?_
  refine (cl_v _ _ _ _ _ _).trans ?_
  refine (tq_istore (L' := [.ref a0, .int (mI x1), .ref a2, .ref a3, .int (mI x4), .int (mI ((max (wr ((Int.tdiv x1' 100) - 8)) (-(wr ((Int.tdiv x1' 100) - 8)))) + (max (wr ((Int.tmod x1' 100) - 8)) (-(wr ((Int.tmod x1' 100) - 8)))))), am_J, am_J, am_J]) i_X4_costOf_4 rfl rfl).trans ?_
  refine (tq_aload_n i_X4_costOf_6 rfl (isA_ref _) rfl).trans ?_
  refine (tq_getfield i_X4_costOf_7 (K5_s k1) (g_5_0 (K5_s k1)) (isV_I _) rfl).trans ?_
  refine (tq_aload_n i_X4_costOf_10 rfl (isA_ref _) rfl).trans ?_
  refine (tq_getfield i_X4_costOf_11 (K5_s k1) (g_5_1 (K5_s k1)) (isV_I _) rfl).trans ?_
  refine (c_X11_placeOf i_X4_costOf_14 (ltd d_X4_costOf (by decide)) stOk_0 rfl).trans ?_
  refine (congrArg (cl _ _ _ _) (b_X11_placeOf_0)).trans ?_
  refine (cl_v _ _ _ _ _ _).trans ?_
  refine (tq_istore (L' := [.ref a0, .int (mI x1), .ref a2, .ref a3, .int (mI x4), .int (mI ((max (wr ((Int.tdiv x1' 100) - 8)) (-(wr ((Int.tdiv x1' 100) - 8)))) + (max (wr ((Int.tmod x1' 100) - 8)) (-(wr ((Int.tmod x1' 100) - 8)))))), .int (mI ((16 * (fZ h a3 1)) + (fZ h a3 0))), am_J, am_J]) i_X4_costOf_17 rfl rfl).trans ?_
  refine (tq_iload_n i_X4_costOf_19 rfl rfl).trans ?_
  refine (tq_aload_n i_X4_costOf_20 rfl (isA_ref _) rfl).trans ?_
  refine (tq_getfield i_X4_costOf_21 (K5_s k1) (g_5_0 (K5_s k1)) (isV_I _) rfl).trans ?_
  refine (tq_aload_n i_X4_costOf_24 rfl (isA_ref _) rfl).trans ?_
  refine (tq_getfield i_X4_costOf_25 (K5_s k1) (g_5_1 (K5_s k1)) (isV_I _) rfl).trans ?_
  refine (c_X4_placeFrom i_X4_costOf_28 (ltd d_X4_costOf (by decide)) stOk_0 rfl).trans ?_
  refine (congrArg (cl _ _ _ _) (b_X4_placeFrom_0 w1)).trans ?_
  refine (cl_v _ _ _ _ _ _).trans ?_
  refine (tq_istore (L' := [.ref a0, .int (mI x1), .ref a2, .ref a3, .int (mI x4), .int (mI ((max (wr ((Int.tdiv x1' 100) - 8)) (-(wr ((Int.tdiv x1' 100) - 8)))) + (max (wr ((Int.tmod x1' 100) - 8)) (-(wr ((Int.tmod x1' 100) - 8)))))), .int (mI ((16 * (fZ h a3 1)) + (fZ h a3 0))), .int (mI (((47 * ((2 * (fZ h a3 1)) + (Int.tmod x1' 100))) + (2 * (fZ h a3 0))) + (Int.tdiv x1' 100))), am_J]) i_X4_costOf_31 rfl rfl).trans ?_
  refine (tq_iconst i_X4_costOf_33 rfl).trans ?_
  refine (tq_istore (L' := [.ref a0, .int (mI x1), .ref a2, .ref a3, .int (mI x4), .int (mI ((max (wr ((Int.tdiv x1' 100) - 8)) (-(wr ((Int.tdiv x1' 100) - 8)))) + (max (wr ((Int.tmod x1' 100) - 8)) (-(wr ((Int.tmod x1' 100) - 8)))))), .int (mI ((16 * (fZ h a3 1)) + (fZ h a3 0))), .int (mI (((47 * ((2 * (fZ h a3 1)) + (Int.tmod x1' 100))) + (2 * (fZ h a3 0))) + (Int.tdiv x1' 100))), .int (mI 0)]) i_X4_costOf_34 rfl rfl).trans ?_
  rfl
theorem i_X4_costOf_36 : am_i m_X4_costOf 36 = some (36, .iload 8, 2, [], 0) := rfl
theorem i_X4_costOf_38 : am_i m_X4_costOf 38 = some (38, .aload_n 3, 1, [], 0) := rfl
theorem i_X4_costOf_39 : am_i m_X4_costOf 39 = some (39, .getfield 55, 3, [5, 2, 1], 0) := rfl
theorem i_X4_costOf_42 : am_i m_X4_costOf 42 = some (42, .if_icmp .ge 46, 3, [], 0) := rfl
theorem i_X4_costOf_45 : am_i m_X4_costOf 45 = some (45, .iload 5, 2, [], 0) := rfl
theorem i_X4_costOf_47 : am_i m_X4_costOf 47 = some (47, .iload 4, 2, [], 0) := rfl
theorem i_X4_costOf_49 : am_i m_X4_costOf 49 = some (49, .if_icmp .ge 39, 3, [], 0) := rfl
theorem i_X4_costOf_52 : am_i m_X4_costOf 52 = some (52, .iload 5, 2, [], 0) := rfl
theorem i_X4_costOf_54 : am_i m_X4_costOf 54 = some (54, .aload_n 0, 1, [], 0) := rfl
theorem i_X4_costOf_55 : am_i m_X4_costOf 55 = some (55, .aload_n 2, 1, [], 0) := rfl
theorem i_X4_costOf_56 : am_i m_X4_costOf 56 = some (56, .iload 6, 2, [], 0) := rfl
theorem i_X4_costOf_58 : am_i m_X4_costOf 58 = some (58, .bipush 16, 2, [], 16) := rfl
theorem i_X4_costOf_60 : am_i m_X4_costOf 60 = some (60, .iload 8, 2, [], 0) := rfl
theorem i_X4_costOf_62 : am_i m_X4_costOf 62 = some (62, .imul, 1, [], 0) := rfl
theorem i_X4_costOf_63 : am_i m_X4_costOf 63 = some (63, .iadd, 1, [], 0) := rfl
theorem i_X4_costOf_64 : am_i m_X4_costOf 64 = some (64, .iload 7, 2, [], 0) := rfl
theorem i_X4_costOf_66 : am_i m_X4_costOf 66 = some (66, .bipush 94, 2, [], 94) := rfl
theorem i_X4_costOf_68 : am_i m_X4_costOf 68 = some (68, .iload 8, 2, [], 0) := rfl
theorem i_X4_costOf_70 : am_i m_X4_costOf 70 = some (70, .imul, 1, [], 0) := rfl
theorem i_X4_costOf_71 : am_i m_X4_costOf 71 = some (71, .iadd, 1, [], 0) := rfl
theorem i_X4_costOf_72 : am_i m_X4_costOf 72 = some (72, .aload_n 3, 1, [], 0) := rfl
theorem i_X4_costOf_73 : am_i m_X4_costOf 73 = some (73, .getfield 55, 3, [5, 2, 1], 0) := rfl
theorem i_X4_costOf_76 : am_i m_X4_costOf 76 = some (76, .invokevirtual 58, 3, [63, 4], 0) := rfl
theorem i_X4_costOf_88 : am_i m_X4_costOf 88 = some (88, .iload 5, 2, [], 0) := rfl
theorem i_X4_costOf_90 : am_i m_X4_costOf 90 = some (90, .ireturn, 1, [], 0) := rfl
theorem b_X4_costOf_36 {a0 a2 a3 : Nat} {v1 : Value} {x4 x5 x6 x7 x8 x4' x5' x8' : Int} {h : am_H} (w4 : wr x4 = x4') (w5 : wr x5 = x5') (w8 : wr x8 = x8') (k1 : K5 h a3) (k2 : K4 h a0) : rn m_X4_costOf 36 [.ref a0, v1, .ref a2, .ref a3, .int (mI x4), .int (mI x5), .int (mI x6), .int (mI x7), .int (mI x8)] [] h = if (fZ h a3 2) ≤ x8' then some (.inl (some (.int (mI x5))), h) else if x4' ≤ x5' then some (.inl (some (.int (mI x5))), h) else cl m_X4_costOf 79 [.ref a0, v1, .ref a2, .ref a3, .int (mI x4), .int (mI x5), .int (mI x6), .int (mI x7), .int (mI x8)] [.int (mI x5)] (rn m_X4_rowDifference 0 [.ref a0, .ref a2, .int (mI (x6 + (16 * x8))), .int (mI (x7 + (94 * x8))), .int (mI (fZ h a3 2)), am_J, am_J] [] h) := by
  refine (tq_iload i_X4_costOf_36 rfl rfl).trans ?_
  refine (tq_aload_n i_X4_costOf_38 rfl (isA_ref _) rfl).trans ?_
  refine (tq_getfield i_X4_costOf_39 (K5_s k1) (g_5_2 (K5_s k1)) (isV_I _) rfl).trans ?_
  refine (tq_icmp_ge (pt := 88) i_X4_costOf_42 w8 (wr_fZ _ _ _) (by decide) rfl).trans ?_
  refine ite_congr rfl (fun c1 => ?_) (fun c1 => ?_)
  · refine (tq_iload i_X4_costOf_88 rfl rfl).trans ?_
    exact tq_ireturn i_X4_costOf_90 r_X4_costOf rfl
  · refine (tq_iload i_X4_costOf_45 rfl rfl).trans ?_
    refine (tq_iload i_X4_costOf_47 rfl rfl).trans ?_
    refine (tq_icmp_ge (pt := 88) i_X4_costOf_49 w5 w4 (by decide) rfl).trans ?_
    refine ite_congr rfl (fun c2 => ?_) (fun c2 => ?_)
    · refine (tq_iload i_X4_costOf_88 rfl rfl).trans ?_
      exact tq_ireturn i_X4_costOf_90 r_X4_costOf rfl
    · refine (tq_iload i_X4_costOf_52 rfl rfl).trans ?_
      refine (tq_aload_n i_X4_costOf_54 rfl (isA_ref _) rfl).trans ?_
      refine (tq_aload_n i_X4_costOf_55 rfl (isA_ref _) rfl).trans ?_
      refine (tq_iload i_X4_costOf_56 rfl rfl).trans ?_
      refine (tq_bipush i_X4_costOf_58 rfl).trans ?_
      refine (tq_iload i_X4_costOf_60 rfl rfl).trans ?_
      refine (tq_imul i_X4_costOf_62 rfl).trans ?_
      refine (tq_iadd i_X4_costOf_63 rfl).trans ?_
      refine (tq_iload i_X4_costOf_64 rfl rfl).trans ?_
      refine (tq_bipush i_X4_costOf_66 rfl).trans ?_
      refine (tq_iload i_X4_costOf_68 rfl rfl).trans ?_
      refine (tq_imul i_X4_costOf_70 rfl).trans ?_
      refine (tq_iadd i_X4_costOf_71 rfl).trans ?_
      refine (tq_aload_n i_X4_costOf_72 rfl (isA_ref _) rfl).trans ?_
      refine (tq_getfield i_X4_costOf_73 (K5_s k1) (g_5_2 (K5_s k1)) (isV_I _) rfl).trans ?_
      exact c_X4_rowDifference i_X4_costOf_76 (K4_s k2) (ltd d_X4_costOf (by decide)) (isA_ref _) (stOk_1 _) rfl
theorem i_X4_costOf_79 : am_i m_X4_costOf 79 = some (79, .iadd, 1, [], 0) := rfl
theorem i_X4_costOf_80 : am_i m_X4_costOf 80 = some (80, .istore 5, 2, [], 0) := rfl
theorem i_X4_costOf_82 : am_i m_X4_costOf 82 = some (82, .iinc 8 1, 3, [], 0) := rfl
theorem i_X4_costOf_85 : am_i m_X4_costOf 85 = some (85, .goto (-49), 3, [], 0) := rfl
theorem b_X4_costOf_79 {a0 a2 a3 : Nat} {v1 v5 : Value} {x4 x6 x7 x8 xs0 xs1 : Int} {h : am_H} : rn m_X4_costOf 79 [.ref a0, v1, .ref a2, .ref a3, .int (mI x4), v5, .int (mI x6), .int (mI x7), .int (mI x8)] [.int (mI xs0), .int (mI xs1)] h = rn m_X4_costOf 36 [.ref a0, v1, .ref a2, .ref a3, .int (mI x4), .int (mI (xs1 + xs0)), .int (mI x6), .int (mI x7), .int (mI (x8 + 1))] [] h := by
  refine (tq_iadd i_X4_costOf_79 rfl).trans ?_
  refine (tq_istore (L' := [.ref a0, v1, .ref a2, .ref a3, .int (mI x4), .int (mI (xs1 + xs0)), .int (mI x6), .int (mI x7), .int (mI x8)]) i_X4_costOf_80 rfl rfl).trans ?_
  refine (tq_iinc (L' := [.ref a0, v1, .ref a2, .ref a3, .int (mI x4), .int (mI (xs1 + xs0)), .int (mI x6), .int (mI x7), .int (mI (x8 + 1))]) i_X4_costOf_82 rfl rfl rfl).trans ?_
  refine (tq_goto (pc' := 36) i_X4_costOf_85 (by decide)).trans ?_
  rfl
/-- a part's place and size -/
def partAt (h : am_H) (p : Nat) (X Y Z T : Int) : Prop := fZ h p 0 = X ∧ fZ h p 1 = Y ∧ fZ h p 2 = Z ∧ fZ h p 3 = T
def isPart (X Y Z T : Int) : Prop := (Z = 4 ∨ Z = 8) ∧ (0 ≤ X ∧ X + Z ≤ 16) ∧ (0 ≤ Y ∧ Y + Z ≤ 16) ∧ 0 ≤ T ∧ T ≤ 8
theorem costOf_ok {h : am_H} {a b p : Nat} {f : Int → Int} {v X Y Z T lim : Int} (k : K4 h a) (kp : K5 h p) (s : sh h b = (1, 0)) (n1 : gn h b = 256) (q : isH h a f) (hf : pixels f) (hc : pixels (gZ h b)) (pa : partAt h p X Y Z T) (ip : isPart X Y Z T) (v0 : 0 ≤ v) (v1 : v / 100 ≤ 16) (v2 : v % 100 ≤ 16) (hl : 0 ≤ lim ∧ lim ≤ 1000000) : ∃ r, rn m_X4_costOf 0 [.ref a, .int (mI v), .ref b, .ref p, .int (mI lim), am_J, am_J, am_J, am_J] [] h = some (.inl (some (.int (mI r))), h) ∧ wr r = r ∧ (vcost (gZ h b) f X Y Z v < lim → r = vcost (gZ h b) f X Y Z v) ∧ (lim ≤ vcost (gZ h b) f X Y Z v → lim ≤ r) := by
  obtain ⟨p0, p1, p2, -⟩ := pa
  obtain ⟨hz, hX, hY, -⟩ := ip
  have lb := vlen_b v0 v1 v2
  have zz : Z * Z = 16 ∨ Z * Z = 64 := by rcases hz with e | e <;> rw [e] <;> omega
  have hgg : ∀ x y, X ≤ x → x < X + Z → Y ≤ y → y < Y + Z → 0 ≤ hv f (2 * x + vX v) (2 * y + vY v) ∧ hv f (2 * x + vX v) (2 * y + vY v) ≤ 255 := fun _ _ _ _ _ _ => hv_b hf _ _
  rw [b_X4_costOf_0 (wr_id (by omega) (by omega)) kp, length_ok (h := h) v0 v1 v2, tdv v0, tmd v0, p0, p1]
  refine lpe (m := m_X4_costOf) (pc := 36) (L := fun i (x : Int) => [.ref a, .int (mI v), .ref b, .ref p, .int (mI lim), .int (mI x), .int (mI (16 * Y + X)), .int (mI (47 * (2 * Y + v % 100) + 2 * X + v / 100)), .int (mI i)]) (N := Z) (P := fun o => ∃ r, o = some (.inl (some (.int (mI r))), h) ∧ wr r = r ∧ (vcost (gZ h b) f X Y Z v < lim → r = vcost (gZ h b) f X Y Z v) ∧ (lim ≤ vcost (gZ h b) f X Y Z v → lim ≤ r)) (fun i x h' => 0 ≤ i ∧ h' = h ∧ x = vlen v + dsum (gZ h b) (fun x y => hv f (2 * x + vX v) (2 * y + vY v)) X Y Z (Z * i).toNat) ?_ ?_ 0 (vlen v) h (by omega) ⟨by omega, rfl, by rw [Int.mul_zero]; exact (Int.add_zero _).symm⟩
  · intro i x h' hi ⟨i0, e, ex⟩
    subst e
    have zi : 0 ≤ Z * i ∧ Z * i + Z ≤ Z * Z ∧ Z * (i + 1) = Z * i + Z := by rcases hz with e | e <;> subst e <;> omega
    have d1 := dsum_b (n := (Z * i).toNat) hz (by omega) hX hY hc hgg
    have xb : 0 ≤ x ∧ x ≤ 100000 := by omega
    by_cases ql : lim ≤ x
    · left
      refine ⟨x, (b_X4_costOf_36 (wr_id (by omega) (by omega)) (wr_id (by omega) (by omega)) (wr_id (by omega) (by omega)) kp k).trans ((if_neg (by omega)).trans (if_pos (by omega))), wr_id (by omega) (by omega), fun h1 => ?_, fun _ => ql⟩
      exfalso
      unfold vcost at h1
      have d3 : dsum (gZ h' b) (fun x y => hv f (2 * x + vX v) (2 * y + vY v)) X Y Z (Z * i).toNat ≤ dsum (gZ h' b) (fun x y => hv f (2 * x + vX v) (2 * y + vY v)) X Y Z (Z * Z).toNat := by
        exact sm_mono (fun j => iabs_nn _) (by omega)
      omega
    · right
      have rd := rowDifference_ok (f := 16 * Y + X + 16 * i) (p := 47 * (2 * Y + v % 100) + 2 * X + v / 100 + 94 * i) (z := Z) k s n1 (by omega) (by omega) hz hc (fun j j0 j1 => by
        rw [show 47 * (2 * Y + v % 100) + 2 * X + v / 100 + 94 * i + 2 * j = 47 * (2 * (Y + i) + v % 100) + (2 * (X + j) + v / 100) by omega, q _ _ (by omega) (by omega) (by omega) (by omega)]
        exact hv_b hf _ _)
      refine ⟨x + sm Z.toNat (fun j => iabs (gZ h' b (16 * Y + X + 16 * i + j) - gZ h' (a + 1) (47 * (2 * Y + v % 100) + 2 * X + v / 100 + 94 * i + 2 * j))), h', (b_X4_costOf_36 (wr_id (by omega) (by omega)) (wr_id (by omega) (by omega)) (wr_id (by omega) (by omega)) kp k).trans ((if_neg (by omega)).trans ((if_neg (by omega)).trans ?_)), by omega, rfl, ?_⟩
      · rw [p2, rd, cl_v, b_X4_costOf_79]
      · rw [ex, Int.add_assoc, dsum_row hz i0]
        congr 2
        refine sm_congr fun j j0 j1 => ?_
        rw [show 47 * (2 * Y + v % 100) + 2 * X + v / 100 + 94 * i + 2 * j = 47 * (2 * (Y + i) + v % 100) + (2 * (X + j) + v / 100) by omega, q _ _ (by omega) (by omega) (by omega) (by omega)]
        rw [show 2 * (X + j) + v / 100 - 8 = 2 * (X + j) + vX v by unfold vX; omega, show 2 * (Y + i) + v % 100 - 8 = 2 * (Y + i) + vY v by unfold vY; omega, show 16 * Y + X + 16 * i + j = 16 * (Y + i) + (X + j) by omega]
  · intro x h' ⟨i0, e, ex⟩
    subst e
    have d1 := dsum_b (n := (Z * Z).toNat) hz (by omega) hX hY hc hgg
    have xe : x = vcost (gZ h' b) f X Y Z v := by rw [ex]; unfold vcost; omega
    have xb : 0 ≤ x ∧ x ≤ 100000 := by omega
    refine ⟨x, (b_X4_costOf_36 (wr_id (by omega) (by omega)) (wr_id (by omega) (by omega)) (wr_id (by omega) (by omega)) kp k).trans (if_pos (by omega)), wr_id (by omega) (by omega), fun _ => xe, fun h1 => by omega⟩
theorem i_X2_search_0 : am_i m_X2_search 0 = some (0, .iconst 0, 1, [], 0) := rfl
theorem i_X2_search_1 : am_i m_X2_search 1 = some (1, .iconst 0, 1, [], 0) := rfl
theorem i_X2_search_2 : am_i m_X2_search 2 = some (2, .invokestatic 148, 3, [38], 0) := rfl
theorem i_X2_search_5 : am_i m_X2_search 5 = some (5, .istore 4, 2, [], 0) := rfl
theorem i_X2_search_7 : am_i m_X2_search 7 = some (7, .ldc 126, 2, [], 1000000) := rfl
theorem i_X2_search_9 : am_i m_X2_search 9 = some (9, .istore 5, 2, [], 0) := rfl
theorem i_X2_search_11 : am_i m_X2_search 11 = some (11, .iload_n 3, 1, [], 0) := rfl
theorem i_X2_search_12 : am_i m_X2_search 12 = some (12, .iconst 1, 1, [], 1) := rfl
theorem i_X2_search_13 : am_i m_X2_search 13 = some (13, .if_icmp .le 7, 3, [], 0) := rfl
theorem i_X2_search_16 : am_i m_X2_search 16 = some (16, .iload_n 3, 1, [], 0) := rfl
theorem i_X2_search_17 : am_i m_X2_search 17 = some (17, .goto 4, 3, [], 0) := rfl
theorem i_X2_search_20 : am_i m_X2_search 20 = some (20, .iconst 1, 1, [], 1) := rfl
theorem i_X2_search_21 : am_i m_X2_search 21 = some (21, .istore 6, 2, [], 0) := rfl
theorem i_X2_search_23 : am_i m_X2_search 23 = some (23, .bipush (-8), 2, [], -8) := rfl
theorem i_X2_search_25 : am_i m_X2_search 25 = some (25, .istore 7, 2, [], 0) := rfl
theorem b_X2_search_0 {a0 a1 a2 : Nat} {x3 x3' : Int} {h : am_H} (w3 : wr x3 = x3') : rn m_X2_search 0 [.ref a0, .ref a1, .ref a2, .int (mI x3), am_J, am_J, am_J, am_J, am_J, am_J, am_J] [] h = rn m_X2_search 27 [.ref a0, .ref a1, .ref a2, .int (mI x3), .int (mI (((100 * (0 + 8)) + 0) + 8)), .int (mI 1000000), .int (mI (if x3' ≤ 1 then 1 else x3)), .int (mI (-8)), am_J, am_J, am_J] [] h := by
  refine (tq_iconst i_X2_search_0 rfl).trans ?_
  refine (tq_iconst i_X2_search_1 rfl).trans ?_
  refine (c_X9_of i_X2_search_2 (ltd d_X2_search (by decide)) stOk_0 rfl).trans ?_
  refine (congrArg (cl _ _ _ _) (b_X9_of_0)).trans ?_
  refine (cl_v _ _ _ _ _ _).trans ?_
  refine (tq_istore (L' := [.ref a0, .ref a1, .ref a2, .int (mI x3), .int (mI (((100 * (0 + 8)) + 0) + 8)), am_J, am_J, am_J, am_J, am_J, am_J]) i_X2_search_5 rfl rfl).trans ?_
  refine (tq_ldc i_X2_search_7 rfl).trans ?_
  refine (tq_istore (L' := [.ref a0, .ref a1, .ref a2, .int (mI x3), .int (mI (((100 * (0 + 8)) + 0) + 8)), .int (mI 1000000), am_J, am_J, am_J, am_J, am_J]) i_X2_search_9 rfl rfl).trans ?_
  refine (tq_iload_n i_X2_search_11 rfl rfl).trans ?_
  refine (tq_iconst i_X2_search_12 rfl).trans ?_
  refine (tq_icmp_le (pt := 20) i_X2_search_13 w3 w_1 (by decide) rfl).trans ?_
  refine Eq.trans (b := if x3' ≤ 1 then rn m_X2_search 21 [.ref a0, .ref a1, .ref a2, .int (mI x3), .int (mI (((100 * (0 + 8)) + 0) + 8)), .int (mI 1000000), am_J, am_J, am_J, am_J, am_J] [.int (mI 1)] h else rn m_X2_search 21 [.ref a0, .ref a1, .ref a2, .int (mI x3), .int (mI (((100 * (0 + 8)) + 0) + 8)), .int (mI 1000000), am_J, am_J, am_J, am_J, am_J] [.int (mI x3)] h) (ite_congr rfl (fun c1 => ?_) (fun c1 => ?_)) ?_
  · refine (tq_iconst i_X2_search_20 rfl).trans ?_
    rfl
  · refine (tq_iload_n i_X2_search_16 rfl rfl).trans ?_
    refine (tq_goto (pc' := 21) i_X2_search_17 (by decide)).trans ?_
    rfl
  refine Eq.trans ite_I ?_
  refine (tq_istore (L' := [.ref a0, .ref a1, .ref a2, .int (mI x3), .int (mI (((100 * (0 + 8)) + 0) + 8)), .int (mI 1000000), .int (mI (if x3' ≤ 1 then 1 else x3)), am_J, am_J, am_J, am_J]) i_X2_search_21 rfl rfl).trans ?_
  refine (tq_bipush i_X2_search_23 rfl).trans ?_
  refine (tq_istore (L' := [.ref a0, .ref a1, .ref a2, .int (mI x3), .int (mI (((100 * (0 + 8)) + 0) + 8)), .int (mI 1000000), .int (mI (if x3' ≤ 1 then 1 else x3)), .int (mI (-8)), am_J, am_J, am_J]) i_X2_search_25 rfl rfl).trans ?_
  rfl
theorem i_X2_search_27 : am_i m_X2_search 27 = some (27, .iload 7, 2, [], 0) := rfl
theorem i_X2_search_29 : am_i m_X2_search 29 = some (29, .bipush 8, 2, [], 8) := rfl
theorem i_X2_search_31 : am_i m_X2_search 31 = some (31, .if_icmp .gt 73, 3, [], 0) := rfl
theorem i_X2_search_34 : am_i m_X2_search 34 = some (34, .bipush (-8), 2, [], -8) := rfl
theorem i_X2_search_36 : am_i m_X2_search 36 = some (36, .istore 8, 2, [], 0) := rfl
theorem i_X2_search_104 : am_i m_X2_search 104 = some (104, .iload 4, 2, [], 0) := rfl
theorem i_X2_search_106 : am_i m_X2_search 106 = some (106, .ireturn, 1, [], 0) := rfl
theorem b_X2_search_27 {a0 a1 a2 : Nat} {v3 v8 v9 v10 : Value} {x4 x5 x6 x7 x7' : Int} {h : am_H} (w7 : wr x7 = x7') : rn m_X2_search 27 [.ref a0, .ref a1, .ref a2, v3, .int (mI x4), .int (mI x5), .int (mI x6), .int (mI x7), v8, v9, v10] [] h = if 8 < x7' then some (.inl (some (.int (mI x4))), h) else rn m_X2_search 38 [.ref a0, .ref a1, .ref a2, v3, .int (mI x4), .int (mI x5), .int (mI x6), .int (mI x7), .int (mI (-8)), v9, v10] [] h := by
  refine (tq_iload i_X2_search_27 rfl rfl).trans ?_
  refine (tq_bipush i_X2_search_29 rfl).trans ?_
  refine (tq_icmp_gt (pt := 104) i_X2_search_31 w7 w_8 (by decide) rfl).trans ?_
  refine ite_congr rfl (fun c1 => ?_) (fun c1 => ?_)
  · refine (tq_iload i_X2_search_104 rfl rfl).trans ?_
    exact tq_ireturn i_X2_search_106 r_X2_search rfl
  · refine (tq_bipush i_X2_search_34 rfl).trans ?_
    refine (tq_istore (L' := [.ref a0, .ref a1, .ref a2, v3, .int (mI x4), .int (mI x5), .int (mI x6), .int (mI x7), .int (mI (-8)), v9, v10]) i_X2_search_36 rfl rfl).trans ?_
    rfl
theorem i_X2_search_38 : am_i m_X2_search 38 = some (38, .iload 8, 2, [], 0) := rfl
theorem i_X2_search_40 : am_i m_X2_search 40 = some (40, .bipush 8, 2, [], 8) := rfl
theorem i_X2_search_42 : am_i m_X2_search 42 = some (42, .if_icmp .gt 52, 3, [], 0) := rfl
theorem i_X2_search_45 : am_i m_X2_search 45 = some (45, .iload 8, 2, [], 0) := rfl
theorem i_X2_search_47 : am_i m_X2_search 47 = some (47, .iload 7, 2, [], 0) := rfl
theorem i_X2_search_49 : am_i m_X2_search 49 = some (49, .invokestatic 148, 3, [38], 0) := rfl
theorem i_X2_search_52 : am_i m_X2_search 52 = some (52, .istore 9, 2, [], 0) := rfl
theorem i_X2_search_54 : am_i m_X2_search 54 = some (54, .aload_n 1, 1, [], 0) := rfl
theorem i_X2_search_55 : am_i m_X2_search 55 = some (55, .iload 9, 2, [], 0) := rfl
theorem i_X2_search_57 : am_i m_X2_search 57 = some (57, .aload_n 2, 1, [], 0) := rfl
theorem i_X2_search_58 : am_i m_X2_search 58 = some (58, .aload_n 0, 1, [], 0) := rfl
theorem i_X2_search_59 : am_i m_X2_search 59 = some (59, .getfield 21, 3, [2, 1, 0], 0) := rfl
theorem i_X2_search_62 : am_i m_X2_search 62 = some (62, .iload 5, 2, [], 0) := rfl
theorem i_X2_search_64 : am_i m_X2_search 64 = some (64, .invokevirtual 153, 3, [80, 4], 0) := rfl
theorem i_X2_search_94 : am_i m_X2_search 94 = some (94, .iload 7, 2, [], 0) := rfl
theorem i_X2_search_96 : am_i m_X2_search 96 = some (96, .iload 6, 2, [], 0) := rfl
theorem i_X2_search_98 : am_i m_X2_search 98 = some (98, .iadd, 1, [], 0) := rfl
theorem i_X2_search_99 : am_i m_X2_search 99 = some (99, .istore 7, 2, [], 0) := rfl
theorem i_X2_search_101 : am_i m_X2_search 101 = some (101, .goto (-74), 3, [], 0) := rfl
theorem b_X2_search_38 {a0 a1 a2 : Nat} {v3 v9 v10 : Value} {x4 x5 x6 x7 x8 x8' : Int} {h : am_H} (w8 : wr x8 = x8') (k1 : K2 h a0) (k2 : K4 h a1) : rn m_X2_search 38 [.ref a0, .ref a1, .ref a2, v3, .int (mI x4), .int (mI x5), .int (mI x6), .int (mI x7), .int (mI x8), v9, v10] [] h = if 8 < x8' then rn m_X2_search 27 [.ref a0, .ref a1, .ref a2, v3, .int (mI x4), .int (mI x5), .int (mI x6), .int (mI (x7 + x6)), .int (mI x8), v9, v10] [] h else cl m_X2_search 67 [.ref a0, .ref a1, .ref a2, v3, .int (mI x4), .int (mI x5), .int (mI x6), .int (mI x7), .int (mI x8), .int (mI (((100 * (x8 + 8)) + x7) + 8)), v10] [] (rn m_X4_costOf 0 [.ref a1, .int (mI (((100 * (x8 + 8)) + x7) + 8)), .ref a2, .ref (a0 + 10), .int (mI x5), am_J, am_J, am_J, am_J] [] h) := by
  refine (tq_iload i_X2_search_38 rfl rfl).trans ?_
  refine (tq_bipush i_X2_search_40 rfl).trans ?_
  refine (tq_icmp_gt (pt := 94) i_X2_search_42 w8 w_8 (by decide) rfl).trans ?_
  refine ite_congr rfl (fun c1 => ?_) (fun c1 => ?_)
  · refine (tq_iload i_X2_search_94 rfl rfl).trans ?_
    refine (tq_iload i_X2_search_96 rfl rfl).trans ?_
    refine (tq_iadd i_X2_search_98 rfl).trans ?_
    refine (tq_istore (L' := [.ref a0, .ref a1, .ref a2, v3, .int (mI x4), .int (mI x5), .int (mI x6), .int (mI (x7 + x6)), .int (mI x8), v9, v10]) i_X2_search_99 rfl rfl).trans ?_
    refine (tq_goto (pc' := 27) i_X2_search_101 (by decide)).trans ?_
    rfl
  · refine (tq_iload i_X2_search_45 rfl rfl).trans ?_
    refine (tq_iload i_X2_search_47 rfl rfl).trans ?_
    refine (c_X9_of i_X2_search_49 (ltd d_X2_search (by decide)) stOk_0 rfl).trans ?_
    refine (congrArg (cl _ _ _ _) (b_X9_of_0)).trans ?_
    refine (cl_v _ _ _ _ _ _).trans ?_
    refine (tq_istore (L' := [.ref a0, .ref a1, .ref a2, v3, .int (mI x4), .int (mI x5), .int (mI x6), .int (mI x7), .int (mI x8), .int (mI (((100 * (x8 + 8)) + x7) + 8)), v10]) i_X2_search_52 rfl rfl).trans ?_
    refine (tq_aload_n i_X2_search_54 rfl (isA_ref _) rfl).trans ?_
    refine (tq_iload i_X2_search_55 rfl rfl).trans ?_
    refine (tq_aload_n i_X2_search_57 rfl (isA_ref _) rfl).trans ?_
    refine (tq_aload_n i_X2_search_58 rfl (isA_ref _) rfl).trans ?_
    refine (tq_getfield i_X2_search_59 (K2_s k1) (gR (g_2_1 (K2_s k1)) (K2_e1 k1)) (isV_ref _) rfl).trans ?_
    refine (tq_iload i_X2_search_62 rfl rfl).trans ?_
    exact c_X4_costOf i_X2_search_64 (K4_s k2) (ltd d_X2_search (by decide)) (isA_ref _) (isA_ref _) stOk_0 rfl
theorem i_X2_search_67 : am_i m_X2_search 67 = some (67, .istore 10, 2, [], 0) := rfl
theorem i_X2_search_69 : am_i m_X2_search 69 = some (69, .iload 10, 2, [], 0) := rfl
theorem i_X2_search_71 : am_i m_X2_search 71 = some (71, .iload 5, 2, [], 0) := rfl
theorem i_X2_search_73 : am_i m_X2_search 73 = some (73, .if_icmp .ge 11, 3, [], 0) := rfl
theorem i_X2_search_76 : am_i m_X2_search 76 = some (76, .iload 10, 2, [], 0) := rfl
theorem i_X2_search_78 : am_i m_X2_search 78 = some (78, .istore 5, 2, [], 0) := rfl
theorem i_X2_search_80 : am_i m_X2_search 80 = some (80, .iload 9, 2, [], 0) := rfl
theorem i_X2_search_82 : am_i m_X2_search 82 = some (82, .istore 4, 2, [], 0) := rfl
theorem i_X2_search_84 : am_i m_X2_search 84 = some (84, .iload 8, 2, [], 0) := rfl
theorem i_X2_search_86 : am_i m_X2_search 86 = some (86, .iload 6, 2, [], 0) := rfl
theorem i_X2_search_88 : am_i m_X2_search 88 = some (88, .iadd, 1, [], 0) := rfl
theorem i_X2_search_89 : am_i m_X2_search 89 = some (89, .istore 8, 2, [], 0) := rfl
theorem i_X2_search_91 : am_i m_X2_search 91 = some (91, .goto (-53), 3, [], 0) := rfl
theorem b_X2_search_67 {a0 a1 a2 : Nat} {v3 v10 : Value} {x4 x5 x6 x7 x8 x9 xs0 x5' xs0' : Int} {h : am_H} (w5 : wr x5 = x5') (ws0 : wr xs0 = xs0') : rn m_X2_search 67 [.ref a0, .ref a1, .ref a2, v3, .int (mI x4), .int (mI x5), .int (mI x6), .int (mI x7), .int (mI x8), .int (mI x9), v10] [.int (mI xs0)] h = if x5' ≤ xs0' then rn m_X2_search 38 [.ref a0, .ref a1, .ref a2, v3, .int (mI x4), .int (mI x5), .int (mI x6), .int (mI x7), .int (mI (x8 + x6)), .int (mI x9), .int (mI xs0)] [] h else rn m_X2_search 38 [.ref a0, .ref a1, .ref a2, (am_k1 v3), .int (mI x9), .int (mI xs0), .int (mI x6), .int (mI x7), .int (mI (x8 + x6)), .int (mI x9), .int (mI xs0)] [] h := by
  refine (tq_istore (L' := [.ref a0, .ref a1, .ref a2, v3, .int (mI x4), .int (mI x5), .int (mI x6), .int (mI x7), .int (mI x8), .int (mI x9), .int (mI xs0)]) i_X2_search_67 rfl rfl).trans ?_
  refine (tq_iload i_X2_search_69 rfl rfl).trans ?_
  refine (tq_iload i_X2_search_71 rfl rfl).trans ?_
  refine (tq_icmp_ge (pt := 84) i_X2_search_73 ws0 w5 (by decide) rfl).trans ?_
  refine ite_congr rfl (fun c1 => ?_) (fun c1 => ?_)
  · refine (tq_iload i_X2_search_84 rfl rfl).trans ?_
    refine (tq_iload i_X2_search_86 rfl rfl).trans ?_
    refine (tq_iadd i_X2_search_88 rfl).trans ?_
    refine (tq_istore (L' := [.ref a0, .ref a1, .ref a2, v3, .int (mI x4), .int (mI x5), .int (mI x6), .int (mI x7), .int (mI (x8 + x6)), .int (mI x9), .int (mI xs0)]) i_X2_search_89 rfl rfl).trans ?_
    refine (tq_goto (pc' := 38) i_X2_search_91 (by decide)).trans ?_
    rfl
  · refine (tq_iload i_X2_search_76 rfl rfl).trans ?_
    refine (tq_istore (L' := [.ref a0, .ref a1, .ref a2, v3, .int (mI x4), .int (mI xs0), .int (mI x6), .int (mI x7), .int (mI x8), .int (mI x9), .int (mI xs0)]) i_X2_search_78 rfl rfl).trans ?_
    refine (tq_iload i_X2_search_80 rfl rfl).trans ?_
    refine (tq_istore (L' := [.ref a0, .ref a1, .ref a2, (am_k1 v3), .int (mI x9), .int (mI xs0), .int (mI x6), .int (mI x7), .int (mI x8), .int (mI x9), .int (mI xs0)]) i_X2_search_82 rfl rfl).trans ?_
    refine (tq_iload i_X2_search_84 rfl rfl).trans ?_
    refine (tq_iload i_X2_search_86 rfl rfl).trans ?_
    refine (tq_iadd i_X2_search_88 rfl).trans ?_
    refine (tq_istore (L' := [.ref a0, .ref a1, .ref a2, (am_k1 v3), .int (mI x9), .int (mI xs0), .int (mI x6), .int (mI x7), .int (mI (x8 + x6)), .int (mI x9), .int (mI xs0)]) i_X2_search_89 rfl rfl).trans ?_
    refine (tq_goto (pc' := 38) i_X2_search_91 (by decide)).trans ?_
    rfl
theorem mnv_succ {C V : Int → Int} {d k : Int} (h : 0 ≤ k) : mnv C V d (k + 1).toNat = if C k < (mnv C V d k.toNat).1 then (C k, V k) else mnv C V d k.toNat := by
  obtain ⟨n, rfl⟩ : ∃ n : Nat, k = n := ⟨k.toNat, by omega⟩
  rw [show ((n : Int) + 1).toNat = n + 1 by omega, show ((n : Int)).toNat = n by omega]
  rfl
theorem mnv_b {C V : Int → Int} {d : Int} (hC : ∀ k, 0 ≤ C k) : ∀ n, 0 ≤ (mnv C V d n).1 ∧ (mnv C V d n).1 ≤ 1000000
  | 0 => by simp only [mnv]; omega
  | n + 1 => by
    have ih := mnv_b (V := V) (d := d) hC n
    have := hC n
    simp only [mnv]
    split
    · simp only; omega
    · exact ih
theorem vcost_nn {c f : Int → Int} {X Y Z v : Int} : 0 ≤ vcost c f X Y Z v := by
  unfold vcost vlen
  have : 0 ≤ dsum c (fun x y => hv f (2 * x + vX v) (2 * y + vY v)) X Y Z (Z * Z).toNat := by
    have := sm_mono (f := fun k => iabs (c (16 * (Y + k / Z) + (X + k % Z)) - hv f (2 * (X + k % Z) + vX v) (2 * (Y + k / Z) + vY v))) (fun j => iabs_nn _) (Nat.zero_le (Z * Z).toNat)
    exact this
  have h1 := iabs_nn (vX v)
  have h2 := iabs_nn (vY v)
  omega
/-- the candidates: st 1 with 17, st 2 with 9 -/
def isStep (st n : Int) : Prop := st = 1 ∧ n = 17 ∨ st = 2 ∧ n = 9
theorem cand_b {st n k : Int} (hs : isStep st n) (k0 : 0 ≤ k) (k1 : k < n * n) : 0 ≤ cand st n k ∧ cand st n k / 100 ≤ 16 ∧ cand st n k % 100 ≤ 16 := by
  unfold cand
  rcases hs with ⟨rfl, rfl⟩ | ⟨rfl, rfl⟩
  · have h1 : 0 ≤ k % 17 ∧ k % 17 ≤ 16 := by omega
    have h2 : 0 ≤ k / 17 ∧ k / 17 ≤ 16 := by omega
    generalize k % 17 = u at *
    generalize k / 17 = w at *
    omega
  · have h1 : 0 ≤ k % 9 ∧ k % 9 ≤ 8 := by omega
    have h2 : 0 ≤ k / 9 ∧ k / 9 ≤ 8 := by omega
    generalize k % 9 = u at *
    generalize k / 9 = w at *
    omega
theorem search_ok {h : am_H} {a e b : Nat} {f : Int → Int} {X Y Z T st n : Int} (k : K2 h a) (ke : K4 h e) (s : sh h b = (1, 0)) (n1 : gn h b = 256) (q : isH h e f) (hf : pixels f) (hc : pixels (gZ h b)) (pa : partAt h (a + 10) X Y Z T) (ip : isPart X Y Z T) (hs : isStep st n) : rn m_X2_search 0 [.ref a, .ref e, .ref b, .int (mI st), am_J, am_J, am_J, am_J, am_J, am_J, am_J] [] h = some (.inl (some (.int (mI (bestv (gZ h b) f X Y Z st n)))), h) := by
  have hst : 1 ≤ st ∧ st ≤ 2 ∧ (n - 1) * st = 16 ∧ 0 ≤ n := by rcases hs with ⟨rfl, rfl⟩ | ⟨rfl, rfl⟩ <;> omega
  have e1 : mI (if st ≤ 1 then 1 else st) = mI st := by
    by_cases c : st ≤ 1
    · rw [if_pos c, show st = 1 by omega]
    · rw [if_neg c]
  have mb := fun i => mnv_b (C := fun k => vcost (gZ h b) f X Y Z (cand st n k)) (V := cand st n) (d := 808) (fun _ => vcost_nn) i
  rw [b_X2_search_0 (wr_id (by omega) (by omega)), e1]
  have nn : ∀ i, n * (i + 1) = n * i + n := fun i => by rw [Int.mul_add, Int.mul_one]
  have P0 : ∀ i, 0 ≤ i → i ≤ n → 0 ≤ n * i ∧ n * i ≤ n * n := by intro i i0 i1; rcases hs with ⟨rfl, rfl⟩ | ⟨rfl, rfl⟩ <;> omega
  have Q0 : ∀ i j, 0 ≤ i → i < n → 0 ≤ j → j < n → (n * i + j) % n = j ∧ (n * i + j) / n = i ∧ n * i + j < n * n := by intro i j i0 i1 j0 j1; rcases hs with ⟨rfl, rfl⟩ | ⟨rfl, rfl⟩ <;> omega
  have S0 : ∀ i, 0 ≤ i → i ≤ n → 0 ≤ st * i ∧ (i < n → st * i ≤ 16) ∧ st * n = 16 + st ∧ st * (i + 1) = st * i + st := by intro i i0 i1; rcases hs with ⟨rfl, rfl⟩ | ⟨rfl, rfl⟩ <;> omega
  have := lp (m := m_X2_search) (pc := 27) (L := fun i (x : Int × (Int × (Value × (Value × Value)))) => [.ref a, .ref e, .ref b, .int (mI st), .int (mI x.1), .int (mI x.2.1), .int (mI st), .int (mI (st * i - 8)), x.2.2.1, x.2.2.2.1, x.2.2.2.2]) (N := n) (P := fun o => o = some (.inl (some (.int (mI (bestv (gZ h b) f X Y Z st n)))), h)) (fun i x h' => 0 ≤ i ∧ h' = h ∧ (x.2.1, x.1) = mnv (fun k => vcost (gZ h b) f X Y Z (cand st n k)) (cand st n) 808 (n * i).toNat) ?_ ?_ 0 (808, 1000000, am_J, am_J, am_J) h (by omega) ⟨by omega, rfl, by rw [Int.mul_zero]; rfl⟩
  · rw [show st * 0 - 8 = (-8 : Int) by omega] at this
    exact this
  · intro i x h' hi ⟨i0, eh, ex⟩
    obtain ⟨x1, x2, v1, v2, v3⟩ := x
    subst eh
    have si := S0 i i0 (by omega)
    refine Exists.imp (fun s' t => t) ?_
    have in1 := lp (m := m_X2_search) (pc := 38) (L := fun j (x : Int × (Int × (Value × Value))) => [.ref a, .ref e, .ref b, .int (mI st), .int (mI x.1), .int (mI x.2.1), .int (mI st), .int (mI (st * i - 8)), .int (mI (st * j - 8)), x.2.2.1, x.2.2.2]) (N := n) (P := fun o => ∃ (s' : Int × (Int × (Value × (Value × Value)))) (h'' : am_H), o = rn m_X2_search 27 [.ref a, .ref e, .ref b, .int (mI st), .int (mI s'.1), .int (mI s'.2.1), .int (mI st), .int (mI (st * (i + 1) - 8)), s'.2.2.1, s'.2.2.2.1, s'.2.2.2.2] [] h'' ∧ (0 ≤ i + 1 ∧ h'' = h' ∧ (s'.2.1, s'.1) = mnv (fun k => vcost (gZ h' b) f X Y Z (cand st n k)) (cand st n) 808 (n * (i + 1)).toNat)) (fun j x h2 => 0 ≤ j ∧ h2 = h' ∧ (x.2.1, x.1) = mnv (fun k => vcost (gZ h' b) f X Y Z (cand st n k)) (cand st n) 808 (n * i + j).toNat) ?_ ?_ 0 (x1, x2, v2, v3) h' (by omega) ⟨by omega, rfl, by rw [Int.add_zero]; exact ex⟩
    · obtain ⟨s', h'', e2, e3⟩ := in1
      refine ⟨s', h'', ?_, e3⟩
      refine (b_X2_search_27 (wr_id (by omega) (by omega))).trans ((if_neg (by omega)).trans ?_)
      rw [show st * 0 - 8 = (-8 : Int) by omega] at e2
      exact e2
    · intro j y h2 hj ⟨j0, eh, ey⟩
      obtain ⟨y1, y2, u1, u2⟩ := y
      subst eh
      have sj := S0 j j0 (by omega)
      have qij := Q0 i j i0 hi j0 hj
      have pi := P0 i i0 (by omega)
      have cb := cand_b (k := n * i + j) hs (by omega) (by omega)
      have ce : 100 * (st * j - 8 + 8) + (st * i - 8) + 8 = cand st n (n * i + j) := by
        unfold cand
        rw [qij.1, qij.2.1]
        omega
      have mb1 := mb (n * i + j).toNat
      rw [← ey] at mb1
      obtain ⟨r, r1, r2, r3, r4⟩ := costOf_ok (lim := y2) ke (K2_k1 k) s n1 q hf hc pa ip cb.1 cb.2.1 cb.2.2 mb1
      have st1 := b_X2_search_38 (a2 := b) (v3 := .int (mI st)) (v9 := u1) (v10 := u2) (x4 := y1) (x5 := y2) (x6 := st) (x7 := st * i - 8) (x8 := st * j - 8) (x8' := st * j - 8) (wr_id (by omega) (by omega)) k ke
      rw [if_neg (by omega), ce, r1, cl_v] at st1
      have st2 := b_X2_search_67 (a0 := a) (a1 := e) (a2 := b) (v3 := .int (mI st)) (v10 := u2) (x4 := y1) (x5 := y2) (x6 := st) (x7 := st * i - 8) (x8 := st * j - 8) (x9 := cand st n (n * i + j)) (xs0 := r) (x5' := y2) (h := h2) (wr_id (by simp only at mb1; omega) (by simp only at mb1; omega)) r2
      have e5 : st * j - 8 + st = st * (j + 1) - 8 := by omega
      rw [e5] at st2
      have e6 : (n * i + (j + 1)).toNat = (n * i + j + 1).toNat := by omega
      by_cases qc : vcost (gZ h2 b) f X Y Z (cand st n (n * i + j)) < y2
      · rw [if_neg (by have := r3 qc; omega)] at st2
        refine ⟨(cand st n (n * i + j), r, .int (mI (cand st n (n * i + j))), .int (mI r)), h2, st1.trans st2, by omega, rfl, ?_⟩
        rw [e6, mnv_succ (by omega), ← ey, if_pos qc, r3 qc]
      · rw [if_pos (by have := r4 (by omega); omega)] at st2
        refine ⟨(y1, y2, .int (mI (cand st n (n * i + j))), .int (mI r)), h2, st1.trans st2, by omega, rfl, ?_⟩
        rw [e6, mnv_succ (by omega), ← ey, if_neg qc]
    · intro y h2 ⟨j0, eh, ey⟩
      obtain ⟨y1, y2, u1, u2⟩ := y
      subst eh
      have sn := S0 n (by omega) (by omega)
      refine ⟨(y1, y2, .int (mI (st * n - 8)), u1, u2), h2, ?_, by omega, rfl, by rw [nn]; exact ey⟩
      refine (b_X2_search_38 (wr_id (by omega) (by omega)) k ke).trans ((if_pos (by omega)).trans ?_)
      rw [show st * i - 8 + st = st * (i + 1) - 8 by omega]
  · intro x h' ⟨i0, eh, ex⟩
    obtain ⟨x1, x2, v1, v2, v3⟩ := x
    subst eh
    have sn := S0 n (by omega) (by omega)
    rw [b_X2_search_27 (wr_id (by omega) (by omega)), if_pos (by omega)]
    unfold bestv
    rw [← ex]
