/-! ===== splitting, notes of parts ===== -/
def fmn : Nat → (Int → Int) → Int
  | 0, _ => 255
  | n + 1, f => min (fmn n f) (f n)
def fmx : Nat → (Int → Int) → Int
  | 0, _ => 0
  | n + 1, f => max (fmx n f) (f n)
theorem fmn_succ {f : Int → Int} {i : Int} (h : 0 ≤ i) : fmn (i + 1).toNat f = min (fmn i.toNat f) (f i) := by
  obtain ⟨n, rfl⟩ : ∃ n : Nat, i = n := ⟨i.toNat, by omega⟩
  rw [show ((n : Int) + 1).toNat = n + 1 by omega, show ((n : Int)).toNat = n by omega]
  rfl
theorem fmx_succ {f : Int → Int} {i : Int} (h : 0 ≤ i) : fmx (i + 1).toNat f = max (fmx i.toNat f) (f i) := by
  obtain ⟨n, rfl⟩ : ∃ n : Nat, i = n := ⟨i.toNat, by omega⟩
  rw [show ((n : Int) + 1).toNat = n + 1 by omega, show ((n : Int)).toNat = n by omega]
  rfl
theorem fm_b {f : Int → Int} : ∀ (n : Nat), (∀ i : Int, 0 ≤ i → i < n → 0 ≤ f i ∧ f i ≤ 255) → (0 ≤ fmn n f ∧ fmn n f ≤ 255) ∧ 0 ≤ fmx n f ∧ fmx n f ≤ 255
  | 0, _ => by simp only [fmn, fmx]; omega
  | n + 1, h => by
    have h1 := fm_b n fun i h0 h1 => h i h0 (by omega)
    have h2 := h n (by omega) (by omega)
    simp only [fmn, fmx]
    omega
def blk (c : Int → Int) (X Y : Int) (k : Int) : Int := c (16 * (Y + k / 8) + (X + k % 8))
theorem bZ_congr {p q : Prop} [Decidable p] [Decidable q] (h : p ↔ q) : bZ p = bZ q := by
  by_cases c : p
  · rw [bZ_t c, bZ_t (h.mp c)]
  · rw [bZ_f c, bZ_f (fun x => c (h.mpr x))]
abbrev splitB (c : Int → Int) (tl q X Y : Int) : Prop := tl % 2 = 1 ∧ 24 + 3 * q < fmx 64 (blk c X Y) - fmn 64 (blk c X Y)
theorem zand1 {t : Int} (h : 0 ≤ t ∧ t ≤ 7) : zand t 1 = t % 2 := by
  have : t = 0 ∨ t = 1 ∨ t = 2 ∨ t = 3 ∨ t = 4 ∨ t = 5 ∨ t = 6 ∨ t = 7 := by omega
  rcases this with rfl | rfl | rfl | rfl | rfl | rfl | rfl | rfl <;> decide
theorem i_X2_isToSplit_0 : am_i m_X2_isToSplit 0 = some (0, .sipush 255, 3, [], 255) := rfl
theorem i_X2_isToSplit_3 : am_i m_X2_isToSplit 3 = some (3, .istore 4, 2, [], 0) := rfl
theorem i_X2_isToSplit_5 : am_i m_X2_isToSplit 5 = some (5, .iconst 0, 1, [], 0) := rfl
theorem i_X2_isToSplit_6 : am_i m_X2_isToSplit 6 = some (6, .istore 5, 2, [], 0) := rfl
theorem i_X2_isToSplit_8 : am_i m_X2_isToSplit 8 = some (8, .iload_n 3, 1, [], 0) := rfl
theorem i_X2_isToSplit_9 : am_i m_X2_isToSplit 9 = some (9, .istore 6, 2, [], 0) := rfl
theorem b_X2_isToSplit_0 {a0 a1 : Nat} {x2 x3 : Int} {h : am_H} : rn m_X2_isToSplit 0 [.ref a0, .ref a1, .int (mI x2), .int (mI x3), am_J, am_J, am_J, am_J, am_J] [] h = rn m_X2_isToSplit 11 [.ref a0, .ref a1, .int (mI x2), .int (mI x3), .int (mI 255), .int (mI 0), .int (mI x3), am_J, am_J] [] h := by
  refine (tq_sipush i_X2_isToSplit_0 rfl).trans ?_
  refine (tq_istore (L' := [.ref a0, .ref a1, .int (mI x2), .int (mI x3), .int (mI 255), am_J, am_J, am_J, am_J]) i_X2_isToSplit_3 rfl rfl).trans ?_
  refine (tq_iconst i_X2_isToSplit_5 rfl).trans ?_
  refine (tq_istore (L' := [.ref a0, .ref a1, .int (mI x2), .int (mI x3), .int (mI 255), .int (mI 0), am_J, am_J, am_J]) i_X2_isToSplit_6 rfl rfl).trans ?_
  refine (tq_iload_n i_X2_isToSplit_8 rfl rfl).trans ?_
  refine (tq_istore (L' := [.ref a0, .ref a1, .int (mI x2), .int (mI x3), .int (mI 255), .int (mI 0), .int (mI x3), am_J, am_J]) i_X2_isToSplit_9 rfl rfl).trans ?_
  rfl
theorem i_X2_isToSplit_11 : am_i m_X2_isToSplit 11 = some (11, .iload 6, 2, [], 0) := rfl
theorem i_X2_isToSplit_13 : am_i m_X2_isToSplit 13 = some (13, .iload_n 3, 1, [], 0) := rfl
theorem i_X2_isToSplit_14 : am_i m_X2_isToSplit 14 = some (14, .bipush 8, 2, [], 8) := rfl
theorem i_X2_isToSplit_16 : am_i m_X2_isToSplit 16 = some (16, .iadd, 1, [], 0) := rfl
theorem i_X2_isToSplit_17 : am_i m_X2_isToSplit 17 = some (17, .if_icmp .ge 58, 3, [], 0) := rfl
theorem i_X2_isToSplit_20 : am_i m_X2_isToSplit 20 = some (20, .iload_n 2, 1, [], 0) := rfl
theorem i_X2_isToSplit_21 : am_i m_X2_isToSplit 21 = some (21, .istore 7, 2, [], 0) := rfl
theorem i_X2_isToSplit_75 : am_i m_X2_isToSplit 75 = some (75, .aload_n 0, 1, [], 0) := rfl
theorem i_X2_isToSplit_76 : am_i m_X2_isToSplit 76 = some (76, .iconst 1, 1, [], 1) := rfl
theorem i_X2_isToSplit_77 : am_i m_X2_isToSplit 77 = some (77, .invokevirtual 105, 3, [26, 6], 0) := rfl
theorem i_X2_isToSplit_80 : am_i m_X2_isToSplit 80 = some (80, .ifCond .eq 24, 3, [], 0) := rfl
theorem i_X2_isToSplit_83 : am_i m_X2_isToSplit 83 = some (83, .iload 5, 2, [], 0) := rfl
theorem i_X2_isToSplit_85 : am_i m_X2_isToSplit 85 = some (85, .iload 4, 2, [], 0) := rfl
theorem i_X2_isToSplit_87 : am_i m_X2_isToSplit 87 = some (87, .isub, 1, [], 0) := rfl
theorem i_X2_isToSplit_88 : am_i m_X2_isToSplit 88 = some (88, .bipush 24, 2, [], 24) := rfl
theorem i_X2_isToSplit_90 : am_i m_X2_isToSplit 90 = some (90, .iconst 3, 1, [], 3) := rfl
theorem i_X2_isToSplit_91 : am_i m_X2_isToSplit 91 = some (91, .aload_n 0, 1, [], 0) := rfl
theorem i_X2_isToSplit_92 : am_i m_X2_isToSplit 92 = some (92, .getfield 108, 3, [6, 3, 1], 0) := rfl
theorem i_X2_isToSplit_95 : am_i m_X2_isToSplit 95 = some (95, .imul, 1, [], 0) := rfl
theorem i_X2_isToSplit_96 : am_i m_X2_isToSplit 96 = some (96, .iadd, 1, [], 0) := rfl
theorem i_X2_isToSplit_97 : am_i m_X2_isToSplit 97 = some (97, .if_icmp .le 7, 3, [], 0) := rfl
theorem i_X2_isToSplit_100 : am_i m_X2_isToSplit 100 = some (100, .iconst 1, 1, [], 1) := rfl
theorem i_X2_isToSplit_101 : am_i m_X2_isToSplit 101 = some (101, .goto 4, 3, [], 0) := rfl
theorem i_X2_isToSplit_104 : am_i m_X2_isToSplit 104 = some (104, .iconst 0, 1, [], 0) := rfl
theorem i_X2_isToSplit_105 : am_i m_X2_isToSplit 105 = some (105, .ireturn, 1, [], 0) := rfl
theorem b_X2_isToSplit_11 {a0 a1 : Nat} {x2 x3 x4 x5 x6 x6' : Int} {v7 v8 : Value} {h : am_H} (w6 : wr x6 = x6') (k1 : K6 h a0) : rn m_X2_isToSplit 11 [.ref a0, .ref a1, .int (mI x2), .int (mI x3), .int (mI x4), .int (mI x5), .int (mI x6), v7, v8] [] h = if (wr (x3 + 8)) ≤ x6' then some (.inl (some (.int (mI (bZ ((¬ ((zand (fZ h a0 4) 1) = 0)) ∧ (¬ ((wr (x5 - x4)) ≤ (wr (24 + (3 * (fZ h a0 3))))))))))), h) else rn m_X2_isToSplit 23 [.ref a0, .ref a1, .int (mI x2), .int (mI x3), .int (mI x4), .int (mI x5), .int (mI x6), .int (mI x2), v8] [] h := by
  refine (tq_iload i_X2_isToSplit_11 rfl rfl).trans ?_
  refine (tq_iload_n i_X2_isToSplit_13 rfl rfl).trans ?_
  refine (tq_bipush i_X2_isToSplit_14 rfl).trans ?_
  refine (tq_iadd i_X2_isToSplit_16 rfl).trans ?_
  refine (tq_icmp_ge (pt := 75) i_X2_isToSplit_17 w6 rfl (by decide) rfl).trans ?_
  refine ite_congr rfl (fun c1 => ?_) (fun c1 => ?_)
  · refine (tq_aload_n i_X2_isToSplit_75 rfl (isA_ref _) rfl).trans ?_
    refine (tq_iconst i_X2_isToSplit_76 rfl).trans ?_
    refine (c_X6_has i_X2_isToSplit_77 (K6_s k1) (ltd d_X2_isToSplit (by decide)) stOk_0 rfl).trans ?_
    refine (congrArg (cl _ _ _ _) (b_X6_has_0 k1)).trans ?_
    refine (cl_v _ _ _ _ _ _).trans ?_
    refine (tq_ifb_eq (pt := 104) i_X2_isToSplit_80 (by decide) rfl).trans ?_
    refine Eq.trans (b := if (¬ ((zand (fZ h a0 4) 1) = 0)) then rn m_X2_isToSplit 105 [.ref a0, .ref a1, .int (mI x2), .int (mI x3), .int (mI x4), .int (mI x5), .int (mI x6), v7, v8] [.int (mI (bZ (¬ ((wr (x5 - x4)) ≤ (wr (24 + (3 * (fZ h a0 3))))))))] h else rn m_X2_isToSplit 105 [.ref a0, .ref a1, .int (mI x2), .int (mI x3), .int (mI x4), .int (mI x5), .int (mI x6), v7, v8] [.int (mI 0)] h) (ite_congr rfl (fun c2 => ?_) (fun c2 => ?_)) ?_
    · refine (tq_iload i_X2_isToSplit_83 rfl rfl).trans ?_
      refine (tq_iload i_X2_isToSplit_85 rfl rfl).trans ?_
      refine (tq_isub i_X2_isToSplit_87 rfl).trans ?_
      refine (tq_bipush i_X2_isToSplit_88 rfl).trans ?_
      refine (tq_iconst i_X2_isToSplit_90 rfl).trans ?_
      refine (tq_aload_n i_X2_isToSplit_91 rfl (isA_ref _) rfl).trans ?_
      refine (tq_getfield i_X2_isToSplit_92 (K6_s k1) (g_6_3 (K6_s k1)) (isV_I _) rfl).trans ?_
      refine (tq_imul i_X2_isToSplit_95 rfl).trans ?_
      refine (tq_iadd i_X2_isToSplit_96 rfl).trans ?_
      refine (tq_icmp_le (pt := 104) i_X2_isToSplit_97 rfl rfl (by decide) rfl).trans ?_
      refine Eq.trans (b := if (wr (x5 - x4)) ≤ (wr (24 + (3 * (fZ h a0 3)))) then rn m_X2_isToSplit 105 [.ref a0, .ref a1, .int (mI x2), .int (mI x3), .int (mI x4), .int (mI x5), .int (mI x6), v7, v8] [.int (mI 0)] h else rn m_X2_isToSplit 105 [.ref a0, .ref a1, .int (mI x2), .int (mI x3), .int (mI x4), .int (mI x5), .int (mI x6), v7, v8] [.int (mI 1)] h) (ite_congr rfl (fun c3 => ?_) (fun c3 => ?_)) ?_
      · refine (tq_iconst i_X2_isToSplit_104 rfl).trans ?_
        rfl
      · refine (tq_iconst i_X2_isToSplit_100 rfl).trans ?_
        refine (tq_goto (pc' := 105) i_X2_isToSplit_101 (by decide)).trans ?_
        rfl
      exact ite_b01
    · refine (tq_iconst i_X2_isToSplit_104 rfl).trans ?_
      rfl
    refine Eq.trans ite_bp0 ?_
    exact tq_ireturn i_X2_isToSplit_105 r_X2_isToSplit (okB (wr_bZ _) (bZ_01 _))
  · refine (tq_iload_n i_X2_isToSplit_20 rfl rfl).trans ?_
    refine (tq_istore (L' := [.ref a0, .ref a1, .int (mI x2), .int (mI x3), .int (mI x4), .int (mI x5), .int (mI x6), .int (mI x2), v8]) i_X2_isToSplit_21 rfl rfl).trans ?_
    rfl
theorem i_X2_isToSplit_23 : am_i m_X2_isToSplit 23 = some (23, .iload 7, 2, [], 0) := rfl
theorem i_X2_isToSplit_25 : am_i m_X2_isToSplit 25 = some (25, .iload_n 2, 1, [], 0) := rfl
theorem i_X2_isToSplit_26 : am_i m_X2_isToSplit 26 = some (26, .bipush 8, 2, [], 8) := rfl
theorem i_X2_isToSplit_28 : am_i m_X2_isToSplit 28 = some (28, .iadd, 1, [], 0) := rfl
theorem i_X2_isToSplit_29 : am_i m_X2_isToSplit 29 = some (29, .if_icmp .ge 40, 3, [], 0) := rfl
theorem i_X2_isToSplit_32 : am_i m_X2_isToSplit 32 = some (32, .aload_n 1, 1, [], 0) := rfl
theorem i_X2_isToSplit_33 : am_i m_X2_isToSplit 33 = some (33, .iload 7, 2, [], 0) := rfl
theorem i_X2_isToSplit_35 : am_i m_X2_isToSplit 35 = some (35, .iload 6, 2, [], 0) := rfl
theorem i_X2_isToSplit_37 : am_i m_X2_isToSplit 37 = some (37, .invokestatic 73, 3, [13], 0) := rfl
theorem i_X2_isToSplit_40 : am_i m_X2_isToSplit 40 = some (40, .invokestatic 91, 3, [32], 0) := rfl
theorem i_X2_isToSplit_43 : am_i m_X2_isToSplit 43 = some (43, .istore 8, 2, [], 0) := rfl
theorem i_X2_isToSplit_45 : am_i m_X2_isToSplit 45 = some (45, .iload 4, 2, [], 0) := rfl
theorem i_X2_isToSplit_47 : am_i m_X2_isToSplit 47 = some (47, .iload 8, 2, [], 0) := rfl
theorem i_X2_isToSplit_49 : am_i m_X2_isToSplit 49 = some (49, .invokestatic 97, 3, [0, 2], 0) := rfl
theorem i_X2_isToSplit_52 : am_i m_X2_isToSplit 52 = some (52, .istore 4, 2, [], 0) := rfl
theorem i_X2_isToSplit_54 : am_i m_X2_isToSplit 54 = some (54, .iload 5, 2, [], 0) := rfl
theorem i_X2_isToSplit_56 : am_i m_X2_isToSplit 56 = some (56, .iload 8, 2, [], 0) := rfl
theorem i_X2_isToSplit_58 : am_i m_X2_isToSplit 58 = some (58, .invokestatic 102, 3, [0, 1], 0) := rfl
theorem i_X2_isToSplit_61 : am_i m_X2_isToSplit 61 = some (61, .istore 5, 2, [], 0) := rfl
theorem i_X2_isToSplit_63 : am_i m_X2_isToSplit 63 = some (63, .iinc 7 1, 3, [], 0) := rfl
theorem i_X2_isToSplit_66 : am_i m_X2_isToSplit 66 = some (66, .goto (-43), 3, [], 0) := rfl
theorem i_X2_isToSplit_69 : am_i m_X2_isToSplit 69 = some (69, .iinc 6 1, 3, [], 0) := rfl
theorem i_X2_isToSplit_72 : am_i m_X2_isToSplit 72 = some (72, .goto (-61), 3, [], 0) := rfl
theorem b_X2_isToSplit_23 {a0 a1 n_a1 : Nat} {x2 x3 x4 x5 x6 x7 x4' x5' x7' : Int} {v8 : Value} {h : am_H} (w4 : wr x4 = x4') (w5 : wr x5 = x5') (w7 : wr x7 = x7') (n1 : gn h a1 = n_a1) (s2 : sh h a1 = (1, 0)) (g3 : (¬ ((wr (x2 + 8)) ≤ x7')) → (0 ≤ (wr ((16 * x6) + x7)) ∧ (wr ((16 * x6) + x7)) < (n_a1 : Int))) : rn m_X2_isToSplit 23 [.ref a0, .ref a1, .int (mI x2), .int (mI x3), .int (mI x4), .int (mI x5), .int (mI x6), .int (mI x7), v8] [] h = if (wr (x2 + 8)) ≤ x7' then rn m_X2_isToSplit 11 [.ref a0, .ref a1, .int (mI x2), .int (mI x3), .int (mI x4), .int (mI x5), .int (mI (x6 + 1)), .int (mI x7), v8] [] h else rn m_X2_isToSplit 23 [.ref a0, .ref a1, .int (mI x2), .int (mI x3), .int (mI (min x4' (gZ h a1 (wr ((16 * x6) + x7))))), .int (mI (max x5' (gZ h a1 (wr ((16 * x6) + x7))))), .int (mI x6), .int (mI (x7 + 1)), .int (mI (gZ h a1 (wr ((16 * x6) + x7))))] [] h := by
  refine (tq_iload i_X2_isToSplit_23 rfl rfl).trans ?_
  refine (tq_iload_n i_X2_isToSplit_25 rfl rfl).trans ?_
  refine (tq_bipush i_X2_isToSplit_26 rfl).trans ?_
  refine (tq_iadd i_X2_isToSplit_28 rfl).trans ?_
  refine (tq_icmp_ge (pt := 69) i_X2_isToSplit_29 w7 rfl (by decide) rfl).trans ?_
  refine ite_congr rfl (fun c1 => ?_) (fun c1 => ?_)
  · refine (tq_iinc (L' := [.ref a0, .ref a1, .int (mI x2), .int (mI x3), .int (mI x4), .int (mI x5), .int (mI (x6 + 1)), .int (mI x7), v8]) i_X2_isToSplit_69 rfl rfl rfl).trans ?_
    refine (tq_goto (pc' := 11) i_X2_isToSplit_72 (by decide)).trans ?_
    rfl
  · refine (tq_aload_n i_X2_isToSplit_32 rfl (isA_ref _) rfl).trans ?_
    refine (tq_iload i_X2_isToSplit_33 rfl rfl).trans ?_
    refine (tq_iload i_X2_isToSplit_35 rfl rfl).trans ?_
    refine (c_X11_placeOf i_X2_isToSplit_37 (ltd d_X2_isToSplit (by decide)) (stOk_1 _) rfl).trans ?_
    refine (congrArg (cl _ _ _ _) (b_X11_placeOf_0)).trans ?_
    refine (cl_v _ _ _ _ _ _).trans ?_
    refine (c_X7_get i_X2_isToSplit_40 (ltd d_X2_isToSplit (by decide)) (isA_ref _) stOk_0 rfl).trans ?_
    refine (congrArg (cl _ _ _ _) (get_ok rfl n1 s2 (by decide) (g3 c1))).trans ?_
    refine (cl_v _ _ _ _ _ _).trans ?_
    refine (tq_istore (L' := [.ref a0, .ref a1, .int (mI x2), .int (mI x3), .int (mI x4), .int (mI x5), .int (mI x6), .int (mI x7), .int (mI (gZ h a1 (wr ((16 * x6) + x7))))]) i_X2_isToSplit_43 rfl rfl).trans ?_
    refine (tq_iload i_X2_isToSplit_45 rfl rfl).trans ?_
    refine (tq_iload i_X2_isToSplit_47 rfl rfl).trans ?_
    refine (tq_min i_X2_isToSplit_49 w4 (wr_gZ _ _ _) (Nat.le_of_ble_eq_true rfl) rfl).trans ?_
    refine (tq_istore (L' := [.ref a0, .ref a1, .int (mI x2), .int (mI x3), .int (mI (min x4' (gZ h a1 (wr ((16 * x6) + x7))))), .int (mI x5), .int (mI x6), .int (mI x7), .int (mI (gZ h a1 (wr ((16 * x6) + x7))))]) i_X2_isToSplit_52 rfl rfl).trans ?_
    refine (tq_iload i_X2_isToSplit_54 rfl rfl).trans ?_
    refine (tq_iload i_X2_isToSplit_56 rfl rfl).trans ?_
    refine (tq_max i_X2_isToSplit_58 w5 (wr_gZ _ _ _) (Nat.le_of_ble_eq_true rfl) rfl).trans ?_
    refine (tq_istore (L' := [.ref a0, .ref a1, .int (mI x2), .int (mI x3), .int (mI (min x4' (gZ h a1 (wr ((16 * x6) + x7))))), .int (mI (max x5' (gZ h a1 (wr ((16 * x6) + x7))))), .int (mI x6), .int (mI x7), .int (mI (gZ h a1 (wr ((16 * x6) + x7))))]) i_X2_isToSplit_61 rfl rfl).trans ?_
    refine (tq_iinc (L' := [.ref a0, .ref a1, .int (mI x2), .int (mI x3), .int (mI (min x4' (gZ h a1 (wr ((16 * x6) + x7))))), .int (mI (max x5' (gZ h a1 (wr ((16 * x6) + x7))))), .int (mI x6), .int (mI (x7 + 1)), .int (mI (gZ h a1 (wr ((16 * x6) + x7))))]) i_X2_isToSplit_63 rfl rfl rfl).trans ?_
    refine (tq_goto (pc' := 23) i_X2_isToSplit_66 (by decide)).trans ?_
    rfl
theorem isToSplit_ok {h : am_H} {D a n : Nat} {X Y tl q : Int} (kD : K6 h D) (s : sh h a = (1, 0)) (n1 : gn h a = n) (hn : 256 ≤ (n : Int)) (hc : pixels (gZ h a)) (e3 : fZ h D 3 = q) (e4 : fZ h D 4 = tl) (ht : 0 ≤ tl ∧ tl ≤ 7) (hq : 1 ≤ q ∧ q ≤ 40) (hX : 0 ≤ X ∧ X ≤ 8) (hY : 0 ≤ Y ∧ Y ≤ 8) : rn m_X2_isToSplit 0 [.ref D, .ref a, .int (mI X), .int (mI Y), am_J, am_J, am_J, am_J, am_J] [] h = some (.inl (some (.int (mI (bZ (splitB (gZ h a) tl q X Y))))), h) := by
  have hb : ∀ k, 0 ≤ k → k < 64 → 0 ≤ blk (gZ h a) X Y k ∧ blk (gZ h a) X Y k ≤ 255 := fun k k0 k1 => hc _ (by omega) (by omega)
  rw [b_X2_isToSplit_0]
  have := lp (m := m_X2_isToSplit) (pc := 11) (L := fun i (x : (Int × Int) × (Value × Value)) => [.ref D, .ref a, .int (mI X), .int (mI Y), .int (mI x.1.1), .int (mI x.1.2), .int (mI (Y + i)), x.2.1, x.2.2]) (N := 8) (P := fun r => r = some (.inl (some (.int (mI (bZ (splitB (gZ h a) tl q X Y))))), h)) (fun i x h' => 0 ≤ i ∧ h' = h ∧ x.1 = (fmn (8 * i).toNat (blk (gZ h a) X Y), fmx (8 * i).toNat (blk (gZ h a) X Y))) ?_ ?_ 0 ((255, 0), am_J, am_J) h (by omega) ⟨by omega, rfl, rfl⟩
  · rw [Int.add_zero] at this
    exact this
  · intro i x h' hi ⟨i0, e, ex⟩
    obtain ⟨⟨x1, x2⟩, v1, v2⟩ := x
    subst e
    have st := b_X2_isToSplit_11 (a0 := D) (a1 := a) (x2 := X) (x3 := Y) (x4 := x1) (x5 := x2) (v7 := v1) (v8 := v2) (h := h') (wr_id (z := Y + i) (by omega) (by omega)) kD
    rw [wr_id (z := Y + 8) (by omega) (by omega), if_neg (by omega)] at st
    have in1 := lp (m := m_X2_isToSplit) (pc := 23) (L := fun j (x : (Int × Int) × Value) => [.ref D, .ref a, .int (mI X), .int (mI Y), .int (mI x.1.1), .int (mI x.1.2), .int (mI (Y + i)), .int (mI (X + j)), x.2]) (N := 8) (P := fun r => ∃ (s' : (Int × Int) × (Value × Value)) (h'' : am_H), r = rn m_X2_isToSplit 11 [.ref D, .ref a, .int (mI X), .int (mI Y), .int (mI s'.1.1), .int (mI s'.1.2), .int (mI (Y + (i + 1))), s'.2.1, s'.2.2] [] h'' ∧ (0 ≤ i + 1 ∧ h'' = h' ∧ s'.1 = (fmn (8 * (i + 1)).toNat (blk (gZ h' a) X Y), fmx (8 * (i + 1)).toNat (blk (gZ h' a) X Y)))) (fun j x h2 => 0 ≤ j ∧ h2 = h' ∧ x.1 = (fmn (8 * i + j).toNat (blk (gZ h' a) X Y), fmx (8 * i + j).toNat (blk (gZ h' a) X Y))) ?_ ?_ 0 ((x1, x2), v2) h' (by omega) ⟨by omega, rfl, by rw [Int.add_zero]; exact ex⟩
    · obtain ⟨s', h'', e2, e3⟩ := in1
      rw [Int.add_zero] at e2
      exact ⟨s', h'', st.trans e2, e3⟩
    · intro j y h2 hj ⟨j0, e, ey⟩
      obtain ⟨⟨y1, y2⟩, u⟩ := y
      subst e
      have fb := fm_b (f := blk (gZ h2 a) X Y) (8 * i + j).toNat (fun k k0 k1 => hb k k0 (by omega))
      simp only [Prod.mk.injEq] at ey
      have wi : wr (16 * (Y + i) + (X + j)) = 16 * (Y + i) + (X + j) := wr_id (by omega) (by omega)
      have st2 := b_X2_isToSplit_23 (a0 := D) (a1 := a) (x2 := X) (x3 := Y) (x6 := Y + i) (v8 := u) (h := h2) (wr_id (z := y1) (by omega) (by omega)) (wr_id (z := y2) (by omega) (by omega)) (wr_id (z := X + j) (by omega) (by omega)) n1 s
      rw [wi, wr_id (z := X + 8) (by omega) (by omega)] at st2
      have st2 := st2 (fun _ => by omega)
      have eb : gZ h2 a (16 * (Y + i) + (X + j)) = blk (gZ h2 a) X Y (8 * i + j) := by
        unfold blk
        rw [show (8 * i + j) / 8 = i by omega, show (8 * i + j) % 8 = j by omega]
      rw [if_neg (by omega), show X + j + 1 = X + (j + 1) by omega, eb, ey.1, ey.2, ← fmn_succ (by omega), ← fmx_succ (by omega), show 8 * i + j + 1 = 8 * i + (j + 1) by omega] at st2
      rw [ey.1, ey.2]
      exact ⟨((_, _), _), h2, st2, by omega, rfl, rfl⟩
    · intro y h2 ⟨j0, e, ey⟩
      obtain ⟨⟨y1, y2⟩, u⟩ := y
      subst e
      have fb := fm_b (f := blk (gZ h2 a) X Y) (8 * i + 8).toNat (fun k k0 k1 => hb k k0 (by omega))
      simp only [Prod.mk.injEq] at ey
      have st2 := b_X2_isToSplit_23 (a0 := D) (a1 := a) (x2 := X) (x3 := Y) (x6 := Y + i) (v8 := u) (h := h2) (wr_id (z := y1) (by omega) (by omega)) (wr_id (z := y2) (by omega) (by omega)) (wr_id (z := X + 8) (by omega) (by omega)) n1 s
      rw [wr_id (z := X + 8) (by omega) (by omega)] at st2
      have st2 := st2 (fun _ => by omega)
      rw [if_pos (by omega), show Y + i + 1 = Y + (i + 1) by omega] at st2
      refine ⟨((_, _), (_, _)), h2, st2, by omega, rfl, ?_⟩
      simp only
      rw [ey.1, ey.2, show 8 * i + 8 = 8 * (i + 1) by omega]
  · intro x h' ⟨i0, e, ex⟩
    obtain ⟨⟨x1, x2⟩, v1, v2⟩ := x
    subst e
    have fb := fm_b (f := blk (gZ h' a) X Y) 64 (fun k k0 k1 => hb k k0 (by omega))
    simp only [Prod.mk.injEq] at ex
    rw [show ((8 : Int) * 8).toNat = 64 by omega] at ex
    have st := b_X2_isToSplit_11 (a0 := D) (a1 := a) (x2 := X) (x3 := Y) (x4 := x1) (x5 := x2) (v7 := v1) (v8 := v2) (h := h') (wr_id (z := Y + 8) (by omega) (by omega)) kD
    rw [wr_id (z := Y + 8) (by omega) (by omega), if_pos (by omega), e3, e4, ex.1, ex.2, wr_id (by omega) (by omega), wr_id (z := 24 + 3 * q) (by omega) (by omega), zand1 ht] at st
    simp only
    rw [ex.1, ex.2, st]
    rw [bZ_congr (q := splitB (gZ h' a) tl q X Y) (by unfold splitB; omega)]
theorem i_X6_isSplitAt_0 : am_i m_X6_isSplitAt 0 = some (0, .aload_n 0, 1, [], 0) := rfl
theorem i_X6_isSplitAt_1 : am_i m_X6_isSplitAt 1 = some (1, .getfield 46, 3, [6, 10, 0], 0) := rfl
theorem i_X6_isSplitAt_4 : am_i m_X6_isSplitAt 4 = some (4, .iload_n 1, 1, [], 0) := rfl
theorem i_X6_isSplitAt_5 : am_i m_X6_isSplitAt 5 = some (5, .invokestatic 64, 3, [32], 0) := rfl
theorem i_X6_isSplitAt_8 : am_i m_X6_isSplitAt 8 = some (8, .iconst 4, 1, [], 4) := rfl
theorem i_X6_isSplitAt_9 : am_i m_X6_isSplitAt 9 = some (9, .if_icmp .ne 7, 3, [], 0) := rfl
theorem i_X6_isSplitAt_12 : am_i m_X6_isSplitAt 12 = some (12, .iconst 1, 1, [], 1) := rfl
theorem i_X6_isSplitAt_13 : am_i m_X6_isSplitAt 13 = some (13, .goto 4, 3, [], 0) := rfl
theorem i_X6_isSplitAt_16 : am_i m_X6_isSplitAt 16 = some (16, .iconst 0, 1, [], 0) := rfl
theorem i_X6_isSplitAt_17 : am_i m_X6_isSplitAt 17 = some (17, .ireturn, 1, [], 0) := rfl
theorem b_X6_isSplitAt_0 {a0 : Nat} {x1 x1' : Int} {h : am_H} (w1 : wr x1 = x1') (k1 : K6 h a0) (g2 : 0 ≤ x1' ∧ x1' < (16 : Int)) : rn m_X6_isSplitAt 0 [.ref a0, .int (mI x1)] [] h = some (.inl (some (.int (mI (bZ (¬ (¬ (gZ h (a0 + 3) x1') = 4)))))), h) := by
  refine (tq_aload_n i_X6_isSplitAt_0 rfl (isA_ref _) rfl).trans ?_
  refine (tq_getfield i_X6_isSplitAt_1 (K6_s k1) (gR (g_6_10 (K6_s k1)) (K6_e10 k1)) (isV_ref _) rfl).trans ?_
  refine (tq_iload_n i_X6_isSplitAt_4 rfl rfl).trans ?_
  refine (c_X7_get i_X6_isSplitAt_5 (ltd d_X6_isSplitAt (by decide)) (isA_ref _) stOk_0 rfl).trans ?_
  refine (congrArg (cl _ _ _ _) (get_ok w1 (K6_n10 k1) (K6_s10 k1) (by decide) g2)).trans ?_
  refine (cl_v _ _ _ _ _ _).trans ?_
  refine (tq_iconst i_X6_isSplitAt_8 rfl).trans ?_
  refine (tq_icmp_ne (pt := 16) i_X6_isSplitAt_9 (wr_gZ _ _ _) w_4 (by decide) rfl).trans ?_
  refine Eq.trans (b := if ¬ (gZ h (a0 + 3) x1') = 4 then rn m_X6_isSplitAt 17 [.ref a0, .int (mI x1)] [.int (mI 0)] h else rn m_X6_isSplitAt 17 [.ref a0, .int (mI x1)] [.int (mI 1)] h) (ite_congr rfl (fun c1 => ?_) (fun c1 => ?_)) ?_
  · refine (tq_iconst i_X6_isSplitAt_16 rfl).trans ?_
    rfl
  · refine (tq_iconst i_X6_isSplitAt_12 rfl).trans ?_
    refine (tq_goto (pc' := 17) i_X6_isSplitAt_13 (by decide)).trans ?_
    rfl
  refine Eq.trans ite_b01 ?_
  exact tq_ireturn i_X6_isSplitAt_17 r_X6_isSplitAt (okB (wr_bZ _) (bZ_01 _))
theorem i_X6_startsPart_0 : am_i m_X6_startsPart 0 = some (0, .iload_n 1, 1, [], 0) := rfl
theorem i_X6_startsPart_1 : am_i m_X6_startsPart 1 = some (1, .invokestatic 81, 3, [16], 0) := rfl
theorem i_X6_startsPart_4 : am_i m_X6_startsPart 4 = some (4, .ifCond .ne 11, 3, [], 0) := rfl
theorem i_X6_startsPart_7 : am_i m_X6_startsPart 7 = some (7, .aload_n 0, 1, [], 0) := rfl
theorem i_X6_startsPart_8 : am_i m_X6_startsPart 8 = some (8, .iload_n 1, 1, [], 0) := rfl
theorem i_X6_startsPart_9 : am_i m_X6_startsPart 9 = some (9, .invokevirtual 85, 3, [67, 6], 0) := rfl
theorem i_X6_startsPart_12 : am_i m_X6_startsPart 12 = some (12, .ifCond .eq 7, 3, [], 0) := rfl
theorem i_X6_startsPart_15 : am_i m_X6_startsPart 15 = some (15, .iconst 1, 1, [], 1) := rfl
theorem i_X6_startsPart_16 : am_i m_X6_startsPart 16 = some (16, .goto 4, 3, [], 0) := rfl
theorem i_X6_startsPart_19 : am_i m_X6_startsPart 19 = some (19, .iconst 0, 1, [], 0) := rfl
theorem i_X6_startsPart_20 : am_i m_X6_startsPart 20 = some (20, .ireturn, 1, [], 0) := rfl
theorem b_X6_startsPart_0 {a0 : Nat} {x1 x1' : Int} {h : am_H} (w1 : wr x1 = x1') (g1 : 0 ≤ x1' ∧ x1' < 16) (k2 : K6 h a0) (g3 : (¬ ((x1' % 4 = 0))) → (0 ≤ x1' ∧ x1' < (16 : Int))) : rn m_X6_startsPart 0 [.ref a0, .int (mI x1)] [] h = some (.inl (some (.int (mI (bZ ((x1' % 4 = 0) ∨ ((¬ (¬ (gZ h (a0 + 3) x1') = 4)))))))), h) := by
  refine (tq_iload_n i_X6_startsPart_0 rfl rfl).trans ?_
  refine (c_X11_startsBlock i_X6_startsPart_1 (ltd d_X6_startsPart (by decide)) stOk_0 rfl).trans ?_
  refine (congrArg (cl _ _ _ _) (startsBlock_ok w1 g1)).trans ?_
  refine (cl_v _ _ _ _ _ _).trans ?_
  refine (tq_ifb_ne (pt := 15) i_X6_startsPart_4 (by decide) rfl).trans ?_
  refine Eq.trans (b := if (x1' % 4 = 0) then rn m_X6_startsPart 20 [.ref a0, .int (mI x1)] [.int (mI 1)] h else rn m_X6_startsPart 20 [.ref a0, .int (mI x1)] [.int (mI (bZ ((¬ (¬ (gZ h (a0 + 3) x1') = 4)))))] h) (ite_congr rfl (fun c1 => ?_) (fun c1 => ?_)) ?_
  · refine (tq_iconst i_X6_startsPart_15 rfl).trans ?_
    refine (tq_goto (pc' := 20) i_X6_startsPart_16 (by decide)).trans ?_
    rfl
  · refine (tq_aload_n i_X6_startsPart_7 rfl (isA_ref _) rfl).trans ?_
    refine (tq_iload_n i_X6_startsPart_8 rfl rfl).trans ?_
    refine (c_X6_isSplitAt i_X6_startsPart_9 (K6_s k2) (ltd d_X6_startsPart (by decide)) stOk_0 rfl).trans ?_
    refine (congrArg (cl _ _ _ _) (b_X6_isSplitAt_0 w1 k2 (g3 c1))).trans ?_
    refine (cl_v _ _ _ _ _ _).trans ?_
    refine (tq_ifb_eq (pt := 19) i_X6_startsPart_12 (by decide) rfl).trans ?_
    refine Eq.trans (b := if (¬ (¬ (gZ h (a0 + 3) x1') = 4)) then rn m_X6_startsPart 20 [.ref a0, .int (mI x1)] [.int (mI 1)] h else rn m_X6_startsPart 20 [.ref a0, .int (mI x1)] [.int (mI 0)] h) (ite_congr rfl (fun c2 => ?_) (fun c2 => ?_)) ?_
    · refine (tq_iconst i_X6_startsPart_15 rfl).trans ?_
      refine (tq_goto (pc' := 20) i_X6_startsPart_16 (by decide)).trans ?_
      rfl
    · refine (tq_iconst i_X6_startsPart_19 rfl).trans ?_
      rfl
    exact ite_b10
  refine Eq.trans ite_b1p ?_
  exact tq_ireturn i_X6_startsPart_20 r_X6_startsPart (okB (wr_bZ _) (bZ_01 _))
theorem startsPart_ok {h : am_H} {a0 : Nat} {x1 x1' : Int} (w : wr x1 = x1') (g : 0 ≤ x1' ∧ x1' < 16) (k : K6 h a0) : rn m_X6_startsPart 0 [.ref a0, .int (mI x1)] [] h = some (.inl (some (.int (mI (bZ (x1' % 4 = 0 ∨ gZ h (a0 + 3) x1' = 4))))), h) := by
  rw [b_X6_startsPart_0 w g k (fun _ => g), bZ_congr (q := x1' % 4 = 0 ∨ gZ h (a0 + 3) x1' = 4) (by simp only [Decidable.not_not])]
theorem sq_xy {x y : Int} (hx : 0 ≤ x ∧ x < 16) (hy : 0 ≤ y ∧ y < 16) (mx : x % 4 = 0) (my : y % 4 = 0) : cx (sq x y) = x ∧ cy (sq x y) = y ∧ 0 ≤ sq x y ∧ sq x y < 16 := by unfold cx cy sq; omega
theorem sq_s {s : Int} (h : 0 ≤ s ∧ s < 16) : sq (cx s) (cy s) = s := by unfold cx cy sq; omega
theorem c_inj {s t : Int} (hs : 0 ≤ s ∧ s < 16) (ht : 0 ≤ t ∧ t < 16) (e1 : cx s = cx t) (e2 : cy s = cy t) : s = t := by rw [← sq_s hs, ← sq_s ht, e1, e2]
def inPart (X Y Z s : Int) : Prop := (X ≤ cx s ∧ cx s < X + Z) ∧ Y ≤ cy s ∧ cy s < Y + Z
def used1 (m v : Int) : Int := if m = 4 ∨ m = 6 then v else -1
def used2 (m v : Int) : Int := if m = 5 ∨ m = 6 then v else -1
/-- what is told of a square of the part -/
def told (h : am_H) (D : Nat) (Z m v1 v2 s : Int) : Prop := gZ h (D + 3) s = Z ∧ gZ h (D + 4) s = m ∧ gZ h (D + 5) s = used1 m v1 ∧ gZ h (D + 6) s = used2 m v2
def same4 (h h' : am_H) (D : Nat) (s : Int) : Prop := gZ h' (D + 3) s = gZ h (D + 3) s ∧ gZ h' (D + 4) s = gZ h (D + 4) s ∧ gZ h' (D + 5) s = gZ h (D + 5) s ∧ gZ h' (D + 6) s = gZ h (D + 6) s
theorem i_X6_note_0 : am_i m_X6_note 0 = some (0, .aload_n 1, 1, [], 0) := rfl
theorem i_X6_note_1 : am_i m_X6_note 1 = some (1, .getfield 88, 3, [5, 1, 1], 0) := rfl
theorem i_X6_note_4 : am_i m_X6_note 4 = some (4, .istore_n 2, 1, [], 0) := rfl
theorem b_X6_note_0 {a0 a1 : Nat} {h : am_H} (k1 : K5 h a1) : rn m_X6_note 0 [.ref a0, .ref a1, am_J, am_J, am_J] [] h = rn m_X6_note 5 [.ref a0, .ref a1, .int (mI (fZ h a1 1)), am_J, am_J] [] h := by
  refine (tq_aload_n i_X6_note_0 rfl (isA_ref _) rfl).trans ?_
  refine (tq_getfield i_X6_note_1 (K5_s k1) (g_5_1 (K5_s k1)) (isV_I _) rfl).trans ?_
  refine (tq_istore_n (L' := [.ref a0, .ref a1, .int (mI (fZ h a1 1)), am_J, am_J]) i_X6_note_4 rfl rfl).trans ?_
  rfl
theorem i_X6_note_5 : am_i m_X6_note 5 = some (5, .iload_n 2, 1, [], 0) := rfl
theorem i_X6_note_6 : am_i m_X6_note 6 = some (6, .aload_n 1, 1, [], 0) := rfl
theorem i_X6_note_7 : am_i m_X6_note 7 = some (7, .getfield 88, 3, [5, 1, 1], 0) := rfl
theorem i_X6_note_10 : am_i m_X6_note 10 = some (10, .aload_n 1, 1, [], 0) := rfl
theorem i_X6_note_11 : am_i m_X6_note 11 = some (11, .getfield 93, 3, [5, 2, 1], 0) := rfl
theorem i_X6_note_14 : am_i m_X6_note 14 = some (14, .iadd, 1, [], 0) := rfl
theorem i_X6_note_15 : am_i m_X6_note 15 = some (15, .if_icmp .ge 114, 3, [], 0) := rfl
theorem i_X6_note_18 : am_i m_X6_note 18 = some (18, .aload_n 1, 1, [], 0) := rfl
theorem i_X6_note_19 : am_i m_X6_note 19 = some (19, .getfield 96, 3, [5, 0, 1], 0) := rfl
theorem i_X6_note_22 : am_i m_X6_note 22 = some (22, .istore_n 3, 1, [], 0) := rfl
theorem i_X6_note_129 : am_i m_X6_note 129 = some (129, .return_, 1, [], 0) := rfl
theorem b_X6_note_5 {a0 a1 : Nat} {x2 x2' : Int} {v3 v4 : Value} {h : am_H} (w2 : wr x2 = x2') (k1 : K5 h a1) : rn m_X6_note 5 [.ref a0, .ref a1, .int (mI x2), v3, v4] [] h = if (wr ((fZ h a1 1) + (fZ h a1 2))) ≤ x2' then some (.inl none, h) else rn m_X6_note 23 [.ref a0, .ref a1, .int (mI x2), .int (mI (fZ h a1 0)), v4] [] h := by
  refine (tq_iload_n i_X6_note_5 rfl rfl).trans ?_
  refine (tq_aload_n i_X6_note_6 rfl (isA_ref _) rfl).trans ?_
  refine (tq_getfield i_X6_note_7 (K5_s k1) (g_5_1 (K5_s k1)) (isV_I _) rfl).trans ?_
  refine (tq_aload_n i_X6_note_10 rfl (isA_ref _) rfl).trans ?_
  refine (tq_getfield i_X6_note_11 (K5_s k1) (g_5_2 (K5_s k1)) (isV_I _) rfl).trans ?_
  refine (tq_iadd i_X6_note_14 rfl).trans ?_
  refine (tq_icmp_ge (pt := 129) i_X6_note_15 w2 rfl (by decide) rfl).trans ?_
  refine ite_congr rfl (fun c1 => ?_) (fun c1 => ?_)
  · exact tq_return i_X6_note_129 r_X6_note
  · refine (tq_aload_n i_X6_note_18 rfl (isA_ref _) rfl).trans ?_
    refine (tq_getfield i_X6_note_19 (K5_s k1) (g_5_0 (K5_s k1)) (isV_I _) rfl).trans ?_
    refine (tq_istore_n (L' := [.ref a0, .ref a1, .int (mI x2), .int (mI (fZ h a1 0)), v4]) i_X6_note_22 rfl rfl).trans ?_
    rfl
theorem i_X6_note_23 : am_i m_X6_note 23 = some (23, .iload_n 3, 1, [], 0) := rfl
theorem i_X6_note_24 : am_i m_X6_note 24 = some (24, .aload_n 1, 1, [], 0) := rfl
theorem i_X6_note_25 : am_i m_X6_note 25 = some (25, .getfield 96, 3, [5, 0, 1], 0) := rfl
theorem i_X6_note_28 : am_i m_X6_note 28 = some (28, .aload_n 1, 1, [], 0) := rfl
theorem i_X6_note_29 : am_i m_X6_note 29 = some (29, .getfield 93, 3, [5, 2, 1], 0) := rfl
theorem i_X6_note_32 : am_i m_X6_note 32 = some (32, .iadd, 1, [], 0) := rfl
theorem i_X6_note_33 : am_i m_X6_note 33 = some (33, .if_icmp .ge 90, 3, [], 0) := rfl
theorem i_X6_note_36 : am_i m_X6_note 36 = some (36, .iload_n 3, 1, [], 0) := rfl
theorem i_X6_note_37 : am_i m_X6_note 37 = some (37, .iload_n 2, 1, [], 0) := rfl
theorem i_X6_note_38 : am_i m_X6_note 38 = some (38, .invokestatic 99, 3, [15], 0) := rfl
theorem i_X6_note_41 : am_i m_X6_note 41 = some (41, .istore 4, 2, [], 0) := rfl
theorem i_X6_note_43 : am_i m_X6_note 43 = some (43, .aload_n 0, 1, [], 0) := rfl
theorem i_X6_note_44 : am_i m_X6_note 44 = some (44, .getfield 46, 3, [6, 10, 0], 0) := rfl
theorem i_X6_note_47 : am_i m_X6_note 47 = some (47, .iload 4, 2, [], 0) := rfl
theorem i_X6_note_49 : am_i m_X6_note 49 = some (49, .aload_n 1, 1, [], 0) := rfl
theorem i_X6_note_50 : am_i m_X6_note 50 = some (50, .getfield 93, 3, [5, 2, 1], 0) := rfl
theorem i_X6_note_53 : am_i m_X6_note 53 = some (53, .invokestatic 103, 3, [33], 0) := rfl
theorem i_X6_note_56 : am_i m_X6_note 56 = some (56, .aload_n 0, 1, [], 0) := rfl
theorem i_X6_note_57 : am_i m_X6_note 57 = some (57, .getfield 49, 3, [6, 11, 0], 0) := rfl
theorem i_X6_note_60 : am_i m_X6_note 60 = some (60, .iload 4, 2, [], 0) := rfl
theorem i_X6_note_62 : am_i m_X6_note 62 = some (62, .aload_n 1, 1, [], 0) := rfl
theorem i_X6_note_63 : am_i m_X6_note 63 = some (63, .getfield 107, 3, [5, 4, 1], 0) := rfl
theorem i_X6_note_66 : am_i m_X6_note 66 = some (66, .invokestatic 103, 3, [33], 0) := rfl
theorem i_X6_note_69 : am_i m_X6_note 69 = some (69, .aload_n 0, 1, [], 0) := rfl
theorem i_X6_note_70 : am_i m_X6_note 70 = some (70, .getfield 52, 3, [6, 12, 0], 0) := rfl
theorem i_X6_note_73 : am_i m_X6_note 73 = some (73, .iload 4, 2, [], 0) := rfl
theorem i_X6_note_75 : am_i m_X6_note 75 = some (75, .aload_n 1, 1, [], 0) := rfl
theorem i_X6_note_76 : am_i m_X6_note 76 = some (76, .invokevirtual 110, 3, [22, 5], 0) := rfl
theorem i_X6_note_79 : am_i m_X6_note 79 = some (79, .ifCond .eq 10, 3, [], 0) := rfl
theorem i_X6_note_82 : am_i m_X6_note 82 = some (82, .aload_n 1, 1, [], 0) := rfl
theorem i_X6_note_83 : am_i m_X6_note 83 = some (83, .getfield 113, 3, [5, 5, 1], 0) := rfl
theorem i_X6_note_86 : am_i m_X6_note 86 = some (86, .goto 4, 3, [], 0) := rfl
theorem i_X6_note_89 : am_i m_X6_note 89 = some (89, .iconst (-1), 1, [], -1) := rfl
theorem i_X6_note_90 : am_i m_X6_note 90 = some (90, .invokestatic 103, 3, [33], 0) := rfl
theorem i_X6_note_93 : am_i m_X6_note 93 = some (93, .aload_n 0, 1, [], 0) := rfl
theorem i_X6_note_94 : am_i m_X6_note 94 = some (94, .getfield 55, 3, [6, 13, 0], 0) := rfl
theorem i_X6_note_97 : am_i m_X6_note 97 = some (97, .iload 4, 2, [], 0) := rfl
theorem i_X6_note_99 : am_i m_X6_note 99 = some (99, .aload_n 1, 1, [], 0) := rfl
theorem i_X6_note_100 : am_i m_X6_note 100 = some (100, .invokevirtual 116, 3, [23, 5], 0) := rfl
theorem i_X6_note_103 : am_i m_X6_note 103 = some (103, .ifCond .eq 10, 3, [], 0) := rfl
theorem i_X6_note_106 : am_i m_X6_note 106 = some (106, .aload_n 1, 1, [], 0) := rfl
theorem i_X6_note_107 : am_i m_X6_note 107 = some (107, .getfield 119, 3, [5, 6, 1], 0) := rfl
theorem i_X6_note_110 : am_i m_X6_note 110 = some (110, .goto 4, 3, [], 0) := rfl
theorem i_X6_note_113 : am_i m_X6_note 113 = some (113, .iconst (-1), 1, [], -1) := rfl
theorem i_X6_note_114 : am_i m_X6_note 114 = some (114, .invokestatic 103, 3, [33], 0) := rfl
theorem i_X6_note_117 : am_i m_X6_note 117 = some (117, .iinc 3 4, 3, [], 0) := rfl
theorem i_X6_note_120 : am_i m_X6_note 120 = some (120, .goto (-97), 3, [], 0) := rfl
theorem i_X6_note_123 : am_i m_X6_note 123 = some (123, .iinc 2 4, 3, [], 0) := rfl
theorem i_X6_note_126 : am_i m_X6_note 126 = some (126, .goto (-121), 3, [], 0) := rfl
theorem b_X6_note_23 {a0 a1 : Nat} {x2 x3 x2' x3' : Int} {v4 : Value} {h : am_H} (w2 : wr x2 = x2') (w3 : wr x3 = x3') (k1 : K5 h a1) (g2 : (¬ ((wr ((fZ h a1 0) + (fZ h a1 2))) ≤ x3')) → (0 ≤ x3' ∧ x3' < 16)) (g3 : (¬ ((wr ((fZ h a1 0) + (fZ h a1 2))) ≤ x3')) → (0 ≤ x2' ∧ x2' < 16)) (k4 : K6 h a0) (g5 : (¬ ((wr ((fZ h a1 0) + (fZ h a1 2))) ≤ x3')) → (0 ≤ (sq x3' x2') ∧ (sq x3' x2') < (16 : Int))) : rn m_X6_note 23 [.ref a0, .ref a1, .int (mI x2), .int (mI x3), v4] [] h = if (wr ((fZ h a1 0) + (fZ h a1 2))) ≤ x3' then rn m_X6_note 5 [.ref a0, .ref a1, .int (mI (x2 + 4)), .int (mI x3), v4] [] h else rn m_X6_note 23 [.ref a0, .ref a1, .int (mI x2), .int (mI (x3 + 4)), .int (mI (sq x3' x2'))] [] (uZ (uZ (uZ (uZ h (a0 + 3) (sq x3' x2') (fZ h a1 2)) (a0 + 4) (sq x3' x2') (fZ h a1 4)) (a0 + 5) (sq x3' x2') (if (((fZ (uZ (uZ h (a0 + 3) (sq x3' x2') (fZ h a1 2)) (a0 + 4) (sq x3' x2') (fZ h a1 4)) a1 4) = 4) ∨ (¬ (¬ (fZ (uZ (uZ h (a0 + 3) (sq x3' x2') (fZ h a1 2)) (a0 + 4) (sq x3' x2') (fZ h a1 4)) a1 4) = 6))) then fZ h a1 5 else (-1))) (a0 + 6) (sq x3' x2') (if (((fZ (uZ (uZ (uZ h (a0 + 3) (sq x3' x2') (fZ h a1 2)) (a0 + 4) (sq x3' x2') (fZ h a1 4)) (a0 + 5) (sq x3' x2') (if (((fZ (uZ (uZ h (a0 + 3) (sq x3' x2') (fZ h a1 2)) (a0 + 4) (sq x3' x2') (fZ h a1 4)) a1 4) = 4) ∨ (¬ (¬ (fZ (uZ (uZ h (a0 + 3) (sq x3' x2') (fZ h a1 2)) (a0 + 4) (sq x3' x2') (fZ h a1 4)) a1 4) = 6))) then fZ h a1 5 else (-1))) a1 4) = 5) ∨ (¬ (¬ (fZ (uZ (uZ (uZ h (a0 + 3) (sq x3' x2') (fZ h a1 2)) (a0 + 4) (sq x3' x2') (fZ h a1 4)) (a0 + 5) (sq x3' x2') (if (((fZ (uZ (uZ h (a0 + 3) (sq x3' x2') (fZ h a1 2)) (a0 + 4) (sq x3' x2') (fZ h a1 4)) a1 4) = 4) ∨ (¬ (¬ (fZ (uZ (uZ h (a0 + 3) (sq x3' x2') (fZ h a1 2)) (a0 + 4) (sq x3' x2') (fZ h a1 4)) a1 4) = 6))) then fZ h a1 5 else (-1))) a1 4) = 6))) then fZ h a1 6 else (-1))) := by
  refine (tq_iload_n i_X6_note_23 rfl rfl).trans ?_
  refine (tq_aload_n i_X6_note_24 rfl (isA_ref _) rfl).trans ?_
  refine (tq_getfield i_X6_note_25 (K5_s k1) (g_5_0 (K5_s k1)) (isV_I _) rfl).trans ?_
  refine (tq_aload_n i_X6_note_28 rfl (isA_ref _) rfl).trans ?_
  refine (tq_getfield i_X6_note_29 (K5_s k1) (g_5_2 (K5_s k1)) (isV_I _) rfl).trans ?_
  refine (tq_iadd i_X6_note_32 rfl).trans ?_
  refine (tq_icmp_ge (pt := 123) i_X6_note_33 w3 rfl (by decide) rfl).trans ?_
  refine ite_congr rfl (fun c1 => ?_) (fun c1 => ?_)
  · refine (tq_iinc (L' := [.ref a0, .ref a1, .int (mI (x2 + 4)), .int (mI x3), v4]) i_X6_note_123 rfl rfl rfl).trans ?_
    refine (tq_goto (pc' := 5) i_X6_note_126 (by decide)).trans ?_
    rfl
  · refine (tq_iload_n i_X6_note_36 rfl rfl).trans ?_
    refine (tq_iload_n i_X6_note_37 rfl rfl).trans ?_
    refine (c_X11_squareAt i_X6_note_38 (ltd d_X6_note (by decide)) stOk_0 rfl).trans ?_
    refine (congrArg (cl _ _ _ _) (squareAt_ok w3 w2 (g2 c1) (g3 c1))).trans ?_
    refine (cl_v _ _ _ _ _ _).trans ?_
    refine (tq_istore (L' := [.ref a0, .ref a1, .int (mI x2), .int (mI x3), .int (mI (sq x3' x2'))]) i_X6_note_41 rfl rfl).trans ?_
    refine (tq_aload_n i_X6_note_43 rfl (isA_ref _) rfl).trans ?_
    refine (tq_getfield i_X6_note_44 (K6_s k4) (gR (g_6_10 (K6_s k4)) (K6_e10 k4)) (isV_ref _) rfl).trans ?_
    refine (tq_iload i_X6_note_47 rfl rfl).trans ?_
    refine (tq_aload_n i_X6_note_49 rfl (isA_ref _) rfl).trans ?_
    refine (tq_getfield i_X6_note_50 (K5_s k1) (g_5_2 (K5_s k1)) (isV_I _) rfl).trans ?_
    refine (c_X7_put i_X6_note_53 (ltd d_X6_note (by decide)) (isA_ref _) stOk_0 rfl).trans ?_
    refine (congrArg (cl _ _ _ _) (put_ok (wr_sq _ _) (K6_n10 k4) (K6_s10 k4) (g5 c1))).trans ?_
    refine (cl_n _ _ _ _ _).trans ?_
    refine (tq_aload_n i_X6_note_56 rfl (isA_ref _) rfl).trans ?_
    refine (tq_getfield i_X6_note_57 ((sh_uZ _ _ _ _ _).trans (K6_s k4)) (gR ((g_6_11 ((sh_uZ _ _ _ _ _).trans (K6_s k4))).trans (congrArg am_rv (fA_uZ _ _ _ _ _ _))) (K6_e11 k4)) (isV_ref _) rfl).trans ?_
    refine (tq_iload i_X6_note_60 rfl rfl).trans ?_
    refine (tq_aload_n i_X6_note_62 rfl (isA_ref _) rfl).trans ?_
    refine (tq_getfield i_X6_note_63 ((sh_uZ _ _ _ _ _).trans (K5_s k1)) ((g_5_4 ((sh_uZ _ _ _ _ _).trans (K5_s k1))).trans (congrArg (fun z => Value.int (mI z)) (fZ_uZ _ _ _ _ _ _))) (isV_I _) rfl).trans ?_
    refine (c_X7_put i_X6_note_66 (ltd d_X6_note (by decide)) (isA_ref _) stOk_0 rfl).trans ?_
    refine (congrArg (cl _ _ _ _) (put_ok (wr_sq _ _) ((gn_uZ _ _ _ _ _).trans (K6_n11 k4)) ((sh_uZ _ _ _ _ _).trans (K6_s11 k4)) (g5 c1))).trans ?_
    refine (cl_n _ _ _ _ _).trans ?_
    refine (tq_aload_n i_X6_note_69 rfl (isA_ref _) rfl).trans ?_
    refine (tq_getfield i_X6_note_70 ((sh_uZ _ _ _ _ _).trans ((sh_uZ _ _ _ _ _).trans (K6_s k4))) (gR ((g_6_12 ((sh_uZ _ _ _ _ _).trans ((sh_uZ _ _ _ _ _).trans (K6_s k4)))).trans (congrArg am_rv ((fA_uZ _ _ _ _ _ _).trans (fA_uZ _ _ _ _ _ _)))) (K6_e12 k4)) (isV_ref _) rfl).trans ?_
    refine (tq_iload i_X6_note_73 rfl rfl).trans ?_
    refine (tq_aload_n i_X6_note_75 rfl (isA_ref _) rfl).trans ?_
    refine (c_X5_usesFirst i_X6_note_76 ((sh_uZ _ _ _ _ _).trans ((sh_uZ _ _ _ _ _).trans (K5_s k1))) (ltd d_X6_note (by decide)) (stOk_2 _ _) rfl).trans ?_
    refine (congrArg (cl _ _ _ _) (b_X5_usesFirst_0 (K5_sm (Sm_tr (Sm_uZ _ _ _ _) (Sm_uZ _ _ _ _)) k1))).trans ?_
    refine (cl_v _ _ _ _ _ _).trans ?_
    refine (tq_ifb_eq (pt := 89) i_X6_note_79 (by decide) rfl).trans ?_
    refine Eq.trans (b := if (((fZ (uZ (uZ h (a0 + 3) (sq x3' x2') (fZ h a1 2)) (a0 + 4) (sq x3' x2') (fZ h a1 4)) a1 4) = 4) ∨ (¬ (¬ (fZ (uZ (uZ h (a0 + 3) (sq x3' x2') (fZ h a1 2)) (a0 + 4) (sq x3' x2') (fZ h a1 4)) a1 4) = 6))) then rn m_X6_note 90 [.ref a0, .ref a1, .int (mI x2), .int (mI x3), .int (mI (sq x3' x2'))] [.int (mI (fZ h a1 5)), .int (mI (sq x3' x2')), .ref (a0 + 5)] (uZ (uZ h (a0 + 3) (sq x3' x2') (fZ h a1 2)) (a0 + 4) (sq x3' x2') (fZ h a1 4)) else rn m_X6_note 90 [.ref a0, .ref a1, .int (mI x2), .int (mI x3), .int (mI (sq x3' x2'))] [.int (mI (-1)), .int (mI (sq x3' x2')), .ref (a0 + 5)] (uZ (uZ h (a0 + 3) (sq x3' x2') (fZ h a1 2)) (a0 + 4) (sq x3' x2') (fZ h a1 4))) (ite_congr rfl (fun c2 => ?_) (fun c2 => ?_)) ?_
    · refine (tq_aload_n i_X6_note_82 rfl (isA_ref _) rfl).trans ?_
      refine (tq_getfield i_X6_note_83 ((sh_uZ _ _ _ _ _).trans ((sh_uZ _ _ _ _ _).trans (K5_s k1))) ((g_5_5 ((sh_uZ _ _ _ _ _).trans ((sh_uZ _ _ _ _ _).trans (K5_s k1)))).trans (congrArg (fun z => Value.int (mI z)) ((fZ_uZ _ _ _ _ _ _).trans (fZ_uZ _ _ _ _ _ _)))) (isV_I _) rfl).trans ?_
      refine (tq_goto (pc' := 90) i_X6_note_86 (by decide)).trans ?_
      rfl
    · refine (tq_iconst i_X6_note_89 rfl).trans ?_
      rfl
    refine Eq.trans ite_I ?_
    refine (c_X7_put i_X6_note_90 (ltd d_X6_note (by decide)) (isA_ref _) stOk_0 rfl).trans ?_
    refine (congrArg (cl _ _ _ _) (put_ok (wr_sq _ _) ((gn_uZ _ _ _ _ _).trans ((gn_uZ _ _ _ _ _).trans (K6_n12 k4))) ((sh_uZ _ _ _ _ _).trans ((sh_uZ _ _ _ _ _).trans (K6_s12 k4))) (g5 c1))).trans ?_
    refine (cl_n _ _ _ _ _).trans ?_
    refine (tq_aload_n i_X6_note_93 rfl (isA_ref _) rfl).trans ?_
    refine (tq_getfield i_X6_note_94 ((sh_uZ _ _ _ _ _).trans ((sh_uZ _ _ _ _ _).trans ((sh_uZ _ _ _ _ _).trans (K6_s k4)))) (gR ((g_6_13 ((sh_uZ _ _ _ _ _).trans ((sh_uZ _ _ _ _ _).trans ((sh_uZ _ _ _ _ _).trans (K6_s k4))))).trans (congrArg am_rv ((fA_uZ _ _ _ _ _ _).trans ((fA_uZ _ _ _ _ _ _).trans (fA_uZ _ _ _ _ _ _))))) (K6_e13 k4)) (isV_ref _) rfl).trans ?_
    refine (tq_iload i_X6_note_97 rfl rfl).trans ?_
    refine (tq_aload_n i_X6_note_99 rfl (isA_ref _) rfl).trans ?_
    refine (c_X5_usesSecond i_X6_note_100 ((sh_uZ _ _ _ _ _).trans ((sh_uZ _ _ _ _ _).trans ((sh_uZ _ _ _ _ _).trans (K5_s k1)))) (ltd d_X6_note (by decide)) (stOk_2 _ _) rfl).trans ?_
    refine (congrArg (cl _ _ _ _) (b_X5_usesSecond_0 (K5_sm (Sm_tr (Sm_uZ _ _ _ _) (Sm_tr (Sm_uZ _ _ _ _) (Sm_uZ _ _ _ _))) k1))).trans ?_
    refine (cl_v _ _ _ _ _ _).trans ?_
    refine (tq_ifb_eq (pt := 113) i_X6_note_103 (by decide) rfl).trans ?_
    refine Eq.trans (b := if (((fZ (uZ (uZ (uZ h (a0 + 3) (sq x3' x2') (fZ h a1 2)) (a0 + 4) (sq x3' x2') (fZ h a1 4)) (a0 + 5) (sq x3' x2') (if (((fZ (uZ (uZ h (a0 + 3) (sq x3' x2') (fZ h a1 2)) (a0 + 4) (sq x3' x2') (fZ h a1 4)) a1 4) = 4) ∨ (¬ (¬ (fZ (uZ (uZ h (a0 + 3) (sq x3' x2') (fZ h a1 2)) (a0 + 4) (sq x3' x2') (fZ h a1 4)) a1 4) = 6))) then fZ h a1 5 else (-1))) a1 4) = 5) ∨ (¬ (¬ (fZ (uZ (uZ (uZ h (a0 + 3) (sq x3' x2') (fZ h a1 2)) (a0 + 4) (sq x3' x2') (fZ h a1 4)) (a0 + 5) (sq x3' x2') (if (((fZ (uZ (uZ h (a0 + 3) (sq x3' x2') (fZ h a1 2)) (a0 + 4) (sq x3' x2') (fZ h a1 4)) a1 4) = 4) ∨ (¬ (¬ (fZ (uZ (uZ h (a0 + 3) (sq x3' x2') (fZ h a1 2)) (a0 + 4) (sq x3' x2') (fZ h a1 4)) a1 4) = 6))) then fZ h a1 5 else (-1))) a1 4) = 6))) then rn m_X6_note 114 [.ref a0, .ref a1, .int (mI x2), .int (mI x3), .int (mI (sq x3' x2'))] [.int (mI (fZ h a1 6)), .int (mI (sq x3' x2')), .ref (a0 + 6)] (uZ (uZ (uZ h (a0 + 3) (sq x3' x2') (fZ h a1 2)) (a0 + 4) (sq x3' x2') (fZ h a1 4)) (a0 + 5) (sq x3' x2') (if (((fZ (uZ (uZ h (a0 + 3) (sq x3' x2') (fZ h a1 2)) (a0 + 4) (sq x3' x2') (fZ h a1 4)) a1 4) = 4) ∨ (¬ (¬ (fZ (uZ (uZ h (a0 + 3) (sq x3' x2') (fZ h a1 2)) (a0 + 4) (sq x3' x2') (fZ h a1 4)) a1 4) = 6))) then fZ h a1 5 else (-1))) else rn m_X6_note 114 [.ref a0, .ref a1, .int (mI x2), .int (mI x3), .int (mI (sq x3' x2'))] [.int (mI (-1)), .int (mI (sq x3' x2')), .ref (a0 + 6)] (uZ (uZ (uZ h (a0 + 3) (sq x3' x2') (fZ h a1 2)) (a0 + 4) (sq x3' x2') (fZ h a1 4)) (a0 + 5) (sq x3' x2') (if (((fZ (uZ (uZ h (a0 + 3) (sq x3' x2') (fZ h a1 2)) (a0 + 4) (sq x3' x2') (fZ h a1 4)) a1 4) = 4) ∨ (¬ (¬ (fZ (uZ (uZ h (a0 + 3) (sq x3' x2') (fZ h a1 2)) (a0 + 4) (sq x3' x2') (fZ h a1 4)) a1 4) = 6))) then fZ h a1 5 else (-1)))) (ite_congr rfl (fun c3 => ?_) (fun c3 => ?_)) ?_
    · refine (tq_aload_n i_X6_note_106 rfl (isA_ref _) rfl).trans ?_
      refine (tq_getfield i_X6_note_107 ((sh_uZ _ _ _ _ _).trans ((sh_uZ _ _ _ _ _).trans ((sh_uZ _ _ _ _ _).trans (K5_s k1)))) ((g_5_6 ((sh_uZ _ _ _ _ _).trans ((sh_uZ _ _ _ _ _).trans ((sh_uZ _ _ _ _ _).trans (K5_s k1))))).trans (congrArg (fun z => Value.int (mI z)) ((fZ_uZ _ _ _ _ _ _).trans ((fZ_uZ _ _ _ _ _ _).trans (fZ_uZ _ _ _ _ _ _))))) (isV_I _) rfl).trans ?_
      refine (tq_goto (pc' := 114) i_X6_note_110 (by decide)).trans ?_
      rfl
    · refine (tq_iconst i_X6_note_113 rfl).trans ?_
      rfl
    refine Eq.trans ite_I ?_
    refine (c_X7_put i_X6_note_114 (ltd d_X6_note (by decide)) (isA_ref _) stOk_0 rfl).trans ?_
    refine (congrArg (cl _ _ _ _) (put_ok (wr_sq _ _) ((gn_uZ _ _ _ _ _).trans ((gn_uZ _ _ _ _ _).trans ((gn_uZ _ _ _ _ _).trans (K6_n13 k4)))) ((sh_uZ _ _ _ _ _).trans ((sh_uZ _ _ _ _ _).trans ((sh_uZ _ _ _ _ _).trans (K6_s13 k4)))) (g5 c1))).trans ?_
    refine (cl_n _ _ _ _ _).trans ?_
    refine (tq_iinc (L' := [.ref a0, .ref a1, .int (mI x2), .int (mI (x3 + 4)), .int (mI (sq x3' x2'))]) i_X6_note_117 rfl rfl rfl).trans ?_
    refine (tq_goto (pc' := 23) i_X6_note_120 (by decide)).trans ?_
    rfl
def SNo (D : Nat) : Nat → Nat → Prop := fun c _ => c = D + 3 ∨ c = D + 4 ∨ c = D + 5 ∨ c = D + 6
theorem note_step {h : am_H} {D P : Nat} {Z m v1 v2 s : Int} (kD : K6 h D) (eZ : fZ h P 2 = Z) (e4 : fZ h P 4 = m) (e5 : fZ h P 5 = v1) (e6 : fZ h P 6 = v2) : ∃ h', (uZ (uZ (uZ (uZ h (D + 3) s (fZ h P 2)) (D + 4) s (fZ h P 4)) (D + 5) s (if (((fZ (uZ (uZ h (D + 3) s (fZ h P 2)) (D + 4) s (fZ h P 4)) P 4) = 4) ∨ (¬ (¬ (fZ (uZ (uZ h (D + 3) s (fZ h P 2)) (D + 4) s (fZ h P 4)) P 4) = 6))) then fZ h P 5 else (-1))) (D + 6) s (if (((fZ (uZ (uZ (uZ h (D + 3) s (fZ h P 2)) (D + 4) s (fZ h P 4)) (D + 5) s (if (((fZ (uZ (uZ h (D + 3) s (fZ h P 2)) (D + 4) s (fZ h P 4)) P 4) = 4) ∨ (¬ (¬ (fZ (uZ (uZ h (D + 3) s (fZ h P 2)) (D + 4) s (fZ h P 4)) P 4) = 6))) then fZ h P 5 else (-1))) P 4) = 5) ∨ (¬ (¬ (fZ (uZ (uZ (uZ h (D + 3) s (fZ h P 2)) (D + 4) s (fZ h P 4)) (D + 5) s (if (((fZ (uZ (uZ h (D + 3) s (fZ h P 2)) (D + 4) s (fZ h P 4)) P 4) = 4) ∨ (¬ (¬ (fZ (uZ (uZ h (D + 3) s (fZ h P 2)) (D + 4) s (fZ h P 4)) P 4) = 6))) then fZ h P 5 else (-1))) P 4) = 6))) then fZ h P 6 else (-1))) = h' ∧ Md (SNo D) h h' ∧ told h' D Z m v1 v2 s ∧ ∀ t, t ≠ s → same4 h h' D t := by
  simp only [fZ_uZ, eZ, e4, e5, e6, Decidable.not_not]
  refine ⟨_, rfl, ?_, ?_, ?_⟩
  · refine Md_tr (Md_mono (Md_uZ _ _ _ _) fun c k e => Or.inl e) (Md_tr (Md_mono (Md_uZ _ _ _ _) fun c k e => Or.inr (Or.inl e)) (Md_tr (Md_mono (Md_uZ _ _ _ _) fun c k e => Or.inr (Or.inr (Or.inl e))) (Md_mono (Md_uZ _ _ _ _) fun c k e => Or.inr (Or.inr (Or.inr e)))))
  · have s3 := sh1 (K6_s10 kD)
    have s4 := sh1 (K6_s11 kD)
    have s5 := sh1 (K6_s12 kD)
    have s6 := sh1 (K6_s13 kD)
    have b2 := wr_fZ h P 2
    have b4 := wr_fZ h P 4
    have b5 := wr_fZ h P 5
    have b6 := wr_fZ h P 6
    rw [eZ] at b2
    rw [e4] at b4
    rw [e5] at b5
    rw [e6] at b6
    refine ⟨?_, ?_, ?_, ?_⟩
    · rw [gZ_uZ_ne _ _ (by omega), gZ_uZ_ne _ _ (by omega), gZ_uZ_ne _ _ (by omega), gZ_uZ_eq _ s3 rfl, b2]
    · rw [gZ_uZ_ne _ _ (by omega), gZ_uZ_ne _ _ (by omega), gZ_uZ_eq _ (by rw [sh_uZ]; exact s4) rfl, b4]
    · rw [gZ_uZ_ne _ _ (by omega), gZ_uZ_eq _ (by rw [sh_uZ, sh_uZ]; exact s5) rfl]
      unfold used1
      split
      · exact b5
      · exact wr_id (by omega) (by omega)
    · rw [gZ_uZ_eq _ (by rw [sh_uZ, sh_uZ, sh_uZ]; exact s6) rfl]
      unfold used2
      split
      · exact b6
      · exact wr_id (by omega) (by omega)
  · intro t ht
    have s3 := sh1 (K6_s10 kD)
    have s4 := sh1 (K6_s11 kD)
    have s5 := sh1 (K6_s12 kD)
    have s6 := sh1 (K6_s13 kD)
    refine ⟨?_, ?_, ?_, ?_⟩
    · rw [gZ_uZ_ne _ _ (by omega), gZ_uZ_ne _ _ (by omega), gZ_uZ_ne _ _ (by omega), gZ_uZ_nj _ s3 ht]
    · rw [gZ_uZ_ne _ _ (by omega), gZ_uZ_ne _ _ (by omega), gZ_uZ_nj _ (by rw [sh_uZ]; exact s4) ht, gZ_uZ_ne _ _ (by omega)]
    · rw [gZ_uZ_ne _ _ (by omega), gZ_uZ_nj _ (by rw [sh_uZ, sh_uZ]; exact s5) ht, gZ_uZ_ne _ _ (by omega), gZ_uZ_ne _ _ (by omega)]
    · rw [gZ_uZ_nj _ (by rw [sh_uZ, sh_uZ, sh_uZ]; exact s6) ht, gZ_uZ_ne _ _ (by omega), gZ_uZ_ne _ _ (by omega), gZ_uZ_ne _ _ (by omega)]
theorem isPart_m {X Y Z T : Int} (ip : isPart X Y Z T) (m : X % 4 = 0 ∧ Y % 4 = 0) : ∃ n, (n = 1 ∨ n = 2) ∧ Z = 4 * n := by
  rcases ip.1 with e | e
  · exact ⟨1, Or.inl rfl, by omega⟩
  · exact ⟨2, Or.inr rfl, by omega⟩
theorem note_ok {h : am_H} {D P : Nat} {X Y Z T m v1 v2 : Int} (kD : K6 h D) (kP : K5 h P) (pa : partAt h P X Y Z T) (ip : isPart X Y Z T) (mm : X % 4 = 0 ∧ Y % 4 = 0) (e4 : fZ h P 4 = m) (e5 : fZ h P 5 = v1) (e6 : fZ h P 6 = v2) : ∃ h', rn m_X6_note 0 [.ref D, .ref P, am_J, am_J, am_J] [] h = some (.inl none, h') ∧ Md (SNo D) h h' ∧ ∀ s, 0 ≤ s → s < 16 → (inPart X Y Z s → told h' D Z m v1 v2 s) ∧ (¬ inPart X Y Z s → same4 h h' D s) := by
  have pD : P ≠ D + 3 ∧ P ≠ D + 4 ∧ P ≠ D + 5 ∧ P ≠ D + 6 := ⟨ne_sh kP (K6_s10 kD) (by decide), ne_sh kP (K6_s11 kD) (by decide), ne_sh kP (K6_s12 kD) (by decide), ne_sh kP (K6_s13 kD) (by decide)⟩
  obtain ⟨n, hn, eZ⟩ := isPart_m ip mm
  obtain ⟨hz, hX, hY, hT⟩ := ip
  have pm : ∀ {h' : am_H}, Md (SNo D) h h' → partAt h' P X Y Z T ∧ fZ h' P 4 = m ∧ fZ h' P 5 = v1 ∧ fZ h' P 6 = v2 ∧ K6 h' D ∧ K5 h' P := fun md => by
    have np : ∀ k, ¬ SNo D P k := fun k q => by unfold SNo at q; omega
    exact ⟨partAt_md md (fun k _ => np k) pa, (md_fZ md (np _)).trans e4, (md_fZ md (np _)).trans e5, (md_fZ md (np _)).trans e6, K6_sm md.1 kD, K5_sm md.1 kP⟩
  rw [b_X6_note_0 kP, pa.2.1]
  have := lp (m := m_X6_note) (pc := 5) (L := fun i (x : Value × Value) => [.ref D, .ref P, .int (mI (Y + 4 * i)), x.1, x.2]) (N := n) (P := fun r => ∃ h', r = some (.inl none, h') ∧ Md (SNo D) h h' ∧ ∀ s, 0 ≤ s → s < 16 → (inPart X Y Z s → told h' D Z m v1 v2 s) ∧ (¬ inPart X Y Z s → same4 h h' D s)) (fun i _ h' => 0 ≤ i ∧ Md (SNo D) h h' ∧ ∀ s, 0 ≤ s → s < 16 → (inPart X Y Z s ∧ cy s < Y + 4 * i → told h' D Z m v1 v2 s) ∧ (¬ (inPart X Y Z s ∧ cy s < Y + 4 * i) → same4 h h' D s)) ?_ ?_ 0 (am_J, am_J) h (by omega) ⟨by omega, Md_rf _ _, fun s _ _ => ⟨fun q => by unfold inPart at q; omega, fun _ => ⟨rfl, rfl, rfl, rfl⟩⟩⟩
  · rw [show Y + 4 * 0 = Y by omega] at this
    exact this
  · intro i x h' hi ⟨i0, md, hh⟩
    obtain ⟨x1, x2⟩ := x
    obtain ⟨⟨p0, p1, p2, p3⟩, q4, q5, q6, kD', kP'⟩ := pm md
    have st := b_X6_note_5 (a0 := D) (a1 := P) (v3 := x1) (v4 := x2) (h := h') (wr_id (z := Y + 4 * i) (by omega) (by omega)) kP'
    rw [p0, p1, p2, wr_id (z := Y + Z) (by omega) (by omega), if_neg (by omega)] at st
    have in1 := lp (m := m_X6_note) (pc := 23) (L := fun j (x : Value) => [.ref D, .ref P, .int (mI (Y + 4 * i)), .int (mI (X + 4 * j)), x]) (N := n) (P := fun r => ∃ (s' : Value × Value) (h'' : am_H), r = rn m_X6_note 5 [.ref D, .ref P, .int (mI (Y + 4 * (i + 1))), s'.1, s'.2] [] h'' ∧ (0 ≤ i + 1 ∧ Md (SNo D) h h'' ∧ ∀ s, 0 ≤ s → s < 16 → (inPart X Y Z s ∧ cy s < Y + 4 * (i + 1) → told h'' D Z m v1 v2 s) ∧ (¬ (inPart X Y Z s ∧ cy s < Y + 4 * (i + 1)) → same4 h h'' D s))) (fun j _ h2 => 0 ≤ j ∧ Md (SNo D) h h2 ∧ ∀ s, 0 ≤ s → s < 16 → (inPart X Y Z s ∧ (cy s < Y + 4 * i ∨ cy s = Y + 4 * i ∧ cx s < X + 4 * j) → told h2 D Z m v1 v2 s) ∧ (¬ (inPart X Y Z s ∧ (cy s < Y + 4 * i ∨ cy s = Y + 4 * i ∧ cx s < X + 4 * j)) → same4 h h2 D s)) ?_ ?_ 0 x2 h' (by omega) ⟨by omega, md, fun s s0 s1 => ⟨fun q => (hh s s0 s1).1 ⟨q.1, by have := q.1; unfold inPart at this; omega⟩, fun q => (hh s s0 s1).2 fun q' => q ⟨q'.1, Or.inl q'.2⟩⟩⟩
    · obtain ⟨s', h'', e2, e3⟩ := in1
      rw [show X + 4 * 0 = X by omega] at e2
      exact ⟨s', h'', st.trans e2, e3⟩
    · intro j u h2 hj ⟨j0, md2, hh2⟩
      obtain ⟨⟨p0, p1, p2, p3⟩, q4, q5, q6, kD2, kP2⟩ := pm md2
      obtain ⟨c1, c2, c3, c4⟩ := sq_xy (x := X + 4 * j) (y := Y + 4 * i) (by omega) (by omega) (by omega) (by omega)
      have st2 := b_X6_note_23 (a0 := D) (a1 := P) (v4 := u) (h := h2) (wr_id (z := Y + 4 * i) (by omega) (by omega)) (wr_id (z := X + 4 * j) (by omega) (by omega)) kP2
      obtain ⟨h3, eh, m3, t3, r3⟩ := note_step (s := sq (X + 4 * j) (Y + 4 * i)) kD2 p2 q4 q5 q6
      rw [eh, p0, p2, wr_id (z := X + Z) (by omega) (by omega)] at st2
      have st2 := st2 (fun _ => by omega) (fun _ => by omega) kD2 (fun _ => by omega)
      rw [if_neg (by omega), show X + 4 * j + 4 = X + 4 * (j + 1) by omega] at st2
      refine ⟨_, h3, st2, by omega, Md_tr md2 m3, fun s s0 s1 => ?_⟩
      by_cases e : s = sq (X + 4 * j) (Y + 4 * i)
      · rw [← e] at c1 c2 t3
        exact ⟨fun _ => t3, fun q => absurd ⟨⟨⟨by omega, by omega⟩, by omega, by omega⟩, by omega⟩ q⟩
      · obtain ⟨w1, w2, w3, w4⟩ := r3 s e
        have ne : ¬ (cx s = X + 4 * j ∧ cy s = Y + 4 * i) := fun q => e (c_inj ⟨s0, s1⟩ ⟨c3, c4⟩ (by omega) (by omega))
        have cxs := cx_b s
        have cys := cy_b s
        refine ⟨fun q => ?_, fun q => ?_⟩
        · obtain ⟨t1, t2, t3, t4⟩ := (hh2 s s0 s1).1 ⟨q.1, by have := q.2; omega⟩
          exact ⟨w1.trans t1, w2.trans t2, w3.trans t3, w4.trans t4⟩
        · obtain ⟨t1, t2, t3, t4⟩ := (hh2 s s0 s1).2 fun q' => q ⟨q'.1, by have := q'.2; omega⟩
          exact ⟨w1.trans t1, w2.trans t2, w3.trans t3, w4.trans t4⟩
    · intro u h2 ⟨j0, md2, hh2⟩
      obtain ⟨⟨p0, p1, p2, p3⟩, q4, q5, q6, kD2, kP2⟩ := pm md2
      have st2 := b_X6_note_23 (a0 := D) (a1 := P) (v4 := u) (h := h2) (wr_id (z := Y + 4 * i) (by omega) (by omega)) (wr_id (z := X + 4 * n) (by omega) (by omega)) kP2
      rw [p0, p2, wr_id (z := X + Z) (by omega) (by omega)] at st2
      have st2 := st2 (fun _ => by omega) (fun _ => by omega) kD2 (fun _ => by omega)
      rw [if_pos (by omega), show Y + 4 * i + 4 = Y + 4 * (i + 1) by omega] at st2
      refine ⟨(_, _), h2, st2, by omega, md2, fun s s0 s1 => ?_⟩
      have cys := cy_b s
      refine ⟨fun q => (hh2 s s0 s1).1 ⟨q.1, ?_⟩, fun q => (hh2 s s0 s1).2 fun q' => q ⟨q'.1, ?_⟩⟩
      · have q1 := q.1
        have q2 := q.2
        unfold inPart at q1
        omega
      · have q2 := q'.2
        omega
  · intro x h' ⟨i0, md, hh⟩
    obtain ⟨x1, x2⟩ := x
    obtain ⟨⟨p0, p1, p2, p3⟩, q4, q5, q6, kD', kP'⟩ := pm md
    have st := b_X6_note_5 (a0 := D) (a1 := P) (v3 := x1) (v4 := x2) (h := h') (wr_id (z := Y + 4 * n) (by omega) (by omega)) kP'
    rw [p1, p2, wr_id (z := Y + Z) (by omega) (by omega), if_pos (by omega)] at st
    refine ⟨h', st, md, fun s s0 s1 => ⟨fun q => (hh s s0 s1).1 ⟨q, ?_⟩, fun q => (hh s s0 s1).2 fun q' => q q'.1⟩⟩
    unfold inPart at q
    omega
