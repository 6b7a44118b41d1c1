/-! ===== the model codes all parts ===== -/
theorem i_X12_isSplit_0 : am_i m_X12_isSplit 0 = some (0, .sipush 255, 3, [], 255) := rfl
theorem i_X12_isSplit_3 : am_i m_X12_isSplit 3 = some (3, .istore_n 3, 1, [], 0) := rfl
theorem i_X12_isSplit_4 : am_i m_X12_isSplit 4 = some (4, .iconst 0, 1, [], 0) := rfl
theorem i_X12_isSplit_5 : am_i m_X12_isSplit 5 = some (5, .istore 4, 2, [], 0) := rfl
theorem i_X12_isSplit_7 : am_i m_X12_isSplit 7 = some (7, .iconst 0, 1, [], 0) := rfl
theorem i_X12_isSplit_8 : am_i m_X12_isSplit 8 = some (8, .istore 5, 2, [], 0) := rfl
theorem b_X12_isSplit_0 {a0 : Nat} {x1 x2 : Int} {h : am_H} : rn m_X12_isSplit 0 [.ref a0, .int (mI x1), .int (mI x2), am_J, am_J, am_J, am_J] [] h = rn m_X12_isSplit 10 [.ref a0, .int (mI x1), .int (mI x2), .int (mI 255), .int (mI 0), .int (mI 0), am_J] [] h := by
  refine (tq_sipush i_X12_isSplit_0 rfl).trans ?_
  refine (tq_istore_n (L' := [.ref a0, .int (mI x1), .int (mI x2), .int (mI 255), am_J, am_J, am_J]) i_X12_isSplit_3 rfl rfl).trans ?_
  refine (tq_iconst i_X12_isSplit_4 rfl).trans ?_
  refine (tq_istore (L' := [.ref a0, .int (mI x1), .int (mI x2), .int (mI 255), .int (mI 0), am_J, am_J]) i_X12_isSplit_5 rfl rfl).trans ?_
  refine (tq_iconst i_X12_isSplit_7 rfl).trans ?_
  refine (tq_istore (L' := [.ref a0, .int (mI x1), .int (mI x2), .int (mI 255), .int (mI 0), .int (mI 0), am_J]) i_X12_isSplit_8 rfl rfl).trans ?_
  rfl
theorem i_X12_isSplit_10 : am_i m_X12_isSplit 10 = some (10, .iload 5, 2, [], 0) := rfl
theorem i_X12_isSplit_12 : am_i m_X12_isSplit 12 = some (12, .bipush 64, 2, [], 64) := rfl
theorem i_X12_isSplit_14 : am_i m_X12_isSplit 14 = some (14, .if_icmp .ge 50, 3, [], 0) := rfl
theorem i_X12_isSplit_17 : am_i m_X12_isSplit 17 = some (17, .aload_n 0, 1, [], 0) := rfl
theorem i_X12_isSplit_18 : am_i m_X12_isSplit 18 = some (18, .getfield 18, 3, [10, 1, 0], 0) := rfl
theorem i_X12_isSplit_21 : am_i m_X12_isSplit 21 = some (21, .bipush 16, 2, [], 16) := rfl
theorem i_X12_isSplit_23 : am_i m_X12_isSplit 23 = some (23, .iload_n 2, 1, [], 0) := rfl
theorem i_X12_isSplit_24 : am_i m_X12_isSplit 24 = some (24, .iload 5, 2, [], 0) := rfl
theorem i_X12_isSplit_26 : am_i m_X12_isSplit 26 = some (26, .bipush 8, 2, [], 8) := rfl
theorem i_X12_isSplit_28 : am_i m_X12_isSplit 28 = some (28, .idiv, 1, [], 0) := rfl
theorem i_X12_isSplit_29 : am_i m_X12_isSplit 29 = some (29, .iadd, 1, [], 0) := rfl
theorem i_X12_isSplit_30 : am_i m_X12_isSplit 30 = some (30, .imul, 1, [], 0) := rfl
theorem i_X12_isSplit_31 : am_i m_X12_isSplit 31 = some (31, .iload_n 1, 1, [], 0) := rfl
theorem i_X12_isSplit_32 : am_i m_X12_isSplit 32 = some (32, .iadd, 1, [], 0) := rfl
theorem i_X12_isSplit_33 : am_i m_X12_isSplit 33 = some (33, .iload 5, 2, [], 0) := rfl
theorem i_X12_isSplit_35 : am_i m_X12_isSplit 35 = some (35, .bipush 8, 2, [], 8) := rfl
theorem i_X12_isSplit_37 : am_i m_X12_isSplit 37 = some (37, .irem, 1, [], 0) := rfl
theorem i_X12_isSplit_38 : am_i m_X12_isSplit 38 = some (38, .iadd, 1, [], 0) := rfl
theorem i_X12_isSplit_39 : am_i m_X12_isSplit 39 = some (39, .iaload, 1, [], 0) := rfl
theorem i_X12_isSplit_40 : am_i m_X12_isSplit 40 = some (40, .istore 6, 2, [], 0) := rfl
theorem i_X12_isSplit_42 : am_i m_X12_isSplit 42 = some (42, .iload_n 3, 1, [], 0) := rfl
theorem i_X12_isSplit_43 : am_i m_X12_isSplit 43 = some (43, .iload 6, 2, [], 0) := rfl
theorem i_X12_isSplit_45 : am_i m_X12_isSplit 45 = some (45, .invokestatic 3, 3, [0, 2], 0) := rfl
theorem i_X12_isSplit_48 : am_i m_X12_isSplit 48 = some (48, .istore_n 3, 1, [], 0) := rfl
theorem i_X12_isSplit_49 : am_i m_X12_isSplit 49 = some (49, .iload 4, 2, [], 0) := rfl
theorem i_X12_isSplit_51 : am_i m_X12_isSplit 51 = some (51, .iload 6, 2, [], 0) := rfl
theorem i_X12_isSplit_53 : am_i m_X12_isSplit 53 = some (53, .invokestatic 9, 3, [0, 1], 0) := rfl
theorem i_X12_isSplit_56 : am_i m_X12_isSplit 56 = some (56, .istore 4, 2, [], 0) := rfl
theorem i_X12_isSplit_58 : am_i m_X12_isSplit 58 = some (58, .iinc 5 1, 3, [], 0) := rfl
theorem i_X12_isSplit_61 : am_i m_X12_isSplit 61 = some (61, .goto (-51), 3, [], 0) := rfl
theorem i_X12_isSplit_64 : am_i m_X12_isSplit 64 = some (64, .aload_n 0, 1, [], 0) := rfl
theorem i_X12_isSplit_65 : am_i m_X12_isSplit 65 = some (65, .getfield 26, 3, [10, 3, 0], 0) := rfl
theorem i_X12_isSplit_68 : am_i m_X12_isSplit 68 = some (68, .iconst 1, 1, [], 1) := rfl
theorem i_X12_isSplit_69 : am_i m_X12_isSplit 69 = some (69, .iand, 1, [], 0) := rfl
theorem i_X12_isSplit_70 : am_i m_X12_isSplit 70 = some (70, .iconst 1, 1, [], 1) := rfl
theorem i_X12_isSplit_71 : am_i m_X12_isSplit 71 = some (71, .if_icmp .ne 23, 3, [], 0) := rfl
theorem i_X12_isSplit_74 : am_i m_X12_isSplit 74 = some (74, .iload 4, 2, [], 0) := rfl
theorem i_X12_isSplit_76 : am_i m_X12_isSplit 76 = some (76, .iload_n 3, 1, [], 0) := rfl
theorem i_X12_isSplit_77 : am_i m_X12_isSplit 77 = some (77, .isub, 1, [], 0) := rfl
theorem i_X12_isSplit_78 : am_i m_X12_isSplit 78 = some (78, .bipush 24, 2, [], 24) := rfl
theorem i_X12_isSplit_80 : am_i m_X12_isSplit 80 = some (80, .iconst 3, 1, [], 3) := rfl
theorem i_X12_isSplit_81 : am_i m_X12_isSplit 81 = some (81, .aload_n 0, 1, [], 0) := rfl
theorem i_X12_isSplit_82 : am_i m_X12_isSplit 82 = some (82, .getfield 22, 3, [10, 2, 0], 0) := rfl
theorem i_X12_isSplit_85 : am_i m_X12_isSplit 85 = some (85, .imul, 1, [], 0) := rfl
theorem i_X12_isSplit_86 : am_i m_X12_isSplit 86 = some (86, .iadd, 1, [], 0) := rfl
theorem i_X12_isSplit_87 : am_i m_X12_isSplit 87 = some (87, .if_icmp .le 7, 3, [], 0) := rfl
theorem i_X12_isSplit_90 : am_i m_X12_isSplit 90 = some (90, .iconst 1, 1, [], 1) := rfl
theorem i_X12_isSplit_91 : am_i m_X12_isSplit 91 = some (91, .goto 4, 3, [], 0) := rfl
theorem i_X12_isSplit_94 : am_i m_X12_isSplit 94 = some (94, .iconst 0, 1, [], 0) := rfl
theorem i_X12_isSplit_95 : am_i m_X12_isSplit 95 = some (95, .ireturn, 1, [], 0) := rfl
theorem b_X12_isSplit_10 {a0 : Nat} {x1 x2 x3 x4 x5 x3' x4' x5' : Int} {v6 : Value} {h : am_H} (w3 : wr x3 = x3') (w4 : wr x4 = x4') (w5 : wr x5 = x5') (k1 : K10 h a0) (g2 : (¬ (64 ≤ x5')) → (0 ≤ wr (((16 * (x2 + (Int.tdiv x5' 8))) + x1) + (Int.tmod x5' 8)) ∧ wr (((16 * (x2 + (Int.tdiv x5' 8))) + x1) + (Int.tmod x5' 8)) < (256 : Int))) : rn m_X12_isSplit 10 [.ref a0, .int (mI x1), .int (mI x2), .int (mI x3), .int (mI x4), .int (mI x5), v6] [] h = if 64 ≤ x5' then some (.inl (some (.int (mI (bZ (¬ (¬ ((fZ h a0 3) % 2 ^ 1) = 1) ∧ (¬ ((wr (x4 - x3)) ≤ (wr (24 + (3 * (fZ h a0 2))))))))))), h) else rn m_X12_isSplit 10 [.ref a0, .int (mI x1), .int (mI x2), .int (mI (min x3' (gZ h (a0 + 1) (wr (((16 * (x2 + (Int.tdiv x5' 8))) + x1) + (Int.tmod x5' 8)))))), .int (mI (max x4' (gZ h (a0 + 1) (wr (((16 * (x2 + (Int.tdiv x5' 8))) + x1) + (Int.tmod x5' 8)))))), .int (mI (x5 + 1)), .int (mI (gZ h (a0 + 1) (wr (((16 * (x2 + (Int.tdiv x5' 8))) + x1) + (Int.tmod x5' 8)))))] [] h := by
  refine (tq_iload i_X12_isSplit_10 rfl rfl).trans ?_
  refine (tq_bipush i_X12_isSplit_12 rfl).trans ?_
  refine (tq_icmp_ge (pt := 64) i_X12_isSplit_14 w5 w_64 (by decide) rfl).trans ?_
  refine ite_congr rfl (fun c1 => ?_) (fun c1 => ?_)
  · refine (tq_aload_n i_X12_isSplit_64 rfl (isA_ref _) rfl).trans ?_
    refine (tq_getfield i_X12_isSplit_65 (K10_s k1) (g_10_3 (K10_s k1)) (isV_I _) rfl).trans ?_
    refine (tq_iconst i_X12_isSplit_68 rfl).trans ?_
    refine (tq_imask 1 i_X12_isSplit_69 (wr_fZ _ _ _) (by decide) (by decide) rfl).trans ?_
    refine (tq_iconst i_X12_isSplit_70 rfl).trans ?_
    refine (tq_icmp_ne (pt := 94) i_X12_isSplit_71 (wr_mask (by decide)) w_1 (by decide) rfl).trans ?_
    refine Eq.trans (b := if ¬ ((fZ h a0 3) % 2 ^ 1) = 1 then rn m_X12_isSplit 95 [.ref a0, .int (mI x1), .int (mI x2), .int (mI x3), .int (mI x4), .int (mI x5), v6] [.int (mI 0)] h else rn m_X12_isSplit 95 [.ref a0, .int (mI x1), .int (mI x2), .int (mI x3), .int (mI x4), .int (mI x5), v6] [.int (mI (bZ (¬ ((wr (x4 - x3)) ≤ (wr (24 + (3 * (fZ h a0 2))))))))] h) (ite_congr rfl (fun c2 => ?_) (fun c2 => ?_)) ?_
    · refine (tq_iconst i_X12_isSplit_94 rfl).trans ?_
      rfl
    · refine (tq_iload i_X12_isSplit_74 rfl rfl).trans ?_
      refine (tq_iload_n i_X12_isSplit_76 rfl rfl).trans ?_
      refine (tq_isub i_X12_isSplit_77 rfl).trans ?_
      refine (tq_bipush i_X12_isSplit_78 rfl).trans ?_
      refine (tq_iconst i_X12_isSplit_80 rfl).trans ?_
      refine (tq_aload_n i_X12_isSplit_81 rfl (isA_ref _) rfl).trans ?_
      refine (tq_getfield i_X12_isSplit_82 (K10_s k1) (g_10_2 (K10_s k1)) (isV_I _) rfl).trans ?_
      refine (tq_imul i_X12_isSplit_85 rfl).trans ?_
      refine (tq_iadd i_X12_isSplit_86 rfl).trans ?_
      refine (tq_icmp_le (pt := 94) i_X12_isSplit_87 rfl rfl (by decide) rfl).trans ?_
      refine Eq.trans (b := if (wr (x4 - x3)) ≤ (wr (24 + (3 * (fZ h a0 2)))) then rn m_X12_isSplit 95 [.ref a0, .int (mI x1), .int (mI x2), .int (mI x3), .int (mI x4), .int (mI x5), v6] [.int (mI 0)] h else rn m_X12_isSplit 95 [.ref a0, .int (mI x1), .int (mI x2), .int (mI x3), .int (mI x4), .int (mI x5), v6] [.int (mI 1)] h) (ite_congr rfl (fun c3 => ?_) (fun c3 => ?_)) ?_
      · refine (tq_iconst i_X12_isSplit_94 rfl).trans ?_
        rfl
      · refine (tq_iconst i_X12_isSplit_90 rfl).trans ?_
        refine (tq_goto (pc' := 95) i_X12_isSplit_91 (by decide)).trans ?_
        rfl
      exact ite_b01
    refine Eq.trans ite_b0p ?_
    exact tq_ireturn i_X12_isSplit_95 r_X12_isSplit (okB (wr_bZ _) (bZ_01 _))
  · refine (tq_aload_n i_X12_isSplit_17 rfl (isA_ref _) rfl).trans ?_
    refine (tq_getfield i_X12_isSplit_18 (K10_s k1) (gR (g_10_1 (K10_s k1)) (K10_e1 k1)) (isV_ref _) rfl).trans ?_
    refine (tq_bipush i_X12_isSplit_21 rfl).trans ?_
    refine (tq_iload_n i_X12_isSplit_23 rfl rfl).trans ?_
    refine (tq_iload i_X12_isSplit_24 rfl rfl).trans ?_
    refine (tq_bipush i_X12_isSplit_26 rfl).trans ?_
    refine (tq_idiv i_X12_isSplit_28 w5 w_8 (by decide) rfl).trans ?_
    refine (tq_iadd i_X12_isSplit_29 rfl).trans ?_
    refine (tq_imul i_X12_isSplit_30 rfl).trans ?_
    refine (tq_iload_n i_X12_isSplit_31 rfl rfl).trans ?_
    refine (tq_iadd i_X12_isSplit_32 rfl).trans ?_
    refine (tq_iload i_X12_isSplit_33 rfl rfl).trans ?_
    refine (tq_bipush i_X12_isSplit_35 rfl).trans ?_
    refine (tq_irem i_X12_isSplit_37 w5 w_8 (by decide) rfl).trans ?_
    refine (tq_iadd i_X12_isSplit_38 rfl).trans ?_
    refine (tq_iaload i_X12_isSplit_39 (K10_s1 k1) (by decide) rfl (g2 c1).1 (lt_gn (K10_n1 k1) (g2 c1).2) rfl).trans ?_
    refine (tq_istore (L' := [.ref a0, .int (mI x1), .int (mI x2), .int (mI x3), .int (mI x4), .int (mI x5), .int (mI (gZ h (a0 + 1) (wr (((16 * (x2 + (Int.tdiv x5' 8))) + x1) + (Int.tmod x5' 8)))))]) i_X12_isSplit_40 rfl rfl).trans ?_
    refine (tq_iload_n i_X12_isSplit_42 rfl rfl).trans ?_
    refine (tq_iload i_X12_isSplit_43 rfl rfl).trans ?_
    refine (tq_min i_X12_isSplit_45 w3 (wr_gZ _ _ _) (Nat.le_of_ble_eq_true rfl) rfl).trans ?_
    refine (tq_istore_n (L' := [.ref a0, .int (mI x1), .int (mI x2), .int (mI (min x3' (gZ h (a0 + 1) (wr (((16 * (x2 + (Int.tdiv x5' 8))) + x1) + (Int.tmod x5' 8)))))), .int (mI x4), .int (mI x5), .int (mI (gZ h (a0 + 1) (wr (((16 * (x2 + (Int.tdiv x5' 8))) + x1) + (Int.tmod x5' 8)))))]) i_X12_isSplit_48 rfl rfl).trans ?_
    refine (tq_iload i_X12_isSplit_49 rfl rfl).trans ?_
    refine (tq_iload i_X12_isSplit_51 rfl rfl).trans ?_
    refine (tq_max i_X12_isSplit_53 w4 (wr_gZ _ _ _) (Nat.le_of_ble_eq_true rfl) rfl).trans ?_
    refine (tq_istore (L' := [.ref a0, .int (mI x1), .int (mI x2), .int (mI (min x3' (gZ h (a0 + 1) (wr (((16 * (x2 + (Int.tdiv x5' 8))) + x1) + (Int.tmod x5' 8)))))), .int (mI (max x4' (gZ h (a0 + 1) (wr (((16 * (x2 + (Int.tdiv x5' 8))) + x1) + (Int.tmod x5' 8)))))), .int (mI x5), .int (mI (gZ h (a0 + 1) (wr (((16 * (x2 + (Int.tdiv x5' 8))) + x1) + (Int.tmod x5' 8)))))]) i_X12_isSplit_56 rfl rfl).trans ?_
    refine (tq_iinc (L' := [.ref a0, .int (mI x1), .int (mI x2), .int (mI (min x3' (gZ h (a0 + 1) (wr (((16 * (x2 + (Int.tdiv x5' 8))) + x1) + (Int.tmod x5' 8)))))), .int (mI (max x4' (gZ h (a0 + 1) (wr (((16 * (x2 + (Int.tdiv x5' 8))) + x1) + (Int.tmod x5' 8)))))), .int (mI (x5 + 1)), .int (mI (gZ h (a0 + 1) (wr (((16 * (x2 + (Int.tdiv x5' 8))) + x1) + (Int.tmod x5' 8)))))]) i_X12_isSplit_58 rfl rfl rfl).trans ?_
    refine (tq_goto (pc' := 10) i_X12_isSplit_61 (by decide)).trans ?_
    rfl
theorem isSplit12_ok {h : am_H} {M : Nat} {X Y tl q : Int} (k10 : K10 h M) (hc : pixels (gZ h (M + 1))) (e2 : fZ h M 2 = q) (e3 : fZ h M 3 = tl) (ht : 0 ≤ tl ∧ tl ≤ 7) (hq : 1 ≤ q ∧ q ≤ 40) (hX : 0 ≤ X ∧ X ≤ 8) (hY : 0 ≤ Y ∧ Y ≤ 8) : rn m_X12_isSplit 0 [.ref M, .int (mI X), .int (mI Y), am_J, am_J, am_J, am_J] [] h = some (.inl (some (.int (mI (bZ (splitB (gZ h (M + 1)) tl q X Y))))), h) := by
  have hb : ∀ k, 0 ≤ k → k < 64 → 0 ≤ blk (gZ h (M + 1)) X Y k ∧ blk (gZ h (M + 1)) X Y k ≤ 255 := fun k k0 k1 => hc _ (by omega) (by omega)
  rw [b_X12_isSplit_0]
  refine lp (m := m_X12_isSplit) (pc := 10) (L := fun k (z : (Int × Int) × Value) => [.ref M, .int (mI X), .int (mI Y), .int (mI z.1.1), .int (mI z.1.2), .int (mI k), z.2]) (N := 64) (P := fun r => r = some (.inl (some (.int (mI (bZ (splitB (gZ h (M + 1)) tl q X Y))))), h)) (fun k z h' => 0 ≤ k ∧ h' = h ∧ z.1 = (fmn k.toNat (blk (gZ h (M + 1)) X Y), fmx k.toNat (blk (gZ h (M + 1)) X Y))) ?_ ?_ 0 ((255, 0), am_J) h (by omega) ⟨by omega, rfl, rfl⟩
  · intro k z h' hk ⟨k0, e, ez⟩
    obtain ⟨⟨x1, x2⟩, v⟩ := z
    subst e
    simp only [Prod.mk.injEq] at ez
    have fb := fm_b (f := blk (gZ h' (M + 1)) X Y) k.toNat (fun i i0 i1 => hb i i0 (by omega))
    have eb : gZ h' (M + 1) (16 * (Y + k / 8) + X + k % 8) = blk (gZ h' (M + 1)) X Y k := by
      unfold blk
      rw [Int.add_assoc]
    have st := b_X12_isSplit_10 (a0 := M) (x1 := X) (x2 := Y) (v6 := v) (h := h') (wr_id (z := x1) (by omega) (by omega)) (wr_id (z := x2) (by omega) (by omega)) (wr_id (z := k) (by omega) (by omega)) k10
    rw [tdv k0, tmd k0, wr_id (z := 16 * (Y + k / 8) + X + k % 8) (by omega) (by omega)] at st
    have st := st (fun _ => by omega)
    rw [if_neg (by omega), eb, ez.1, ez.2, ← fmn_succ k0, ← fmx_succ k0] at st
    rw [ez.1, ez.2]
    exact ⟨((_, _), _), h', st, by omega, rfl, rfl⟩
  · intro z h' ⟨k0, e, ez⟩
    obtain ⟨⟨x1, x2⟩, v⟩ := z
    subst e
    simp only [Prod.mk.injEq] at ez
    rw [show ((64 : Int)).toNat = 64 by decide] at ez
    have fb := fm_b (f := blk (gZ h' (M + 1)) X Y) 64 (fun i i0 i1 => hb i i0 (by omega))
    have st := b_X12_isSplit_10 (a0 := M) (x1 := X) (x2 := Y) (v6 := v) (h := h') (wr_id (z := x1) (by omega) (by omega)) (wr_id (z := x2) (by omega) (by omega)) (wr_id (z := 64) (by omega) (by omega)) k10 (fun _ => by omega)
    rw [if_pos (by omega), e2, e3, ez.1, ez.2, wr_id (z := fmx 64 (blk (gZ h' (M + 1)) X Y) - fmn 64 (blk (gZ h' (M + 1)) X Y)) (by omega) (by omega), wr_id (z := 24 + 3 * q) (by omega) (by omega), pw1] at st
    simp only
    rw [ez.1, ez.2, st]
    rw [bZ_congr (q := splitB (gZ h' (M + 1)) tl q X Y) (by unfold splitB; omega)]
def pdm (h : am_H) (N W : Nat) : Nat → Int → Int := fun n s => match n with
  | 0 => gZ h W (rs s)
  | 1 => gZ h (N + 1) (rs s)
  | 2 => used1 (gZ h (N + 1) (rs s)) (100 * (gZ h (N + 2) (4 * rs s) + 8) + gZ h (N + 2) (4 * rs s + 1) + 8)
  | 3 => used2 (gZ h (N + 1) (rs s)) (100 * (gZ h (N + 2) (4 * rs s + 2) + 8) + gZ h (N + 2) (4 * rs s + 3) + 8)
  | _ => gZ h (N + 3) s
theorem enc_v {v : Int} (h : okv v) : 100 * (vX v + 8) + vY v + 8 = v := by unfold vX vY; omega
theorem partSame_agr {h h' : am_H} {N W : Nat} {i : Int} (hi : i ≤ 16) (w : ∀ j, gZ h' W j = gZ h W j) (s : ∀ t, 0 ≤ t → t < i → partSame h h' N t) : agr i (pdm h N W) (pdm h' N W) (gZ h N) (gZ h' N) := by
  intro t t0 t1
  obtain ⟨a1, a2, a3⟩ := s t t0 t1
  have b0 := a2 0 (by decide) (by decide)
  have b1 := a2 1 (by decide) (by decide)
  have b2 := a2 2 (by decide) (by decide)
  have b3 := a2 3 (by decide) (by decide)
  rw [Int.add_zero] at b0
  refine ⟨⟨(w _).symm, a1.symm, ?_, ?_⟩, fun k k0 k1 => ⟨(a3 k k0 k1).1.symm, (a3 k k0 k1).2.symm⟩⟩
  · show used1 _ _ = used1 _ _
    rw [a1, b0, b1]
  · show used2 _ _ = used2 _ _
    rw [a1, b2, b3]
theorem partDone_cod {h h' : am_H} {N W : Nat} {c f1 f2 p : Int → Int} {kd tl sl q X Y Z s : Int} (hk : isKind kd) (ep : gZ h N = p) (hs : 0 ≤ s ∧ s < 16) (li : lies X Y Z (tp sl Y)) (hin : inPart X Y Z s) (ez : gZ h' W (rs s) = Z) (e1 : Z = if splitB c tl q (8 * (s / 4 % 2)) (8 * (s / 8 % 2)) then 4 else 8) (sm : ∀ t, 0 ≤ t → t < 16 → ¬ inPart X Y Z t → partSame h h' N t) (d : partDone h h' N c f1 f2 p kd tl sl q X Y Z s) : Cod c f1 f2 kd tl sl q (pdm h' N W) (gZ h' N) s := by
  obtain ⟨d1, d2, d3, d4⟩ := d
  have nb := nmo_b hk
  have cb := cmo_b (tl := tl) (c := c) (p := p) (f1 := f1) (f2 := f2) (X := X) (Y := Y) (Z := Z) (T := tp sl Y) hk
  have cxb := cx_b s
  have cyb := cy_b s
  have l1 := li.1
  have geo : X0 (pdm h' N W 0) s = X ∧ Y0 (pdm h' N W 0) s = Y ∧ SZ (pdm h' N W 0) s = Z := by
    have z0 : pdm h' N W 0 s = Z := ez
    have hin' := hin
    unfold inPart at hin'
    unfold X0 Y0 SZ
    rw [z0]
    rcases l1 with ⟨rfl, hX, hY⟩ | ⟨rfl, hX, hY⟩
    · rw [if_pos rfl, if_pos rfl, if_pos rfl]
      omega
    · rw [if_neg (by decide), if_neg (by decide), if_neg (by decide)]
      have u1 : 8 * (s / 4 % 2) ≤ cx s ∧ cx s ≤ 8 * (s / 4 % 2) + 4 := by unfold cx; omega
      have u2 : 8 * (s / 8 % 2) ≤ cy s ∧ cy s ≤ 8 * (s / 8 % 2) + 4 := by unfold cy; omega
      omega
  obtain ⟨gX, gY, gZ'⟩ := geo
  have ag : agp (sq X Y) p (gZ h' N) := by
    intro x y x0 x1 y0 y1 hsq
    obtain ⟨e, q0, q1⟩ := pl_xy ⟨x0, x1⟩ ⟨y0, y1⟩
    have np : ¬ inPart X Y Z (sq x y) := by
      intro hi
      unfold inPart at hi
      have u1 : cx (sq x y) = 4 * (x / 4) ∧ cy (sq x y) = 4 * (y / 4) := by
        have e : sq x y = sq (4 * (x / 4)) (4 * (y / 4)) := by unfold sq; omega
        obtain ⟨v1, v2, -⟩ := sq_xy (x := 4 * (x / 4)) (y := 4 * (y / 4)) (by omega) (by omega) (by omega) (by omega)
        rw [e]
        exact ⟨v1, v2⟩
      rw [u1.1, u1.2] at hi
      unfold sq at hsq
      rcases l1 with ⟨rfl, hX, hY⟩ | ⟨rfl, hX, hY⟩
      · have : x / 4 = X / 4 ∧ y / 4 = Y / 4 := by omega
        omega
      · have : x / 8 = X / 8 ∧ y / 8 = Y / 8 := by omega
        omega
    have := (sm _ q0 q1 np).2.2 (4 * (y % 4) + x % 4) (by omega) (by omega)
    rw [e] at this
    rw [this.2, ep]
  have m1 : pdm h' N W 1 s = cmo kd tl c p f1 f2 X Y Z (tp sl Y) := d1
  have w1 : pdm h' N W 2 s = used1 (cmo kd tl c p f1 f2 X Y Z (tp sl Y)) (cv1 kd tl c f1 X Y Z) := by
    show used1 _ _ = _
    rw [d1]
    unfold used1
    split
    · rename_i hu
      have kk := nb.2.1 (by omega)
      obtain ⟨u1, u2⟩ := d2 kk
      rw [u1, u2]
      exact enc_v (by unfold cv1; rw [if_neg kk]; exact bestv_okv (stp_ok tl))
    · rfl
  have w2 : pdm h' N W 3 s = used2 (cmo kd tl c p f1 f2 X Y Z (tp sl Y)) (cv2 kd tl c f2 X Y Z) := by
    show used2 _ _ = _
    rw [d1]
    unfold used2
    split
    · rename_i hu
      have kk := nb.2.2 (by omega)
      obtain ⟨u1, u2⟩ := d3 kk
      rw [u1, u2]
      exact enc_v (by unfold cv2; rw [if_pos kk]; exact bestv_okv (stp_ok tl))
    · rfl
  have gq : ∀ k, 0 ≤ k ∧ k < 16 → Gq (pdm h' N W) f1 f2 sl (gZ h' N) s (cx s + k % 4) (cy s + k / 4) = gss p f1 f2 X Y Z (tp sl Y) (cmo kd tl c p f1 f2 X Y Z (tp sl Y)) (cv1 kd tl c f1 X Y Z) (cv2 kd tl c f2 X Y Z) (cx s + k % 4) (cy s + k / 4) := by
    intro k hk2
    have inp := in_part (z := pdm h' N W 0) hs hk2
    rw [gX, gY, gZ'] at inp
    unfold Gq
    rw [gX, gY, gZ', m1, w1, w2, gss_used (by omega)]
    exact (gss_loc li ag inp.1 inp.2).symm
  refine ⟨?_, ?_, ?_, ?_⟩
  · show gZ h' W (rs s) = _
    rw [ez]
    exact e1
  · unfold E2
    rw [gX, gY, gZ', m1, w1, w2, ← cmo_loc li ag]
    exact ⟨rfl, rfl, rfl⟩
  · intro k k0 k1
    show gZ h' (N + 3) (pl s k) = _
    rw [(d4 k k0 k1).1]
    rw [hd_congr fun j j0 j1 => by rw [← gq j ⟨j0, j1⟩]]
  · intro k k0 k1
    rw [(d4 k k0 k1).2, gq k ⟨k0, k1⟩]
    rfl
/-- the vectors that a part uses are near -/
def okw (z : Int) : Prop := -8 ≤ z ∧ z ≤ 8
def VB (h : am_H) (N : Nat) (s : Int) : Prop := ((gZ h (N + 1) (rs s) = 4 ∨ gZ h (N + 1) (rs s) = 6) → okw (gZ h (N + 2) (4 * rs s)) ∧ okw (gZ h (N + 2) (4 * rs s + 1))) ∧ ((gZ h (N + 1) (rs s) = 5 ∨ gZ h (N + 1) (rs s) = 6) → okw (gZ h (N + 2) (4 * rs s + 2)) ∧ okw (gZ h (N + 2) (4 * rs s + 3)))
theorem VB_same {h h' : am_H} {N : Nat} {s : Int} (p : partSame h h' N s) (v : VB h N s) : VB h' N s := by
  obtain ⟨a1, a2, -⟩ := p
  have b0 := a2 0 (by decide) (by decide)
  rw [Int.add_zero] at b0
  unfold VB at *
  rw [a1, b0, a2 1 (by decide) (by decide), a2 2 (by decide) (by decide), a2 3 (by decide) (by decide)]
  exact v
theorem VB_md {h h' : am_H} {N : Nat} {s : Int} (e1 : gZ h' (N + 1) = gZ h (N + 1)) (e2 : gZ h' (N + 2) = gZ h (N + 2)) (v : VB h N s) : VB h' N s := by
  unfold VB at *
  rw [e1, e2]
  exact v
theorem okv_w {v : Int} (h : okv v) : okw (vX v) ∧ okw (vY v) := by unfold okv at h; unfold okw vX vY; omega
theorem VB_done {h h' : am_H} {N : Nat} {c f1 f2 p : Int → Int} {kd tl sl q X Y Z s : Int} (hk : isKind kd) (d : partDone h h' N c f1 f2 p kd tl sl q X Y Z s) : VB h' N s := by
  obtain ⟨d1, d2, d3, d4⟩ := d
  have nb := nmo_b hk
  have cb := cmo_b (tl := tl) (c := c) (p := p) (f1 := f1) (f2 := f2) (X := X) (Y := Y) (Z := Z) (T := tp sl Y) hk
  unfold VB
  rw [d1]
  refine ⟨fun hu => ?_, fun hu => ?_⟩
  · have kk := nb.2.1 (by omega)
    obtain ⟨u1, u2⟩ := d2 kk
    rw [u1, u2]
    exact okv_w (by unfold cv1; rw [if_neg kk]; exact bestv_okv (stp_ok tl))
  · have kk := nb.2.2 (by omega)
    obtain ⟨u1, u2⟩ := d3 kk
    rw [u1, u2]
    exact okv_w (by unfold cv2; rw [if_pos kk]; exact bestv_okv (stp_ok tl))
def CodM (c f1 f2 : Int → Int) (kd tl sl q : Int) (h : am_H) (N W : Nat) (s : Int) : Prop := Cod c f1 f2 kd tl sl q (pdm h N W) (gZ h N) s ∧ VB h N s
