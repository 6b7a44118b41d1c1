/-! ===== the class's canvas ===== -/
def stc (σ : St) (c : Int → Int) : St := (σ.1, c, σ.2.2)
section CV
variable {σ : St} {h h' : am_H} {D : Nat}
theorem RC_al (rc : RC σ h D) : ((51 < D ∨ D = 7) ∧ 51 < hnx h) ∧ D + 8 < hnx h ∧ 51 < hnx h := by
  obtain ⟨-, ⟨-, -, a, b⟩, -⟩ := rc
  exact ⟨a, b, by omega⟩
theorem RC_cv (m : Md (fun a _ => a = 3 ∨ a = 4) h h') (rc : RC σ h D) : RC (stc σ (gZ h' 3)) h' D := by
  obtain ⟨a1, a2, al⟩ := RC_al rc
  obtain ⟨r1, r2, r6, r7, r8, r9, r10, rw⟩ := rc
  exact ⟨K9_sm m.1 r1, RCD_fr (md_fr m) al (by omega) r2, rfl, RCs_fr (σ := σ) (md_fr m) al (fun k _ => by omega) (fun k _ => by omega) r7, RCk_fr (σ := σ) (md_fr m) al (by omega) r8, RCp_fr (σ := σ) (md_fr m) al (by omega) (fun a k q w => by have := q.1; omega) r9, RCd_fr (σ := σ) (md_fr m) al (fun a k a0 _ => by omega) r10, RW_fr (md_fr m) al (by omega) rw⟩
theorem sm_gap {f : Int → Int} {a : Int} : ∀ (n : Nat), 0 ≤ a → (∀ i, a ≤ i → i < a + n → f i = 0) → sm (a + n).toNat f = sm a.toNat f
  | 0, _, _ => by rw [show a + ((0 : Nat) : Int) = a by omega]
  | n + 1, h0, h1 => by
    have ih := sm_gap (f := f) (a := a) n h0 (fun i i0 i1 => h1 i i0 (by omega))
    rw [show a + ((n + 1 : Nat) : Int) = a + n + 1 by omega, sm_succ (by omega), ih, h1 (a + n) (by omega) (by omega)]
    omega
theorem sm_gap2 {f : Int → Int} {a b : Int} (h0 : 0 ≤ a) (hab : a ≤ b) (h1 : ∀ i, a ≤ i → i < b → f i = 0) : sm b.toNat f = sm a.toNat f := by
  have := sm_gap (f := f) (a := a) (b - a).toNat h0 (fun i i0 i1 => h1 i i0 (by omega))
  rw [show a + ((b - a).toNat : Int) = b by omega] at this
  exact this
/-- the rectangle, up to a place -/
def inF (x y w v k : Int) : Prop := (x ≤ k % 16 ∧ k % 16 < x + w) ∧ y ≤ k / 16 ∧ k / 16 < y + v
def flT (c : Int → Int) (x y w v b T : Int) : Int → Int := fun k => if (0 ≤ k ∧ k < 256) ∧ ((x ≤ k % 16 ∧ k % 16 < x + w) ∧ y ≤ k / 16 ∧ k / 16 < y + v) ∧ k < T then b else c k
def flN (c : Int → Int) (x y w v b T : Int) : Int := sm T.toNat (fun k => if ((x ≤ k % 16 ∧ k % 16 < x + w) ∧ y ≤ k / 16 ∧ k / 16 < y + v) ∧ c k ≠ b then 1 else 0)
def isF (x y w v b : Int) : Prop := ((0 ≤ x ∧ x < 16) ∧ 0 ≤ y ∧ y < 16) ∧ ((1 ≤ w ∧ w ≤ 16 - x) ∧ 1 ≤ v ∧ v ≤ 16 - y) ∧ 0 ≤ b ∧ b ≤ 255
theorem flT_gap {c : Int → Int} {x y w v b T T' : Int} (h1 : T ≤ T') (h2 : ∀ k, T ≤ k → k < T' → 0 ≤ k → k < 256 → ¬ inF x y w v k) : flT c x y w v b T' = flT c x y w v b T := by
  funext k
  unfold flT
  by_cases c1 : (0 ≤ k ∧ k < 256) ∧ ((x ≤ k % 16 ∧ k % 16 < x + w) ∧ y ≤ k / 16 ∧ k / 16 < y + v) ∧ k < T
  · rw [if_pos c1, if_pos ⟨c1.1, c1.2.1, by omega⟩]
  · rw [if_neg c1, if_neg]
    intro q
    by_cases c2 : k < T
    · exact c1 ⟨q.1, q.2.1, c2⟩
    · exact h2 k (by omega) q.2.2 q.1.1 q.1.2 q.2.1
theorem flN_gap {c : Int → Int} {x y w v b T T' : Int} (h0 : 0 ≤ T) (h1 : T ≤ T') (h2 : ∀ k, T ≤ k → k < T' → ¬ inF x y w v k) : flN c x y w v b T' = flN c x y w v b T := by
  unfold flN
  exact sm_gap2 h0 h1 fun i i0 i1 => if_neg fun q => h2 i i0 i1 q.1
theorem flN_b (c : Int → Int) (x y w v b T : Int) : 0 ≤ flN c x y w v b T ∧ flN c x y w v b T ≤ T.toNat := sm_01 _ fun i _ _ => by split <;> simp
theorem i_X11_fill_0 : am_i m_X11_fill 0 = some (0, .iload_n 1, 1, [], 0) := rfl
theorem i_X11_fill_1 : am_i m_X11_fill 1 = some (1, .iload_n 2, 1, [], 0) := rfl
theorem i_X11_fill_2 : am_i m_X11_fill 2 = some (2, .invokestatic 82, 3, [9], 0) := rfl
theorem i_X11_fill_5 : am_i m_X11_fill 5 = some (5, .ifCond .eq 31, 3, [], 0) := rfl
theorem i_X11_fill_8 : am_i m_X11_fill 8 = some (8, .iload_n 3, 1, [], 0) := rfl
theorem i_X11_fill_9 : am_i m_X11_fill 9 = some (9, .iconst 1, 1, [], 1) := rfl
theorem i_X11_fill_10 : am_i m_X11_fill 10 = some (10, .if_icmp .lt 26, 3, [], 0) := rfl
theorem i_X11_fill_13 : am_i m_X11_fill 13 = some (13, .iload_n 3, 1, [], 0) := rfl
theorem i_X11_fill_14 : am_i m_X11_fill 14 = some (14, .bipush 16, 2, [], 16) := rfl
theorem i_X11_fill_16 : am_i m_X11_fill 16 = some (16, .iload_n 1, 1, [], 0) := rfl
theorem i_X11_fill_17 : am_i m_X11_fill 17 = some (17, .isub, 1, [], 0) := rfl
theorem i_X11_fill_18 : am_i m_X11_fill 18 = some (18, .if_icmp .gt 18, 3, [], 0) := rfl
theorem i_X11_fill_21 : am_i m_X11_fill 21 = some (21, .iload 4, 2, [], 0) := rfl
theorem i_X11_fill_23 : am_i m_X11_fill 23 = some (23, .iconst 1, 1, [], 1) := rfl
theorem i_X11_fill_24 : am_i m_X11_fill 24 = some (24, .if_icmp .lt 12, 3, [], 0) := rfl
theorem i_X11_fill_27 : am_i m_X11_fill 27 = some (27, .iload 4, 2, [], 0) := rfl
theorem i_X11_fill_29 : am_i m_X11_fill 29 = some (29, .bipush 16, 2, [], 16) := rfl
theorem i_X11_fill_31 : am_i m_X11_fill 31 = some (31, .iload_n 2, 1, [], 0) := rfl
theorem i_X11_fill_32 : am_i m_X11_fill 32 = some (32, .isub, 1, [], 0) := rfl
theorem i_X11_fill_33 : am_i m_X11_fill 33 = some (33, .if_icmp .le 13, 3, [], 0) := rfl
theorem i_X11_fill_36 : am_i m_X11_fill 36 = some (36, .new 86, 3, [0, 0], 0) := rfl
theorem i_X11_fill_46 : am_i m_X11_fill 46 = some (46, .iload 5, 2, [], 0) := rfl
theorem i_X11_fill_48 : am_i m_X11_fill 48 = some (48, .invokestatic 93, 3, [10], 0) := rfl
theorem i_X11_fill_51 : am_i m_X11_fill 51 = some (51, .ifCond .ne 13, 3, [], 0) := rfl
theorem i_X11_fill_54 : am_i m_X11_fill 54 = some (54, .new 86, 3, [0, 0], 0) := rfl
theorem i_X11_fill_64 : am_i m_X11_fill 64 = some (64, .iconst 0, 1, [], 0) := rfl
theorem i_X11_fill_65 : am_i m_X11_fill 65 = some (65, .istore 6, 2, [], 0) := rfl
theorem i_X11_fill_67 : am_i m_X11_fill 67 = some (67, .iload_n 2, 1, [], 0) := rfl
theorem i_X11_fill_68 : am_i m_X11_fill 68 = some (68, .istore 7, 2, [], 0) := rfl
theorem b_X11_fill_0 {a0 : Nat} {x1 x2 x3 x4 x5 x1' x2' x3' x4' x5' : Int} {h : am_H} (w1 : wr x1 = x1') (w2 : wr x2 = x2') (w3 : wr x3 = x3') (w4 : wr x4 = x4') (w5 : wr x5 = x5') : rn m_X11_fill 0 [.ref a0, .int (mI x1), .int (mI x2), .int (mI x3), .int (mI x4), .int (mI x5), am_J, am_J, am_J, am_J] [] h = if (¬ (x1' < 0) ∧ (¬ (16 ≤ x1') ∧ (¬ (x2' < 0) ∧ (¬ (16 ≤ x2'))))) then if x3' < 1 then some (.inr 0, hexc h) else if (wr (16 - x1)) < x3' then some (.inr 0, hexc h) else if x4' < 1 then some (.inr 0, hexc h) else if x4' ≤ (wr (16 - x2)) then if (¬ (x5' < 0) ∧ (¬ (255 < x5'))) then rn m_X11_fill 70 [.ref a0, .int (mI x1), .int (mI x2), .int (mI x3), .int (mI x4), .int (mI x5), .int (mI 0), .int (mI x2), am_J, am_J] [] h else some (.inr 0, hexc h) else some (.inr 0, hexc h) else some (.inr 0, hexc h) := by
  refine (tq_iload_n i_X11_fill_0 rfl rfl).trans ?_
  refine (tq_iload_n i_X11_fill_1 rfl rfl).trans ?_
  refine (c_X11_isOnCanvas i_X11_fill_2 (ltd d_X11_fill (by decide)) stOk_0 rfl).trans ?_
  refine (congrArg (cl _ _ _ _) (b_X11_isOnCanvas_0 w1 w2)).trans ?_
  refine (cl_v _ _ _ _ _ _).trans ?_
  refine (tq_ifb_eq (pt := 36) i_X11_fill_5 (by decide) rfl).trans ?_
  refine ite_congr rfl (fun c1 => ?_) (fun c1 => ?_)
  · refine (tq_iload_n i_X11_fill_8 rfl rfl).trans ?_
    refine (tq_iconst i_X11_fill_9 rfl).trans ?_
    refine (tq_icmp_lt (pt := 36) i_X11_fill_10 w3 w_1 (by decide) rfl).trans ?_
    refine ite_congr rfl (fun c2 => ?_) (fun c2 => ?_)
    · exact tq_newx i_X11_fill_36
    · refine (tq_iload_n i_X11_fill_13 rfl rfl).trans ?_
      refine (tq_bipush i_X11_fill_14 rfl).trans ?_
      refine (tq_iload_n i_X11_fill_16 rfl rfl).trans ?_
      refine (tq_isub i_X11_fill_17 rfl).trans ?_
      refine (tq_icmp_gt (pt := 36) i_X11_fill_18 w3 rfl (by decide) rfl).trans ?_
      refine ite_congr rfl (fun c3 => ?_) (fun c3 => ?_)
      · exact tq_newx i_X11_fill_36
      · refine (tq_iload i_X11_fill_21 rfl rfl).trans ?_
        refine (tq_iconst i_X11_fill_23 rfl).trans ?_
        refine (tq_icmp_lt (pt := 36) i_X11_fill_24 w4 w_1 (by decide) rfl).trans ?_
        refine ite_congr rfl (fun c4 => ?_) (fun c4 => ?_)
        · exact tq_newx i_X11_fill_36
        · refine (tq_iload i_X11_fill_27 rfl rfl).trans ?_
          refine (tq_bipush i_X11_fill_29 rfl).trans ?_
          refine (tq_iload_n i_X11_fill_31 rfl rfl).trans ?_
          refine (tq_isub i_X11_fill_32 rfl).trans ?_
          refine (tq_icmp_le (pt := 46) i_X11_fill_33 w4 rfl (by decide) rfl).trans ?_
          refine ite_congr rfl (fun c5 => ?_) (fun c5 => ?_)
          · refine (tq_iload i_X11_fill_46 rfl rfl).trans ?_
            refine (c_X11_isValue i_X11_fill_48 (ltd d_X11_fill (by decide)) stOk_0 rfl).trans ?_
            refine (congrArg (cl _ _ _ _) (b_X11_isValue_0 w5)).trans ?_
            refine (cl_v _ _ _ _ _ _).trans ?_
            refine (tq_ifb_ne (pt := 64) i_X11_fill_51 (by decide) rfl).trans ?_
            refine ite_congr rfl (fun c6 => ?_) (fun c6 => ?_)
            · refine (tq_iconst i_X11_fill_64 rfl).trans ?_
              refine (tq_istore (L' := [.ref a0, .int (mI x1), .int (mI x2), .int (mI x3), .int (mI x4), .int (mI x5), .int (mI 0), am_J, am_J, am_J]) i_X11_fill_65 rfl rfl).trans ?_
              refine (tq_iload_n i_X11_fill_67 rfl rfl).trans ?_
              refine (tq_istore (L' := [.ref a0, .int (mI x1), .int (mI x2), .int (mI x3), .int (mI x4), .int (mI x5), .int (mI 0), .int (mI x2), am_J, am_J]) i_X11_fill_68 rfl rfl).trans ?_
              rfl
            · exact tq_newx i_X11_fill_54
          · exact tq_newx i_X11_fill_36
  · exact tq_newx i_X11_fill_36
theorem i_X11_fill_70 : am_i m_X11_fill 70 = some (70, .iload 7, 2, [], 0) := rfl
theorem i_X11_fill_72 : am_i m_X11_fill 72 = some (72, .iload_n 2, 1, [], 0) := rfl
theorem i_X11_fill_73 : am_i m_X11_fill 73 = some (73, .iload 4, 2, [], 0) := rfl
theorem i_X11_fill_75 : am_i m_X11_fill 75 = some (75, .iadd, 1, [], 0) := rfl
theorem i_X11_fill_76 : am_i m_X11_fill 76 = some (76, .if_icmp .ge 63, 3, [], 0) := rfl
theorem i_X11_fill_79 : am_i m_X11_fill 79 = some (79, .iload_n 1, 1, [], 0) := rfl
theorem i_X11_fill_80 : am_i m_X11_fill 80 = some (80, .istore 8, 2, [], 0) := rfl
theorem i_X11_fill_139 : am_i m_X11_fill 139 = some (139, .iload 6, 2, [], 0) := rfl
theorem i_X11_fill_141 : am_i m_X11_fill 141 = some (141, .ireturn, 1, [], 0) := rfl
theorem b_X11_fill_70 {a0 : Nat} {x1 x2 x3 x4 x5 x6 x7 x7' : Int} {v8 v9 : Value} {h : am_H} (w7 : wr x7 = x7') : rn m_X11_fill 70 [.ref a0, .int (mI x1), .int (mI x2), .int (mI x3), .int (mI x4), .int (mI x5), .int (mI x6), .int (mI x7), v8, v9] [] h = if (wr (x2 + x4)) ≤ x7' then some (.inl (some (.int (mI x6))), h) else rn m_X11_fill 82 [.ref a0, .int (mI x1), .int (mI x2), .int (mI x3), .int (mI x4), .int (mI x5), .int (mI x6), .int (mI x7), .int (mI x1), v9] [] h := by
  refine (tq_iload i_X11_fill_70 rfl rfl).trans ?_
  refine (tq_iload_n i_X11_fill_72 rfl rfl).trans ?_
  refine (tq_iload i_X11_fill_73 rfl rfl).trans ?_
  refine (tq_iadd i_X11_fill_75 rfl).trans ?_
  refine (tq_icmp_ge (pt := 139) i_X11_fill_76 w7 rfl (by decide) rfl).trans ?_
  refine ite_congr rfl (fun c1 => ?_) (fun c1 => ?_)
  · refine (tq_iload i_X11_fill_139 rfl rfl).trans ?_
    exact tq_ireturn i_X11_fill_141 r_X11_fill rfl
  · refine (tq_iload_n i_X11_fill_79 rfl rfl).trans ?_
    refine (tq_istore (L' := [.ref a0, .int (mI x1), .int (mI x2), .int (mI x3), .int (mI x4), .int (mI x5), .int (mI x6), .int (mI x7), .int (mI x1), v9]) i_X11_fill_80 rfl rfl).trans ?_
    rfl
theorem i_X11_fill_82 : am_i m_X11_fill 82 = some (82, .iload 8, 2, [], 0) := rfl
theorem i_X11_fill_84 : am_i m_X11_fill 84 = some (84, .iload_n 1, 1, [], 0) := rfl
theorem i_X11_fill_85 : am_i m_X11_fill 85 = some (85, .iload_n 3, 1, [], 0) := rfl
theorem i_X11_fill_86 : am_i m_X11_fill 86 = some (86, .iadd, 1, [], 0) := rfl
theorem i_X11_fill_87 : am_i m_X11_fill 87 = some (87, .if_icmp .ge 46, 3, [], 0) := rfl
theorem i_X11_fill_90 : am_i m_X11_fill 90 = some (90, .iload 8, 2, [], 0) := rfl
theorem i_X11_fill_92 : am_i m_X11_fill 92 = some (92, .iload 7, 2, [], 0) := rfl
theorem i_X11_fill_94 : am_i m_X11_fill 94 = some (94, .invokestatic 99, 3, [13], 0) := rfl
theorem i_X11_fill_97 : am_i m_X11_fill 97 = some (97, .istore 9, 2, [], 0) := rfl
theorem i_X11_fill_99 : am_i m_X11_fill 99 = some (99, .aload_n 0, 1, [], 0) := rfl
theorem i_X11_fill_100 : am_i m_X11_fill 100 = some (100, .getfield 9, 3, [9, 0, 0], 0) := rfl
theorem i_X11_fill_103 : am_i m_X11_fill 103 = some (103, .iload 9, 2, [], 0) := rfl
theorem i_X11_fill_105 : am_i m_X11_fill 105 = some (105, .invokestatic 103, 3, [32], 0) := rfl
theorem i_X11_fill_108 : am_i m_X11_fill 108 = some (108, .iload 5, 2, [], 0) := rfl
theorem i_X11_fill_110 : am_i m_X11_fill 110 = some (110, .if_icmp .eq 17, 3, [], 0) := rfl
theorem i_X11_fill_113 : am_i m_X11_fill 113 = some (113, .aload_n 0, 1, [], 0) := rfl
theorem i_X11_fill_114 : am_i m_X11_fill 114 = some (114, .getfield 9, 3, [9, 0, 0], 0) := rfl
theorem i_X11_fill_117 : am_i m_X11_fill 117 = some (117, .iload 9, 2, [], 0) := rfl
theorem i_X11_fill_119 : am_i m_X11_fill 119 = some (119, .iload 5, 2, [], 0) := rfl
theorem i_X11_fill_121 : am_i m_X11_fill 121 = some (121, .invokestatic 109, 3, [33], 0) := rfl
theorem i_X11_fill_124 : am_i m_X11_fill 124 = some (124, .iinc 6 1, 3, [], 0) := rfl
theorem i_X11_fill_127 : am_i m_X11_fill 127 = some (127, .iinc 8 1, 3, [], 0) := rfl
theorem i_X11_fill_130 : am_i m_X11_fill 130 = some (130, .goto (-48), 3, [], 0) := rfl
theorem i_X11_fill_133 : am_i m_X11_fill 133 = some (133, .iinc 7 1, 3, [], 0) := rfl
theorem i_X11_fill_136 : am_i m_X11_fill 136 = some (136, .goto (-66), 3, [], 0) := rfl
theorem b_X11_fill_82 {a0 : Nat} {x1 x2 x3 x4 x5 x6 x7 x8 x5' x8' : Int} {v9 : Value} {h : am_H} (w5 : wr x5 = x5') (w8 : wr x8 = x8') (k1 : K9 h a0) (g2 : (¬ ((wr (x1 + x3)) ≤ x8')) → (0 ≤ (wr ((16 * x7) + x8)) ∧ (wr ((16 * x7) + x8)) < (256 : Int))) : rn m_X11_fill 82 [.ref a0, .int (mI x1), .int (mI x2), .int (mI x3), .int (mI x4), .int (mI x5), .int (mI x6), .int (mI x7), .int (mI x8), v9] [] h = if (wr (x1 + x3)) ≤ x8' then rn m_X11_fill 70 [.ref a0, .int (mI x1), .int (mI x2), .int (mI x3), .int (mI x4), .int (mI x5), .int (mI x6), .int (mI (x7 + 1)), .int (mI x8), v9] [] h else if (gZ h (a0 + 1) (wr ((16 * x7) + x8))) = x5' then rn m_X11_fill 82 [.ref a0, .int (mI x1), .int (mI x2), .int (mI x3), .int (mI x4), .int (mI x5), .int (mI x6), .int (mI x7), .int (mI (x8 + 1)), .int (mI ((16 * x7) + x8))] [] h else rn m_X11_fill 82 [.ref a0, .int (mI x1), .int (mI x2), .int (mI x3), .int (mI x4), .int (mI x5), .int (mI (x6 + 1)), .int (mI x7), .int (mI (x8 + 1)), .int (mI ((16 * x7) + x8))] [] (uZ h (a0 + 1) (wr ((16 * x7) + x8)) x5) := by
  refine (tq_iload i_X11_fill_82 rfl rfl).trans ?_
  refine (tq_iload_n i_X11_fill_84 rfl rfl).trans ?_
  refine (tq_iload_n i_X11_fill_85 rfl rfl).trans ?_
  refine (tq_iadd i_X11_fill_86 rfl).trans ?_
  refine (tq_icmp_ge (pt := 133) i_X11_fill_87 w8 rfl (by decide) rfl).trans ?_
  refine ite_congr rfl (fun c1 => ?_) (fun c1 => ?_)
  · refine (tq_iinc (L' := [.ref a0, .int (mI x1), .int (mI x2), .int (mI x3), .int (mI x4), .int (mI x5), .int (mI x6), .int (mI (x7 + 1)), .int (mI x8), v9]) i_X11_fill_133 rfl rfl rfl).trans ?_
    refine (tq_goto (pc' := 70) i_X11_fill_136 (by decide)).trans ?_
    rfl
  · refine (tq_iload i_X11_fill_90 rfl rfl).trans ?_
    refine (tq_iload i_X11_fill_92 rfl rfl).trans ?_
    refine (c_X11_placeOf i_X11_fill_94 (ltd d_X11_fill (by decide)) stOk_0 rfl).trans ?_
    refine (congrArg (cl _ _ _ _) (b_X11_placeOf_0)).trans ?_
    refine (cl_v _ _ _ _ _ _).trans ?_
    refine (tq_istore (L' := [.ref a0, .int (mI x1), .int (mI x2), .int (mI x3), .int (mI x4), .int (mI x5), .int (mI x6), .int (mI x7), .int (mI x8), .int (mI ((16 * x7) + x8))]) i_X11_fill_97 rfl rfl).trans ?_
    refine (tq_aload_n i_X11_fill_99 rfl (isA_ref _) rfl).trans ?_
    refine (tq_getfield i_X11_fill_100 (K9_s k1) (gR (g_9_0 (K9_s k1)) (K9_e0 k1)) (isV_ref _) rfl).trans ?_
    refine (tq_iload i_X11_fill_103 rfl rfl).trans ?_
    refine (c_X7_get i_X11_fill_105 (ltd d_X11_fill (by decide)) (isA_ref _) stOk_0 rfl).trans ?_
    refine (congrArg (cl _ _ _ _) (get_ok rfl (K9_n0 k1) (K9_s0 k1) (by decide) (g2 c1))).trans ?_
    refine (cl_v _ _ _ _ _ _).trans ?_
    refine (tq_iload i_X11_fill_108 rfl rfl).trans ?_
    refine (tq_icmp_eq (pt := 127) i_X11_fill_110 (wr_gZ _ _ _) w5 (by decide) rfl).trans ?_
    refine ite_congr rfl (fun c2 => ?_) (fun c2 => ?_)
    · refine (tq_iinc (L' := [.ref a0, .int (mI x1), .int (mI x2), .int (mI x3), .int (mI x4), .int (mI x5), .int (mI x6), .int (mI x7), .int (mI (x8 + 1)), .int (mI ((16 * x7) + x8))]) i_X11_fill_127 rfl rfl rfl).trans ?_
      refine (tq_goto (pc' := 82) i_X11_fill_130 (by decide)).trans ?_
      rfl
    · refine (tq_aload_n i_X11_fill_113 rfl (isA_ref _) rfl).trans ?_
      refine (tq_getfield i_X11_fill_114 (K9_s k1) (gR (g_9_0 (K9_s k1)) (K9_e0 k1)) (isV_ref _) rfl).trans ?_
      refine (tq_iload i_X11_fill_117 rfl rfl).trans ?_
      refine (tq_iload i_X11_fill_119 rfl rfl).trans ?_
      refine (c_X7_put i_X11_fill_121 (ltd d_X11_fill (by decide)) (isA_ref _) stOk_0 rfl).trans ?_
      refine (congrArg (cl _ _ _ _) (put_ok rfl (K9_n0 k1) (K9_s0 k1) (g2 c1))).trans ?_
      refine (cl_n _ _ _ _ _).trans ?_
      refine (tq_iinc (L' := [.ref a0, .int (mI x1), .int (mI x2), .int (mI x3), .int (mI x4), .int (mI x5), .int (mI (x6 + 1)), .int (mI x7), .int (mI x8), .int (mI ((16 * x7) + x8))]) i_X11_fill_124 rfl rfl rfl).trans ?_
      refine (tq_iinc (L' := [.ref a0, .int (mI x1), .int (mI x2), .int (mI x3), .int (mI x4), .int (mI x5), .int (mI (x6 + 1)), .int (mI x7), .int (mI (x8 + 1)), .int (mI ((16 * x7) + x8))]) i_X11_fill_127 rfl rfl rfl).trans ?_
      refine (tq_goto (pc' := 82) i_X11_fill_130 (by decide)).trans ?_
      rfl
theorem fill_ok (rc : RC σ h D) {x y w v b : Int} (f : isF x y w v b) : ∃ h', rn m_X11_fill 0 [.ref 2, .int (mI x), .int (mI y), .int (mI w), .int (mI v), .int (mI b), am_J, am_J, am_J, am_J] [] h = some (.inl (some (.int (mI (flN (tc σ) x y w v b 256)))), h') ∧ Md (fun a _ => a = 3 ∨ a = 4) h h' ∧ gZ h' 3 = flT (tc σ) x y w v b 256 := by
  obtain ⟨⟨fx, fy⟩, ⟨fw, fv⟩, fb⟩ := f
  have wx : wr x = x := wr_id (by omega) (by omega)
  have wy : wr y = y := wr_id (by omega) (by omega)
  have ww : wr w = w := wr_id (by omega) (by omega)
  have wv : wr v = v := wr_id (by omega) (by omega)
  have wb : wr b = b := wr_id (by omega) (by omega)
  have st := b_X11_fill_0 (a0 := 2) (x1 := x) (x2 := y) (x3 := w) (x4 := v) (x5 := b) (h := h) wx wy ww wv wb
  rw [if_pos (by omega), if_neg (by omega), wr_id (z := 16 - x) (by omega) (by omega), wr_id (z := 16 - y) (by omega) (by omega), if_neg (by omega), if_neg (by omega), if_pos (by omega), if_pos (by omega)] at st
  have e0 : gZ h 3 = tc σ := rc.2.2.1
  generalize hc : tc σ = c at *
  have g0 : flT c x y w v b (16 * y) = c := by
    funext k
    unfold flT
    exact if_neg (by omega)
  have n0 : flN c x y w v b (16 * y) = 0 := by
    have := flN_gap (c := c) (x := x) (y := y) (w := w) (v := v) (b := b) (T := 0) (T' := 16 * y) (by omega) (by omega) (fun k k0 k1 q => by unfold inF at q; omega)
    rw [this]
    rfl
  rw [st]
  refine lp (m := m_X11_fill) (pc := 70) (L := fun i (z : Int × (Value × Value)) => [.ref 2, .int (mI x), .int (mI y), .int (mI w), .int (mI v), .int (mI b), .int (mI z.1), .int (mI (y + i)), z.2.1, z.2.2]) (N := v) (P := fun r => ∃ h', r = some (.inl (some (.int (mI (flN c x y w v b 256)))), h') ∧ Md (fun a _ => a = 3 ∨ a = 4) h h' ∧ gZ h' 3 = flT c x y w v b 256) (fun i z h' => 0 ≤ i ∧ Md (fun a _ => a = 3 ∨ a = 4) h h' ∧ gZ h' 3 = flT c x y w v b (16 * (y + i)) ∧ z.1 = flN c x y w v b (16 * (y + i))) ?_ ?_ 0 (0, (am_J, am_J)) h (by omega) ⟨by omega, Md_rf _ _, by rw [Int.add_zero, g0]; exact e0, by rw [Int.add_zero, n0]⟩ |> fun r => by rw [Int.add_zero] at r; exact r
  · intro i z h' hi ⟨i0, md, hz, hn⟩
    obtain ⟨n, v8, v9⟩ := z
    simp only at hn
    have st2 := b_X11_fill_70 (a0 := 2) (x1 := x) (x2 := y) (x3 := w) (x4 := v) (x5 := b) (x6 := n) (x7 := y + i) (v8 := v8) (v9 := v9) (h := h') (wr_id (by omega) (by omega))
    rw [wr_id (z := y + v) (by omega) (by omega), if_neg (by omega)] at st2
    have in1 := lp (m := m_X11_fill) (pc := 82) (L := fun j (z : Int × Value) => [.ref 2, .int (mI x), .int (mI y), .int (mI w), .int (mI v), .int (mI b), .int (mI z.1), .int (mI (y + i)), .int (mI (x + j)), z.2]) (N := w) (P := fun r => ∃ (z' : Int × (Value × Value)) (h2 : am_H), r = rn m_X11_fill 70 [.ref 2, .int (mI x), .int (mI y), .int (mI w), .int (mI v), .int (mI b), .int (mI z'.1), .int (mI (y + (i + 1))), z'.2.1, z'.2.2] [] h2 ∧ 0 ≤ i + 1 ∧ Md (fun a _ => a = 3 ∨ a = 4) h h2 ∧ gZ h2 3 = flT c x y w v b (16 * (y + (i + 1))) ∧ z'.1 = flN c x y w v b (16 * (y + (i + 1)))) (fun j z h2 => 0 ≤ j ∧ Md (fun a _ => a = 3 ∨ a = 4) h h2 ∧ gZ h2 3 = flT c x y w v b (16 * (y + i) + x + j) ∧ z.1 = flN c x y w v b (16 * (y + i) + x + j)) ?_ ?_ 0 (n, v9) h' (by omega) ⟨by omega, md, ?_, ?_⟩
    · obtain ⟨z', h2, e2, r2⟩ := in1
      rw [Int.add_zero] at e2
      exact ⟨z', h2, st2.trans e2, r2⟩
    · intro j z h2 hj ⟨j0, md2, hz2, hn2⟩
      obtain ⟨u, w9⟩ := z
      simp only at hn2
      have k2 := K9_sm md2.1 rc.1
      have ei : wr ((16 * (y + i)) + (x + j)) = 16 * (y + i) + x + j := by rw [wr_id (by omega) (by omega)]; omega
      have st3 := b_X11_fill_82 (a0 := 2) (x1 := x) (x2 := y) (x3 := w) (x4 := v) (x6 := u) (x7 := y + i) (x8 := x + j) (v9 := w9) (h := h2) wb (wr_id (by omega) (by omega)) k2 (fun _ => by rw [ei]; omega)
      simp only [Nat.reduceAdd] at st3
      have gk : gZ h2 3 (16 * (y + i) + x + j) = c (16 * (y + i) + x + j) := by
        rw [hz2]
        unfold flT
        exact if_neg (by omega)
      rw [wr_id (z := x + w) (by omega) (by omega), if_neg (by omega), ei, gk, show x + j + 1 = x + (j + 1) by omega] at st3
      have inn : (x ≤ (16 * (y + i) + x + j) % 16 ∧ (16 * (y + i) + x + j) % 16 < x + w) ∧ y ≤ (16 * (y + i) + x + j) / 16 ∧ (16 * (y + i) + x + j) / 16 < y + v := by omega
      have nn : flN c x y w v b (16 * (y + i) + x + (j + 1)) = u + (if c (16 * (y + i) + x + j) = b then 0 else 1) := by
        rw [show 16 * (y + i) + x + (j + 1) = 16 * (y + i) + x + j + 1 by omega]
        unfold flN at *
        rw [sm_succ (by omega), ← hn2]
        by_cases q : c (16 * (y + i) + x + j) = b
        · rw [if_pos q, if_neg fun w => w.2 q]
        · rw [if_neg q, if_pos ⟨inn, q⟩]
      by_cases q : c (16 * (y + i) + x + j) = b
      · rw [if_pos q] at st3 nn
        refine ⟨(u, _), h2, st3, by omega, md2, ?_, by rw [nn]; omega⟩
        rw [hz2]
        funext k
        unfold flT
        by_cases e : k = 16 * (y + i) + x + j
        · subst e
          rw [if_neg (by omega), if_pos ⟨by omega, inn, by omega⟩, q]
        · by_cases c1 : (0 ≤ k ∧ k < 256) ∧ ((x ≤ k % 16 ∧ k % 16 < x + w) ∧ y ≤ k / 16 ∧ k / 16 < y + v) ∧ k < 16 * (y + i) + x + j
          · rw [if_pos c1, if_pos ⟨c1.1, c1.2.1, by omega⟩]
          · rw [if_neg c1, if_neg fun w => c1 ⟨w.1, w.2.1, by omega⟩]
      · rw [if_neg q] at st3 nn
        have s3 := K9_s0 k2
        refine ⟨(u + 1, _), _, st3, by omega, Md_tr md2 (Md_mono (Md_uZ _ _ _ _) fun a _ w => Or.inl w), ?_, by rw [nn]⟩
        funext k
        rw [gZ_uZ' (sh1 s3), wb, hz2]
        unfold flT
        by_cases e : k = 16 * (y + i) + x + j
        · subst e
          rw [if_pos rfl, if_pos ⟨by omega, inn, by omega⟩]
        · rw [if_neg e]
          by_cases c1 : (0 ≤ k ∧ k < 256) ∧ ((x ≤ k % 16 ∧ k % 16 < x + w) ∧ y ≤ k / 16 ∧ k / 16 < y + v) ∧ k < 16 * (y + i) + x + j
          · rw [if_pos c1, if_pos ⟨c1.1, c1.2.1, by omega⟩]
          · rw [if_neg c1, if_neg fun w => c1 ⟨w.1, w.2.1, by omega⟩]
    · intro z h2 ⟨j0, md2, hz2, hn2⟩
      obtain ⟨u, w9⟩ := z
      simp only at hn2
      have k2 := K9_sm md2.1 rc.1
      have st3 := b_X11_fill_82 (a0 := 2) (x1 := x) (x2 := y) (x3 := w) (x4 := v) (x6 := u) (x7 := y + i) (x8 := x + w) (v9 := w9) (h := h2) wb (wr_id (by omega) (by omega)) k2 (fun g => absurd (by rw [wr_id (by omega) (by omega)]; omega) g)
      rw [wr_id (z := x + w) (by omega) (by omega), if_pos (by omega), show y + i + 1 = y + (i + 1) by omega] at st3
      refine ⟨(u, (_, _)), h2, st3, by omega, md2, ?_, ?_⟩
      · rw [hz2]
        exact (flT_gap (by omega) fun k k0 k1 _ _ q => by unfold inF at q; omega).symm
      · rw [hn2]
        exact (flN_gap (by omega) (by omega) fun k k0 k1 q => by unfold inF at q; omega).symm
    · rw [hz]
      exact (flT_gap (by omega) fun k k0 k1 _ _ q => by unfold inF at q; omega).symm
    · rw [Int.add_zero]
      exact hn.trans (flN_gap (by omega) (by omega) fun k k0 k1 q => by unfold inF at q; omega).symm
  · intro z h' ⟨i0, md, hz, hn⟩
    obtain ⟨n, v8, v9⟩ := z
    simp only at hn
    have st2 := b_X11_fill_70 (a0 := 2) (x1 := x) (x2 := y) (x3 := w) (x4 := v) (x5 := b) (x6 := n) (x7 := y + v) (v8 := v8) (v9 := v9) (h := h') (wr_id (by omega) (by omega))
    rw [wr_id (z := y + v) (by omega) (by omega), if_pos (by omega)] at st2
    refine ⟨h', st2.trans ?_, md, hz.trans (flT_gap (T := 16 * (y + v)) (T' := 256) (by omega) fun k k0 k1 _ _ q => by unfold inF at q; omega).symm⟩
    rw [hn, ← flN_gap (T := 16 * (y + v)) (T' := 256) (by omega) (by omega) fun k k0 k1 q => by unfold inF at q; omega]
theorem fill_x (rc : RC σ h D) {x y w v b : Int} (wx : wr x = x) (wy : wr y = y) (ww : wr w = w) (wv : wr v = v) (wb : wr b = b) (f : ¬ isF x y w v b) : rn m_X11_fill 0 [.ref 2, .int (mI x), .int (mI y), .int (mI w), .int (mI v), .int (mI b), am_J, am_J, am_J, am_J] [] h = some (.inr 0, hexc h) := by
  have st := b_X11_fill_0 (a0 := 2) (x1 := x) (x2 := y) (x3 := w) (x4 := v) (x5 := b) (h := h) wx wy ww wv wb
  rw [st]
  unfold isF at f
  by_cases c1 : ¬ x < 0 ∧ (¬ 16 ≤ x ∧ (¬ y < 0 ∧ ¬ 16 ≤ y))
  · rw [if_pos c1, wr_id (z := 16 - x) (by omega) (by omega), wr_id (z := 16 - y) (by omega) (by omega)]
    by_cases c2 : w < 1
    · rw [if_pos c2]
    · rw [if_neg c2]
      by_cases c3 : 16 - x < w
      · rw [if_pos c3]
      · rw [if_neg c3]
        by_cases c4 : v < 1
        · rw [if_pos c4]
        · rw [if_neg c4]
          by_cases c5 : v ≤ 16 - y
          · rw [if_pos c5, if_neg (by omega)]
          · rw [if_neg c5]
  · rw [if_neg c1]
theorem i_X11_slope_0 : am_i m_X11_slope 0 = some (0, .iload_n 1, 1, [], 0) := rfl
theorem i_X11_slope_1 : am_i m_X11_slope 1 = some (1, .invokestatic 93, 3, [10], 0) := rfl
theorem i_X11_slope_4 : am_i m_X11_slope 4 = some (4, .ifCond .ne 13, 3, [], 0) := rfl
theorem i_X11_slope_7 : am_i m_X11_slope 7 = some (7, .new 86, 3, [0, 0], 0) := rfl
theorem i_X11_slope_17 : am_i m_X11_slope 17 = some (17, .iload_n 2, 1, [], 0) := rfl
theorem i_X11_slope_18 : am_i m_X11_slope 18 = some (18, .bipush (-99), 2, [], -99) := rfl
theorem i_X11_slope_20 : am_i m_X11_slope 20 = some (20, .if_icmp .lt 21, 3, [], 0) := rfl
theorem i_X11_slope_23 : am_i m_X11_slope 23 = some (23, .iload_n 2, 1, [], 0) := rfl
theorem i_X11_slope_24 : am_i m_X11_slope 24 = some (24, .bipush 99, 2, [], 99) := rfl
theorem i_X11_slope_26 : am_i m_X11_slope 26 = some (26, .if_icmp .gt 15, 3, [], 0) := rfl
theorem i_X11_slope_29 : am_i m_X11_slope 29 = some (29, .iload_n 3, 1, [], 0) := rfl
theorem i_X11_slope_30 : am_i m_X11_slope 30 = some (30, .bipush (-99), 2, [], -99) := rfl
theorem i_X11_slope_32 : am_i m_X11_slope 32 = some (32, .if_icmp .lt 9, 3, [], 0) := rfl
theorem i_X11_slope_35 : am_i m_X11_slope 35 = some (35, .iload_n 3, 1, [], 0) := rfl
theorem i_X11_slope_36 : am_i m_X11_slope 36 = some (36, .bipush 99, 2, [], 99) := rfl
theorem i_X11_slope_38 : am_i m_X11_slope 38 = some (38, .if_icmp .le 13, 3, [], 0) := rfl
theorem i_X11_slope_41 : am_i m_X11_slope 41 = some (41, .new 86, 3, [0, 0], 0) := rfl
theorem i_X11_slope_51 : am_i m_X11_slope 51 = some (51, .iconst 0, 1, [], 0) := rfl
theorem i_X11_slope_52 : am_i m_X11_slope 52 = some (52, .istore 4, 2, [], 0) := rfl
theorem b_X11_slope_0 {a0 : Nat} {x1 x2 x3 x1' x2' x3' : Int} {h : am_H} (w1 : wr x1 = x1') (w2 : wr x2 = x2') (w3 : wr x3 = x3') : rn m_X11_slope 0 [.ref a0, .int (mI x1), .int (mI x2), .int (mI x3), am_J, am_J] [] h = if (¬ (x1' < 0) ∧ (¬ (255 < x1'))) then if x2' < (-99) then some (.inr 0, hexc h) else if 99 < x2' then some (.inr 0, hexc h) else if x3' < (-99) then some (.inr 0, hexc h) else if x3' ≤ 99 then rn m_X11_slope 54 [.ref a0, .int (mI x1), .int (mI x2), .int (mI x3), .int (mI 0), am_J] [] h else some (.inr 0, hexc h) else some (.inr 0, hexc h) := by
  refine (tq_iload_n i_X11_slope_0 rfl rfl).trans ?_
  refine (c_X11_isValue i_X11_slope_1 (ltd d_X11_slope (by decide)) stOk_0 rfl).trans ?_
  refine (congrArg (cl _ _ _ _) (b_X11_isValue_0 w1)).trans ?_
  refine (cl_v _ _ _ _ _ _).trans ?_
  refine (tq_ifb_ne (pt := 17) i_X11_slope_4 (by decide) rfl).trans ?_
  refine ite_congr rfl (fun c1 => ?_) (fun c1 => ?_)
  · refine (tq_iload_n i_X11_slope_17 rfl rfl).trans ?_
    refine (tq_bipush i_X11_slope_18 rfl).trans ?_
    refine (tq_icmp_lt (pt := 41) i_X11_slope_20 w2 w_m99 (by decide) rfl).trans ?_
    refine ite_congr rfl (fun c2 => ?_) (fun c2 => ?_)
    · exact tq_newx i_X11_slope_41
    · refine (tq_iload_n i_X11_slope_23 rfl rfl).trans ?_
      refine (tq_bipush i_X11_slope_24 rfl).trans ?_
      refine (tq_icmp_gt (pt := 41) i_X11_slope_26 w2 w_99 (by decide) rfl).trans ?_
      refine ite_congr rfl (fun c3 => ?_) (fun c3 => ?_)
      · exact tq_newx i_X11_slope_41
      · refine (tq_iload_n i_X11_slope_29 rfl rfl).trans ?_
        refine (tq_bipush i_X11_slope_30 rfl).trans ?_
        refine (tq_icmp_lt (pt := 41) i_X11_slope_32 w3 w_m99 (by decide) rfl).trans ?_
        refine ite_congr rfl (fun c4 => ?_) (fun c4 => ?_)
        · exact tq_newx i_X11_slope_41
        · refine (tq_iload_n i_X11_slope_35 rfl rfl).trans ?_
          refine (tq_bipush i_X11_slope_36 rfl).trans ?_
          refine (tq_icmp_le (pt := 51) i_X11_slope_38 w3 w_99 (by decide) rfl).trans ?_
          refine ite_congr rfl (fun c5 => ?_) (fun c5 => ?_)
          · refine (tq_iconst i_X11_slope_51 rfl).trans ?_
            refine (tq_istore (L' := [.ref a0, .int (mI x1), .int (mI x2), .int (mI x3), .int (mI 0), am_J]) i_X11_slope_52 rfl rfl).trans ?_
            rfl
          · exact tq_newx i_X11_slope_41
  · exact tq_newx i_X11_slope_7
theorem i_X11_slope_54 : am_i m_X11_slope 54 = some (54, .iload 4, 2, [], 0) := rfl
theorem i_X11_slope_56 : am_i m_X11_slope 56 = some (56, .bipush 16, 2, [], 16) := rfl
theorem i_X11_slope_58 : am_i m_X11_slope 58 = some (58, .if_icmp .ge 54, 3, [], 0) := rfl
theorem i_X11_slope_61 : am_i m_X11_slope 61 = some (61, .iconst 0, 1, [], 0) := rfl
theorem i_X11_slope_62 : am_i m_X11_slope 62 = some (62, .istore 5, 2, [], 0) := rfl
theorem i_X11_slope_112 : am_i m_X11_slope 112 = some (112, .aload_n 0, 1, [], 0) := rfl
theorem i_X11_slope_113 : am_i m_X11_slope 113 = some (113, .getfield 9, 3, [9, 0, 0], 0) := rfl
theorem i_X11_slope_116 : am_i m_X11_slope 116 = some (116, .sipush 255, 3, [], 255) := rfl
theorem i_X11_slope_119 : am_i m_X11_slope 119 = some (119, .invokestatic 103, 3, [32], 0) := rfl
theorem i_X11_slope_122 : am_i m_X11_slope 122 = some (122, .ireturn, 1, [], 0) := rfl
theorem b_X11_slope_54 {a0 : Nat} {x1 x2 x3 x4 x4' : Int} {v5 : Value} {h : am_H} (w4 : wr x4 = x4') (k1 : K9 h a0) (g2 : (16 ≤ x4') → ((0 : Int) ≤ 255 ∧ 255 < (256 : Int))) : rn m_X11_slope 54 [.ref a0, .int (mI x1), .int (mI x2), .int (mI x3), .int (mI x4), v5] [] h = if 16 ≤ x4' then some (.inl (some (.int (mI (gZ h (a0 + 1) 255)))), h) else rn m_X11_slope 64 [.ref a0, .int (mI x1), .int (mI x2), .int (mI x3), .int (mI x4), .int (mI 0)] [] h := by
  refine (tq_iload i_X11_slope_54 rfl rfl).trans ?_
  refine (tq_bipush i_X11_slope_56 rfl).trans ?_
  refine (tq_icmp_ge (pt := 112) i_X11_slope_58 w4 w_16 (by decide) rfl).trans ?_
  refine ite_congr rfl (fun c1 => ?_) (fun c1 => ?_)
  · refine (tq_aload_n i_X11_slope_112 rfl (isA_ref _) rfl).trans ?_
    refine (tq_getfield i_X11_slope_113 (K9_s k1) (gR (g_9_0 (K9_s k1)) (K9_e0 k1)) (isV_ref _) rfl).trans ?_
    refine (tq_sipush i_X11_slope_116 rfl).trans ?_
    refine (c_X7_get i_X11_slope_119 (ltd d_X11_slope (by decide)) (isA_ref _) stOk_0 rfl).trans ?_
    refine (congrArg (cl _ _ _ _) (get_ok w_255 (K9_n0 k1) (K9_s0 k1) (by decide) (g2 c1))).trans ?_
    refine (cl_v _ _ _ _ _ _).trans ?_
    exact tq_ireturn i_X11_slope_122 r_X11_slope rfl
  · refine (tq_iconst i_X11_slope_61 rfl).trans ?_
    refine (tq_istore (L' := [.ref a0, .int (mI x1), .int (mI x2), .int (mI x3), .int (mI x4), .int (mI 0)]) i_X11_slope_62 rfl rfl).trans ?_
    rfl
theorem i_X11_slope_64 : am_i m_X11_slope 64 = some (64, .iload 5, 2, [], 0) := rfl
theorem i_X11_slope_66 : am_i m_X11_slope 66 = some (66, .bipush 16, 2, [], 16) := rfl
theorem i_X11_slope_68 : am_i m_X11_slope 68 = some (68, .if_icmp .ge 38, 3, [], 0) := rfl
theorem i_X11_slope_71 : am_i m_X11_slope 71 = some (71, .aload_n 0, 1, [], 0) := rfl
theorem i_X11_slope_72 : am_i m_X11_slope 72 = some (72, .getfield 9, 3, [9, 0, 0], 0) := rfl
theorem i_X11_slope_75 : am_i m_X11_slope 75 = some (75, .iload 5, 2, [], 0) := rfl
theorem i_X11_slope_77 : am_i m_X11_slope 77 = some (77, .iload 4, 2, [], 0) := rfl
theorem i_X11_slope_79 : am_i m_X11_slope 79 = some (79, .invokestatic 99, 3, [13], 0) := rfl
theorem i_X11_slope_82 : am_i m_X11_slope 82 = some (82, .iload_n 1, 1, [], 0) := rfl
theorem i_X11_slope_83 : am_i m_X11_slope 83 = some (83, .iload 5, 2, [], 0) := rfl
theorem i_X11_slope_85 : am_i m_X11_slope 85 = some (85, .iload_n 2, 1, [], 0) := rfl
theorem i_X11_slope_86 : am_i m_X11_slope 86 = some (86, .imul, 1, [], 0) := rfl
theorem i_X11_slope_87 : am_i m_X11_slope 87 = some (87, .iadd, 1, [], 0) := rfl
theorem i_X11_slope_88 : am_i m_X11_slope 88 = some (88, .iload 4, 2, [], 0) := rfl
theorem i_X11_slope_90 : am_i m_X11_slope 90 = some (90, .iload_n 3, 1, [], 0) := rfl
theorem i_X11_slope_91 : am_i m_X11_slope 91 = some (91, .imul, 1, [], 0) := rfl
theorem i_X11_slope_92 : am_i m_X11_slope 92 = some (92, .iadd, 1, [], 0) := rfl
theorem i_X11_slope_93 : am_i m_X11_slope 93 = some (93, .sipush 255, 3, [], 255) := rfl
theorem i_X11_slope_96 : am_i m_X11_slope 96 = some (96, .iand, 1, [], 0) := rfl
theorem i_X11_slope_97 : am_i m_X11_slope 97 = some (97, .invokestatic 109, 3, [33], 0) := rfl
theorem i_X11_slope_100 : am_i m_X11_slope 100 = some (100, .iinc 5 1, 3, [], 0) := rfl
theorem i_X11_slope_103 : am_i m_X11_slope 103 = some (103, .goto (-39), 3, [], 0) := rfl
theorem i_X11_slope_106 : am_i m_X11_slope 106 = some (106, .iinc 4 1, 3, [], 0) := rfl
theorem i_X11_slope_109 : am_i m_X11_slope 109 = some (109, .goto (-55), 3, [], 0) := rfl
theorem b_X11_slope_64 {a0 : Nat} {x1 x2 x3 x4 x5 x5' : Int} {h : am_H} (w5 : wr x5 = x5') (k1 : K9 h a0) (g2 : (¬ (16 ≤ x5')) → (0 ≤ (wr ((16 * x4) + x5)) ∧ (wr ((16 * x4) + x5)) < (256 : Int))) : rn m_X11_slope 64 [.ref a0, .int (mI x1), .int (mI x2), .int (mI x3), .int (mI x4), .int (mI x5)] [] h = if 16 ≤ x5' then rn m_X11_slope 54 [.ref a0, .int (mI x1), .int (mI x2), .int (mI x3), .int (mI (x4 + 1)), .int (mI x5)] [] h else rn m_X11_slope 64 [.ref a0, .int (mI x1), .int (mI x2), .int (mI x3), .int (mI x4), .int (mI (x5 + 1))] [] (uZ h (a0 + 1) (wr ((16 * x4) + x5)) ((wr ((x1 + (x5 * x2)) + (x4 * x3))) % 2 ^ 8)) := by
  refine (tq_iload i_X11_slope_64 rfl rfl).trans ?_
  refine (tq_bipush i_X11_slope_66 rfl).trans ?_
  refine (tq_icmp_ge (pt := 106) i_X11_slope_68 w5 w_16 (by decide) rfl).trans ?_
  refine ite_congr rfl (fun c1 => ?_) (fun c1 => ?_)
  · refine (tq_iinc (L' := [.ref a0, .int (mI x1), .int (mI x2), .int (mI x3), .int (mI (x4 + 1)), .int (mI x5)]) i_X11_slope_106 rfl rfl rfl).trans ?_
    refine (tq_goto (pc' := 54) i_X11_slope_109 (by decide)).trans ?_
    rfl
  · refine (tq_aload_n i_X11_slope_71 rfl (isA_ref _) rfl).trans ?_
    refine (tq_getfield i_X11_slope_72 (K9_s k1) (gR (g_9_0 (K9_s k1)) (K9_e0 k1)) (isV_ref _) rfl).trans ?_
    refine (tq_iload i_X11_slope_75 rfl rfl).trans ?_
    refine (tq_iload i_X11_slope_77 rfl rfl).trans ?_
    refine (c_X11_placeOf i_X11_slope_79 (ltd d_X11_slope (by decide)) (stOk_1 _) rfl).trans ?_
    refine (congrArg (cl _ _ _ _) (b_X11_placeOf_0)).trans ?_
    refine (cl_v _ _ _ _ _ _).trans ?_
    refine (tq_iload_n i_X11_slope_82 rfl rfl).trans ?_
    refine (tq_iload i_X11_slope_83 rfl rfl).trans ?_
    refine (tq_iload_n i_X11_slope_85 rfl rfl).trans ?_
    refine (tq_imul i_X11_slope_86 rfl).trans ?_
    refine (tq_iadd i_X11_slope_87 rfl).trans ?_
    refine (tq_iload i_X11_slope_88 rfl rfl).trans ?_
    refine (tq_iload_n i_X11_slope_90 rfl rfl).trans ?_
    refine (tq_imul i_X11_slope_91 rfl).trans ?_
    refine (tq_iadd i_X11_slope_92 rfl).trans ?_
    refine (tq_sipush i_X11_slope_93 rfl).trans ?_
    refine (tq_imask 8 i_X11_slope_96 rfl (by decide) (by decide) rfl).trans ?_
    refine (c_X7_put i_X11_slope_97 (ltd d_X11_slope (by decide)) (isA_ref _) stOk_0 rfl).trans ?_
    refine (congrArg (cl _ _ _ _) (put_ok rfl (K9_n0 k1) (K9_s0 k1) (g2 c1))).trans ?_
    refine (cl_n _ _ _ _ _).trans ?_
    refine (tq_iinc (L' := [.ref a0, .int (mI x1), .int (mI x2), .int (mI x3), .int (mI x4), .int (mI (x5 + 1))]) i_X11_slope_100 rfl rfl rfl).trans ?_
    refine (tq_goto (pc' := 64) i_X11_slope_103 (by decide)).trans ?_
    rfl
def slT (c : Int → Int) (f a b T : Int) : Int → Int := fun k => if (0 ≤ k ∧ k < 256) ∧ k < T then (f + k % 16 * a + k / 16 * b) % 256 else c k
def isS (f a b : Int) : Prop := (0 ≤ f ∧ f ≤ 255) ∧ (-99 ≤ a ∧ a ≤ 99) ∧ -99 ≤ b ∧ b ≤ 99
theorem mul99 {j a : Int} (hj : 0 ≤ j ∧ j < 16) (ha : -99 ≤ a ∧ a ≤ 99) : -1485 ≤ j * a ∧ j * a ≤ 1485 := by
  have hj' : j = 0 ∨ j = 1 ∨ j = 2 ∨ j = 3 ∨ j = 4 ∨ j = 5 ∨ j = 6 ∨ j = 7 ∨ j = 8 ∨ j = 9 ∨ j = 10 ∨ j = 11 ∨ j = 12 ∨ j = 13 ∨ j = 14 ∨ j = 15 := by omega
  rcases hj' with rfl | rfl | rfl | rfl | rfl | rfl | rfl | rfl | rfl | rfl | rfl | rfl | rfl | rfl | rfl | rfl <;> omega
theorem slope_ok (rc : RC σ h D) {f a b : Int} (g : isS f a b) : ∃ h', rn m_X11_slope 0 [.ref 2, .int (mI f), .int (mI a), .int (mI b), am_J, am_J] [] h = some (.inl (some (.int (mI (slT (tc σ) f a b 256 255)))), h') ∧ Md (fun a _ => a = 3 ∨ a = 4) h h' ∧ gZ h' 3 = slT (tc σ) f a b 256 := by
  obtain ⟨gf, ga, gb⟩ := g
  have st := b_X11_slope_0 (a0 := 2) (x1 := f) (x2 := a) (x3 := b) (h := h) (wr_id (by omega) (by omega)) (wr_id (by omega) (by omega)) (wr_id (by omega) (by omega))
  rw [if_pos (by omega), if_neg (by omega), if_neg (by omega), if_neg (by omega), if_pos (by omega)] at st
  have e0 : gZ h 3 = tc σ := rc.2.2.1
  generalize hc : tc σ = c at *
  have g0 : slT c f a b 0 = c := by
    funext k
    unfold slT
    exact if_neg (by omega)
  rw [st]
  refine lp (m := m_X11_slope) (pc := 54) (L := fun i (z : Value) => [.ref 2, .int (mI f), .int (mI a), .int (mI b), .int (mI i), z]) (N := 16) (P := fun r => ∃ h', r = some (.inl (some (.int (mI (slT c f a b 256 255)))), h') ∧ Md (fun a _ => a = 3 ∨ a = 4) h h' ∧ gZ h' 3 = slT c f a b 256) (fun i z h' => 0 ≤ i ∧ Md (fun a _ => a = 3 ∨ a = 4) h h' ∧ gZ h' 3 = slT c f a b (16 * i)) ?_ ?_ 0 am_J h (by omega) ⟨by omega, Md_rf _ _, by rw [Int.mul_zero, g0]; exact e0⟩
  · intro i z h' hi ⟨i0, md, hz⟩
    have st2 := b_X11_slope_54 (a0 := 2) (x1 := f) (x2 := a) (x3 := b) (v5 := z) (h := h') (wr_id (z := i) (by omega) (by omega)) (K9_sm md.1 rc.1) (fun _ => by decide)
    rw [if_neg (by omega)] at st2
    have in1 := lp (m := m_X11_slope) (pc := 64) (L := fun j (_ : Unit) => [.ref 2, .int (mI f), .int (mI a), .int (mI b), .int (mI i), .int (mI j)]) (N := 16) (P := fun r => ∃ (z' : Value) (h2 : am_H), r = rn m_X11_slope 54 [.ref 2, .int (mI f), .int (mI a), .int (mI b), .int (mI (i + 1)), z'] [] h2 ∧ 0 ≤ i + 1 ∧ Md (fun a _ => a = 3 ∨ a = 4) h h2 ∧ gZ h2 3 = slT c f a b (16 * (i + 1))) (fun j _ h2 => 0 ≤ j ∧ Md (fun a _ => a = 3 ∨ a = 4) h h2 ∧ gZ h2 3 = slT c f a b (16 * i + j)) ?_ ?_ 0 () h' (by omega) ⟨by omega, md, by rw [Int.add_zero]; exact hz⟩
    · obtain ⟨z', h2, e2, r2⟩ := in1
      exact ⟨z', h2, st2.trans e2, r2⟩
    · intro j _ h2 hj ⟨j0, md2, hz2⟩
      have k2 := K9_sm md2.1 rc.1
      have ei : wr ((16 * i) + j) = 16 * i + j := wr_id (by omega) (by omega)
      have st3 := b_X11_slope_64 (a0 := 2) (x1 := f) (x2 := a) (x3 := b) (x4 := i) (x5 := j) (h := h2) (wr_id (by omega) (by omega)) k2 (fun _ => by rw [ei]; omega)
      simp only [Nat.reduceAdd] at st3
      have m1 := mul99 ⟨j0, hj⟩ ga
      have m2 := mul99 ⟨i0, hi⟩ gb
      rw [if_neg (by omega), ei, wr_id (z := (f + (j * a)) + (i * b)) (by omega) (by omega), show (2 : Int) ^ 8 = 256 by decide] at st3
      refine ⟨(), _, st3, by omega, Md_tr md2 (Md_mono (Md_uZ _ _ _ _) fun a _ w => Or.inl w), ?_⟩
      funext k
      rw [gZ_uZ' (sh1 (K9_s0 k2)), hz2, wr_id (by omega) (by omega)]
      unfold slT
      by_cases e : k = 16 * i + j
      · subst e
        rw [if_pos rfl, if_pos (by omega), show (16 * i + j) % 16 = j by omega, show (16 * i + j) / 16 = i by omega]
      · rw [if_neg e]
        by_cases c1 : (0 ≤ k ∧ k < 256) ∧ k < 16 * i + j
        · rw [if_pos c1, if_pos (by omega)]
        · rw [if_neg c1, if_neg (by omega)]
    · intro _ h2 ⟨j0, md2, hz2⟩
      have k2 := K9_sm md2.1 rc.1
      have st3 := b_X11_slope_64 (a0 := 2) (x1 := f) (x2 := a) (x3 := b) (x4 := i) (x5 := 16) (h := h2) (wr_id (by omega) (by omega)) k2 (fun g => absurd (by omega) g)
      rw [if_pos (by omega)] at st3
      exact ⟨_, h2, st3, by omega, md2, by rw [hz2, show 16 * (i + 1) = 16 * i + 16 by omega]⟩
  · intro z h' ⟨i0, md, hz⟩
    have st2 := b_X11_slope_54 (a0 := 2) (x1 := f) (x2 := a) (x3 := b) (v5 := z) (h := h') (wr_id (z := 16) (by omega) (by omega)) (K9_sm md.1 rc.1) (fun _ => by decide)
    simp only [Nat.reduceAdd] at st2
    rw [if_pos (by omega), hz] at st2
    exact ⟨h', st2, md, hz⟩
theorem slope_x {f a b : Int} (w1 : wr f = f) (w2 : wr a = a) (w3 : wr b = b) (g : ¬ isS f a b) : rn m_X11_slope 0 [.ref 2, .int (mI f), .int (mI a), .int (mI b), am_J, am_J] [] h = some (.inr 0, hexc h) := by
  rw [b_X11_slope_0 w1 w2 w3]
  unfold isS at g
  by_cases c1 : ¬ f < 0 ∧ ¬ 255 < f
  · rw [if_pos c1]
    by_cases c2 : a < -99
    · rw [if_pos c2]
    · rw [if_neg c2]
      by_cases c3 : 99 < a
      · rw [if_pos c3]
      · rw [if_neg c3]
        by_cases c4 : b < -99
        · rw [if_pos c4]
        · rw [if_neg c4, if_neg (by omega)]
  · rw [if_neg c1]
theorem i_X11_grain_0 : am_i m_X11_grain 0 = some (0, .iload_n 2, 1, [], 0) := rfl
theorem i_X11_grain_1 : am_i m_X11_grain 1 = some (1, .iconst 1, 1, [], 1) := rfl
theorem i_X11_grain_2 : am_i m_X11_grain 2 = some (2, .if_icmp .lt 9, 3, [], 0) := rfl
theorem i_X11_grain_5 : am_i m_X11_grain 5 = some (5, .iload_n 2, 1, [], 0) := rfl
theorem i_X11_grain_6 : am_i m_X11_grain 6 = some (6, .bipush 99, 2, [], 99) := rfl
theorem i_X11_grain_8 : am_i m_X11_grain 8 = some (8, .if_icmp .le 13, 3, [], 0) := rfl
theorem i_X11_grain_11 : am_i m_X11_grain 11 = some (11, .new 86, 3, [0, 0], 0) := rfl
theorem i_X11_grain_21 : am_i m_X11_grain 21 = some (21, .iload_n 1, 1, [], 0) := rfl
theorem i_X11_grain_22 : am_i m_X11_grain 22 = some (22, .istore_n 3, 1, [], 0) := rfl
theorem i_X11_grain_23 : am_i m_X11_grain 23 = some (23, .iconst 0, 1, [], 0) := rfl
theorem i_X11_grain_24 : am_i m_X11_grain 24 = some (24, .istore 4, 2, [], 0) := rfl
theorem b_X11_grain_0 {a0 : Nat} {x1 x2 x2' : Int} {h : am_H} (w2 : wr x2 = x2') : rn m_X11_grain 0 [.ref a0, .int (mI x1), .int (mI x2), am_J, am_J, am_J] [] h = if x2' < 1 then some (.inr 0, hexc h) else if x2' ≤ 99 then rn m_X11_grain 26 [.ref a0, .int (mI x1), .int (mI x2), .int (mI x1), .int (mI 0), am_J] [] h else some (.inr 0, hexc h) := by
  refine (tq_iload_n i_X11_grain_0 rfl rfl).trans ?_
  refine (tq_iconst i_X11_grain_1 rfl).trans ?_
  refine (tq_icmp_lt (pt := 11) i_X11_grain_2 w2 w_1 (by decide) rfl).trans ?_
  refine ite_congr rfl (fun c1 => ?_) (fun c1 => ?_)
  · exact tq_newx i_X11_grain_11
  · refine (tq_iload_n i_X11_grain_5 rfl rfl).trans ?_
    refine (tq_bipush i_X11_grain_6 rfl).trans ?_
    refine (tq_icmp_le (pt := 21) i_X11_grain_8 w2 w_99 (by decide) rfl).trans ?_
    refine ite_congr rfl (fun c2 => ?_) (fun c2 => ?_)
    · refine (tq_iload_n i_X11_grain_21 rfl rfl).trans ?_
      refine (tq_istore_n (L' := [.ref a0, .int (mI x1), .int (mI x2), .int (mI x1), am_J, am_J]) i_X11_grain_22 rfl rfl).trans ?_
      refine (tq_iconst i_X11_grain_23 rfl).trans ?_
      refine (tq_istore (L' := [.ref a0, .int (mI x1), .int (mI x2), .int (mI x1), .int (mI 0), am_J]) i_X11_grain_24 rfl rfl).trans ?_
      rfl
    · exact tq_newx i_X11_grain_11
theorem i_X11_grain_26 : am_i m_X11_grain 26 = some (26, .iload 4, 2, [], 0) := rfl
theorem i_X11_grain_28 : am_i m_X11_grain 28 = some (28, .sipush 256, 3, [], 256) := rfl
theorem i_X11_grain_31 : am_i m_X11_grain 31 = some (31, .if_icmp .ge 56, 3, [], 0) := rfl
theorem i_X11_grain_34 : am_i m_X11_grain 34 = some (34, .ldc 119, 2, [], 1103515245) := rfl
theorem i_X11_grain_36 : am_i m_X11_grain 36 = some (36, .iload_n 3, 1, [], 0) := rfl
theorem i_X11_grain_37 : am_i m_X11_grain 37 = some (37, .imul, 1, [], 0) := rfl
theorem i_X11_grain_38 : am_i m_X11_grain 38 = some (38, .sipush 12345, 3, [], 12345) := rfl
theorem i_X11_grain_41 : am_i m_X11_grain 41 = some (41, .iadd, 1, [], 0) := rfl
theorem i_X11_grain_42 : am_i m_X11_grain 42 = some (42, .istore_n 3, 1, [], 0) := rfl
theorem i_X11_grain_43 : am_i m_X11_grain 43 = some (43, .iload_n 3, 1, [], 0) := rfl
theorem i_X11_grain_44 : am_i m_X11_grain 44 = some (44, .bipush 16, 2, [], 16) := rfl
theorem i_X11_grain_46 : am_i m_X11_grain 46 = some (46, .iushr, 1, [], 0) := rfl
theorem i_X11_grain_47 : am_i m_X11_grain 47 = some (47, .iconst 2, 1, [], 2) := rfl
theorem i_X11_grain_48 : am_i m_X11_grain 48 = some (48, .iload_n 2, 1, [], 0) := rfl
theorem i_X11_grain_49 : am_i m_X11_grain 49 = some (49, .imul, 1, [], 0) := rfl
theorem i_X11_grain_50 : am_i m_X11_grain 50 = some (50, .iconst 1, 1, [], 1) := rfl
theorem i_X11_grain_51 : am_i m_X11_grain 51 = some (51, .iadd, 1, [], 0) := rfl
theorem i_X11_grain_52 : am_i m_X11_grain 52 = some (52, .irem, 1, [], 0) := rfl
theorem i_X11_grain_53 : am_i m_X11_grain 53 = some (53, .iload_n 2, 1, [], 0) := rfl
theorem i_X11_grain_54 : am_i m_X11_grain 54 = some (54, .isub, 1, [], 0) := rfl
theorem i_X11_grain_55 : am_i m_X11_grain 55 = some (55, .istore 5, 2, [], 0) := rfl
theorem i_X11_grain_57 : am_i m_X11_grain 57 = some (57, .aload_n 0, 1, [], 0) := rfl
theorem i_X11_grain_58 : am_i m_X11_grain 58 = some (58, .getfield 9, 3, [9, 0, 0], 0) := rfl
theorem i_X11_grain_61 : am_i m_X11_grain 61 = some (61, .iload 4, 2, [], 0) := rfl
theorem i_X11_grain_63 : am_i m_X11_grain 63 = some (63, .aload_n 0, 1, [], 0) := rfl
theorem i_X11_grain_64 : am_i m_X11_grain 64 = some (64, .getfield 9, 3, [9, 0, 0], 0) := rfl
theorem i_X11_grain_67 : am_i m_X11_grain 67 = some (67, .iload 4, 2, [], 0) := rfl
theorem i_X11_grain_69 : am_i m_X11_grain 69 = some (69, .invokestatic 103, 3, [32], 0) := rfl
theorem i_X11_grain_72 : am_i m_X11_grain 72 = some (72, .iload 5, 2, [], 0) := rfl
theorem i_X11_grain_74 : am_i m_X11_grain 74 = some (74, .iadd, 1, [], 0) := rfl
theorem i_X11_grain_75 : am_i m_X11_grain 75 = some (75, .invokestatic 120, 3, [17], 0) := rfl
theorem i_X11_grain_78 : am_i m_X11_grain 78 = some (78, .invokestatic 109, 3, [33], 0) := rfl
theorem i_X11_grain_81 : am_i m_X11_grain 81 = some (81, .iinc 4 1, 3, [], 0) := rfl
theorem i_X11_grain_84 : am_i m_X11_grain 84 = some (84, .goto (-58), 3, [], 0) := rfl
theorem i_X11_grain_87 : am_i m_X11_grain 87 = some (87, .iload_n 3, 1, [], 0) := rfl
theorem i_X11_grain_88 : am_i m_X11_grain 88 = some (88, .ireturn, 1, [], 0) := rfl
theorem b_X11_grain_26 {a0 : Nat} {v1 v5 : Value} {x2 x3 x4 x4' : Int} {h : am_H} (w4 : wr x4 = x4') (g1 : (¬ (256 ≤ x4')) → (wr ((2 * x2) + 1) ≠ 0)) (k2 : K9 h a0) (g3 : (¬ (256 ≤ x4')) → (0 ≤ x4' ∧ x4' < (256 : Int))) : rn m_X11_grain 26 [.ref a0, v1, .int (mI x2), .int (mI x3), .int (mI x4), v5] [] h = if 256 ≤ x4' then some (.inl (some (.int (mI x3))), h) else rn m_X11_grain 26 [.ref a0, v1, .int (mI x2), .int (mI ((1103515245 * x3) + 12345)), .int (mI (x4 + 1)), .int (mI ((Int.tmod (wr (((1103515245 * x3) + 12345) % 4294967296 / 2 ^ 16)) (wr ((2 * x2) + 1))) - x2))] [] (uZ h (a0 + 1) x4' (clampv (wr ((gZ h (a0 + 1) x4') + ((Int.tmod (wr (((1103515245 * x3) + 12345) % 4294967296 / 2 ^ 16)) (wr ((2 * x2) + 1))) - x2))))) := by
  refine (tq_iload i_X11_grain_26 rfl rfl).trans ?_
  refine (tq_sipush i_X11_grain_28 rfl).trans ?_
  refine (tq_icmp_ge (pt := 87) i_X11_grain_31 w4 w_256 (by decide) rfl).trans ?_
  refine ite_congr rfl (fun c1 => ?_) (fun c1 => ?_)
  · refine (tq_iload_n i_X11_grain_87 rfl rfl).trans ?_
    exact tq_ireturn i_X11_grain_88 r_X11_grain rfl
  · refine (tq_ldc i_X11_grain_34 rfl).trans ?_
    refine (tq_iload_n i_X11_grain_36 rfl rfl).trans ?_
    refine (tq_imul i_X11_grain_37 rfl).trans ?_
    refine (tq_sipush i_X11_grain_38 rfl).trans ?_
    refine (tq_iadd i_X11_grain_41 rfl).trans ?_
    refine (tq_istore_n (L' := [.ref a0, v1, .int (mI x2), .int (mI ((1103515245 * x3) + 12345)), .int (mI x4), v5]) i_X11_grain_42 rfl rfl).trans ?_
    refine (tq_iload_n i_X11_grain_43 rfl rfl).trans ?_
    refine (tq_bipush i_X11_grain_44 rfl).trans ?_
    refine (tq_iushr (k := 16) i_X11_grain_46 w_16 (by decide) (by decide) rfl).trans ?_
    refine (tq_iconst i_X11_grain_47 rfl).trans ?_
    refine (tq_iload_n i_X11_grain_48 rfl rfl).trans ?_
    refine (tq_imul i_X11_grain_49 rfl).trans ?_
    refine (tq_iconst i_X11_grain_50 rfl).trans ?_
    refine (tq_iadd i_X11_grain_51 rfl).trans ?_
    refine (tq_irem i_X11_grain_52 rfl rfl (g1 c1) rfl).trans ?_
    refine (tq_iload_n i_X11_grain_53 rfl rfl).trans ?_
    refine (tq_isub i_X11_grain_54 rfl).trans ?_
    refine (tq_istore (L' := [.ref a0, v1, .int (mI x2), .int (mI ((1103515245 * x3) + 12345)), .int (mI x4), .int (mI ((Int.tmod (wr (((1103515245 * x3) + 12345) % 4294967296 / 2 ^ 16)) (wr ((2 * x2) + 1))) - x2))]) i_X11_grain_55 rfl rfl).trans ?_
    refine (tq_aload_n i_X11_grain_57 rfl (isA_ref _) rfl).trans ?_
    refine (tq_getfield i_X11_grain_58 (K9_s k2) (gR (g_9_0 (K9_s k2)) (K9_e0 k2)) (isV_ref _) rfl).trans ?_
    refine (tq_iload i_X11_grain_61 rfl rfl).trans ?_
    refine (tq_aload_n i_X11_grain_63 rfl (isA_ref _) rfl).trans ?_
    refine (tq_getfield i_X11_grain_64 (K9_s k2) (gR (g_9_0 (K9_s k2)) (K9_e0 k2)) (isV_ref _) rfl).trans ?_
    refine (tq_iload i_X11_grain_67 rfl rfl).trans ?_
    refine (c_X7_get i_X11_grain_69 (ltd d_X11_grain (by decide)) (isA_ref _) (stOk_2 _ _) rfl).trans ?_
    refine (congrArg (cl _ _ _ _) (get_ok w4 (K9_n0 k2) (K9_s0 k2) (by decide) (g3 c1))).trans ?_
    refine (cl_v _ _ _ _ _ _).trans ?_
    refine (tq_iload i_X11_grain_72 rfl rfl).trans ?_
    refine (tq_iadd i_X11_grain_74 rfl).trans ?_
    refine (c_X11_withinValues i_X11_grain_75 (ltd d_X11_grain (by decide)) (stOk_2 _ _) rfl).trans ?_
    refine (congrArg (cl _ _ _ _) (withinValues_ok rfl)).trans ?_
    refine (cl_v _ _ _ _ _ _).trans ?_
    refine (c_X7_put i_X11_grain_78 (ltd d_X11_grain (by decide)) (isA_ref _) stOk_0 rfl).trans ?_
    refine (congrArg (cl _ _ _ _) (put_ok w4 (K9_n0 k2) (K9_s0 k2) (g3 c1))).trans ?_
    refine (cl_n _ _ _ _ _).trans ?_
    refine (tq_iinc (L' := [.ref a0, v1, .int (mI x2), .int (mI ((1103515245 * x3) + 12345)), .int (mI (x4 + 1)), .int (mI ((Int.tmod (wr (((1103515245 * x3) + 12345) % 4294967296 / 2 ^ 16)) (wr ((2 * x2) + 1))) - x2))]) i_X11_grain_81 rfl rfl rfl).trans ?_
    refine (tq_goto (pc' := 26) i_X11_grain_84 (by decide)).trans ?_
    rfl
def gsq (s : Int) : Nat → Int
  | 0 => s
  | n + 1 => wr (1103515245 * gsq s n + 12345)
theorem gsq_w {s : Int} (w : wr s = s) : ∀ n : Nat, wr (gsq s n) = gsq s n
  | 0 => w
  | n + 1 => by
    unfold gsq
    have := wr_lo (1103515245 * gsq s n + 12345)
    have := wr_hi (1103515245 * gsq s n + 12345)
    exact wr_id (by omega) (by omega)
def grA (s z k : Int) : Int := (1103515245 * gsq s k.toNat + 12345) % 4294967296 / 65536 % (2 * z + 1) - z
def grT (c : Int → Int) (s z T : Int) : Int → Int := fun k => if (0 ≤ k ∧ k < 256) ∧ k < T then clampv (c k + grA s z k) else c k
theorem grain_ok (rc : RC σ h D) {s z : Int} (w : wr s = s) (hz : 1 ≤ z ∧ z ≤ 99) (pc : pixels (tc σ)) : ∃ h', rn m_X11_grain 0 [.ref 2, .int (mI s), .int (mI z), am_J, am_J, am_J] [] h = some (.inl (some (.int (mI (gsq s 256)))), h') ∧ Md (fun a _ => a = 3 ∨ a = 4) h h' ∧ gZ h' 3 = grT (tc σ) s z 256 := by
  have st := b_X11_grain_0 (a0 := 2) (x1 := s) (x2 := z) (h := h) (wr_id (by omega) (by omega))
  rw [if_neg (by omega), if_pos (by omega)] at st
  have e0 : gZ h 3 = tc σ := rc.2.2.1
  generalize hc : tc σ = c at *
  have g0 : grT c s z 0 = c := by
    funext k
    unfold grT
    exact if_neg (by omega)
  rw [st]
  refine lp (m := m_X11_grain) (pc := 26) (L := fun i (v : Value) => [.ref 2, .int (mI s), .int (mI z), .int (mI (gsq s i.toNat)), .int (mI i), v]) (N := 256) (P := fun r => ∃ h', r = some (.inl (some (.int (mI (gsq s 256)))), h') ∧ Md (fun a _ => a = 3 ∨ a = 4) h h' ∧ gZ h' 3 = grT c s z 256) (fun i v h' => 0 ≤ i ∧ Md (fun a _ => a = 3 ∨ a = 4) h h' ∧ gZ h' 3 = grT c s z i) ?_ ?_ 0 am_J h (by omega) ⟨by omega, Md_rf _ _, by rw [g0]; exact e0⟩
  · intro i v h' hi ⟨i0, md, hz2⟩
    have k2 := K9_sm md.1 rc.1
    have st2 := b_X11_grain_26 (a0 := 2) (v1 := .int (mI s)) (v5 := v) (x2 := z) (x3 := gsq s i.toNat) (h := h') (wr_id (z := i) (by omega) (by omega)) (fun _ => by rw [wr_id (by omega) (by omega)]; omega) k2 (fun _ => ⟨i0, hi⟩)
    simp only [Nat.reduceAdd] at st2
    have gi : gZ h' 3 i = c i := by
      rw [hz2]
      unfold grT
      exact if_neg (by omega)
    have pi := pc i i0 hi
    have e16 : (2 : Int) ^ 16 = 65536 := by decide
    have nb : 0 ≤ (1103515245 * gsq s i.toNat + 12345) % 4294967296 / 65536 ∧ (1103515245 * gsq s i.toNat + 12345) % 4294967296 / 65536 < 65536 := by omega
    have mb : 0 ≤ (1103515245 * gsq s i.toNat + 12345) % 4294967296 / 65536 % (2 * z + 1) ∧ (1103515245 * gsq s i.toNat + 12345) % 4294967296 / 65536 % (2 * z + 1) < 2 * z + 1 := ⟨Int.emod_nonneg _ (by omega), Int.emod_lt_of_pos _ (by omega)⟩
    have ea : (1103515245 * gsq s i.toNat + 12345) % 4294967296 / 65536 % (2 * z + 1) - z = grA s z i := rfl
    rw [if_neg (by omega), gi, e16, wr_id (z := (1103515245 * gsq s i.toNat + 12345) % 4294967296 / 65536) (by omega) (by omega), wr_id (z := 2 * z + 1) (by omega) (by omega), tmd nb.1, ea, wr_id (z := c i + grA s z i) (by omega) (by omega)] at st2
    have em : (Value.int (mI ((1103515245 * gsq s i.toNat) + 12345))) = .int (mI (gsq s (i + 1).toNat)) := by
      rw [show (i + 1).toNat = i.toNat + 1 by omega]
      show _ = Value.int (mI (wr _))
      rw [mI_wr]
    rw [em] at st2
    refine ⟨_, _, st2, by omega, Md_tr md (Md_mono (Md_uZ _ _ _ _) fun a _ w => Or.inl w), ?_⟩
    funext k
    rw [gZ_uZ' (sh1 (K9_s0 k2)), hz2, wr_clampv]
    unfold grT
    by_cases e : k = i
    · subst e
      rw [if_pos rfl, if_pos (by omega)]
    · rw [if_neg e]
      by_cases c1 : (0 ≤ k ∧ k < 256) ∧ k < i
      · rw [if_pos c1, if_pos (by omega)]
      · rw [if_neg c1, if_neg (by omega)]
  · intro v h' ⟨i0, md, hz2⟩
    have k2 := K9_sm md.1 rc.1
    have st2 := b_X11_grain_26 (a0 := 2) (v1 := .int (mI s)) (v5 := v) (x2 := z) (x3 := gsq s (256 : Int).toNat) (h := h') (wr_id (z := 256) (by omega) (by omega)) (fun g => absurd (by omega) g) k2 (fun g => absurd (by omega) g)
    rw [if_pos (by omega), show (256 : Int).toNat = 256 by decide] at st2
    exact ⟨h', st2, md, hz2⟩
theorem grain_x {s z : Int} (w : wr z = z) (g : ¬ (1 ≤ z ∧ z ≤ 99)) : rn m_X11_grain 0 [.ref 2, .int (mI s), .int (mI z), am_J, am_J, am_J] [] h = some (.inr 0, hexc h) := by
  rw [b_X11_grain_0 w]
  by_cases c1 : z < 1
  · rw [if_pos c1]
  · rw [if_neg c1, if_neg (by omega)]
theorem i_X11_move_0 : am_i m_X11_move 0 = some (0, .iload_n 1, 1, [], 0) := rfl
theorem i_X11_move_1 : am_i m_X11_move 1 = some (1, .bipush (-16), 2, [], -16) := rfl
theorem i_X11_move_3 : am_i m_X11_move 3 = some (3, .if_icmp .le 21, 3, [], 0) := rfl
theorem i_X11_move_6 : am_i m_X11_move 6 = some (6, .iload_n 1, 1, [], 0) := rfl
theorem i_X11_move_7 : am_i m_X11_move 7 = some (7, .bipush 16, 2, [], 16) := rfl
theorem i_X11_move_9 : am_i m_X11_move 9 = some (9, .if_icmp .ge 15, 3, [], 0) := rfl
theorem i_X11_move_12 : am_i m_X11_move 12 = some (12, .iload_n 2, 1, [], 0) := rfl
theorem i_X11_move_13 : am_i m_X11_move 13 = some (13, .bipush (-16), 2, [], -16) := rfl
theorem i_X11_move_15 : am_i m_X11_move 15 = some (15, .if_icmp .le 9, 3, [], 0) := rfl
theorem i_X11_move_18 : am_i m_X11_move 18 = some (18, .iload_n 2, 1, [], 0) := rfl
theorem i_X11_move_19 : am_i m_X11_move 19 = some (19, .bipush 16, 2, [], 16) := rfl
theorem i_X11_move_21 : am_i m_X11_move 21 = some (21, .if_icmp .lt 13, 3, [], 0) := rfl
theorem i_X11_move_24 : am_i m_X11_move 24 = some (24, .new 86, 3, [0, 0], 0) := rfl
theorem i_X11_move_34 : am_i m_X11_move 34 = some (34, .iconst 0, 1, [], 0) := rfl
theorem i_X11_move_35 : am_i m_X11_move 35 = some (35, .istore_n 3, 1, [], 0) := rfl
theorem b_X11_move_0 {a0 : Nat} {x1 x2 x1' x2' : Int} {h : am_H} (w1 : wr x1 = x1') (w2 : wr x2 = x2') : rn m_X11_move 0 [.ref a0, .int (mI x1), .int (mI x2), am_J, am_J, am_J] [] h = if x1' ≤ (-16) then some (.inr 0, hexc h) else if 16 ≤ x1' then some (.inr 0, hexc h) else if x2' ≤ (-16) then some (.inr 0, hexc h) else if x2' < 16 then rn m_X11_move 36 [.ref a0, .int (mI x1), .int (mI x2), .int (mI 0), am_J, am_J] [] h else some (.inr 0, hexc h) := by
  refine (tq_iload_n i_X11_move_0 rfl rfl).trans ?_
  refine (tq_bipush i_X11_move_1 rfl).trans ?_
  refine (tq_icmp_le (pt := 24) i_X11_move_3 w1 w_m16 (by decide) rfl).trans ?_
  refine ite_congr rfl (fun c1 => ?_) (fun c1 => ?_)
  · exact tq_newx i_X11_move_24
  · refine (tq_iload_n i_X11_move_6 rfl rfl).trans ?_
    refine (tq_bipush i_X11_move_7 rfl).trans ?_
    refine (tq_icmp_ge (pt := 24) i_X11_move_9 w1 w_16 (by decide) rfl).trans ?_
    refine ite_congr rfl (fun c2 => ?_) (fun c2 => ?_)
    · exact tq_newx i_X11_move_24
    · refine (tq_iload_n i_X11_move_12 rfl rfl).trans ?_
      refine (tq_bipush i_X11_move_13 rfl).trans ?_
      refine (tq_icmp_le (pt := 24) i_X11_move_15 w2 w_m16 (by decide) rfl).trans ?_
      refine ite_congr rfl (fun c3 => ?_) (fun c3 => ?_)
      · exact tq_newx i_X11_move_24
      · refine (tq_iload_n i_X11_move_18 rfl rfl).trans ?_
        refine (tq_bipush i_X11_move_19 rfl).trans ?_
        refine (tq_icmp_lt (pt := 34) i_X11_move_21 w2 w_16 (by decide) rfl).trans ?_
        refine ite_congr rfl (fun c4 => ?_) (fun c4 => ?_)
        · refine (tq_iconst i_X11_move_34 rfl).trans ?_
          refine (tq_istore_n (L' := [.ref a0, .int (mI x1), .int (mI x2), .int (mI 0), am_J, am_J]) i_X11_move_35 rfl rfl).trans ?_
          rfl
        · exact tq_newx i_X11_move_24
theorem i_X11_move_36 : am_i m_X11_move 36 = some (36, .iload_n 3, 1, [], 0) := rfl
theorem i_X11_move_37 : am_i m_X11_move 37 = some (37, .bipush 16, 2, [], 16) := rfl
theorem i_X11_move_39 : am_i m_X11_move 39 = some (39, .if_icmp .ge 65, 3, [], 0) := rfl
theorem i_X11_move_42 : am_i m_X11_move 42 = some (42, .iconst 0, 1, [], 0) := rfl
theorem i_X11_move_43 : am_i m_X11_move 43 = some (43, .istore 4, 2, [], 0) := rfl
theorem i_X11_move_104 : am_i m_X11_move 104 = some (104, .aload_n 0, 1, [], 0) := rfl
theorem i_X11_move_105 : am_i m_X11_move 105 = some (105, .getfield 13, 3, [9, 1, 0], 0) := rfl
theorem i_X11_move_108 : am_i m_X11_move 108 = some (108, .aload_n 0, 1, [], 0) := rfl
theorem i_X11_move_109 : am_i m_X11_move 109 = some (109, .getfield 9, 3, [9, 0, 0], 0) := rfl
theorem i_X11_move_112 : am_i m_X11_move 112 = some (112, .invokestatic 126, 3, [31], 0) := rfl
theorem b_X11_move_36 {a0 : Nat} {x1 x2 x3 x3' : Int} {v4 v5 : Value} {h : am_H} (w3 : wr x3 = x3') (k1 : K9 h a0) : rn m_X11_move 36 [.ref a0, .int (mI x1), .int (mI x2), .int (mI x3), v4, v5] [] h = if 16 ≤ x3' then cl m_X11_move 115 [.ref a0, .int (mI x1), .int (mI x2), .int (mI x3), v4, v5] [] (rn m_X7_copy 0 [.ref (a0 + 2), .ref (a0 + 1), am_J] [] h) else rn m_X11_move 45 [.ref a0, .int (mI x1), .int (mI x2), .int (mI x3), .int (mI 0), v5] [] h := by
  refine (tq_iload_n i_X11_move_36 rfl rfl).trans ?_
  refine (tq_bipush i_X11_move_37 rfl).trans ?_
  refine (tq_icmp_ge (pt := 104) i_X11_move_39 w3 w_16 (by decide) rfl).trans ?_
  refine ite_congr rfl (fun c1 => ?_) (fun c1 => ?_)
  · refine (tq_aload_n i_X11_move_104 rfl (isA_ref _) rfl).trans ?_
    refine (tq_getfield i_X11_move_105 (K9_s k1) (gR (g_9_1 (K9_s k1)) (K9_e1 k1)) (isV_ref _) rfl).trans ?_
    refine (tq_aload_n i_X11_move_108 rfl (isA_ref _) rfl).trans ?_
    refine (tq_getfield i_X11_move_109 (K9_s k1) (gR (g_9_0 (K9_s k1)) (K9_e0 k1)) (isV_ref _) rfl).trans ?_
    exact c_X7_copy i_X11_move_112 (ltd d_X11_move (by decide)) (isA_ref _) (isA_ref _) stOk_0 rfl
  · refine (tq_iconst i_X11_move_42 rfl).trans ?_
    refine (tq_istore (L' := [.ref a0, .int (mI x1), .int (mI x2), .int (mI x3), .int (mI 0), v5]) i_X11_move_43 rfl rfl).trans ?_
    rfl
theorem i_X11_move_45 : am_i m_X11_move 45 = some (45, .iload 4, 2, [], 0) := rfl
theorem i_X11_move_47 : am_i m_X11_move 47 = some (47, .bipush 16, 2, [], 16) := rfl
theorem i_X11_move_49 : am_i m_X11_move 49 = some (49, .if_icmp .ge 49, 3, [], 0) := rfl
theorem i_X11_move_52 : am_i m_X11_move 52 = some (52, .iload 4, 2, [], 0) := rfl
theorem i_X11_move_54 : am_i m_X11_move 54 = some (54, .iload_n 1, 1, [], 0) := rfl
theorem i_X11_move_55 : am_i m_X11_move 55 = some (55, .iadd, 1, [], 0) := rfl
theorem i_X11_move_56 : am_i m_X11_move 56 = some (56, .bipush 15, 2, [], 15) := rfl
theorem i_X11_move_58 : am_i m_X11_move 58 = some (58, .iand, 1, [], 0) := rfl
theorem i_X11_move_59 : am_i m_X11_move 59 = some (59, .iload_n 3, 1, [], 0) := rfl
theorem i_X11_move_60 : am_i m_X11_move 60 = some (60, .iload_n 2, 1, [], 0) := rfl
theorem i_X11_move_61 : am_i m_X11_move 61 = some (61, .iadd, 1, [], 0) := rfl
theorem i_X11_move_62 : am_i m_X11_move 62 = some (62, .bipush 15, 2, [], 15) := rfl
theorem i_X11_move_64 : am_i m_X11_move 64 = some (64, .iand, 1, [], 0) := rfl
theorem i_X11_move_65 : am_i m_X11_move 65 = some (65, .invokestatic 99, 3, [13], 0) := rfl
theorem i_X11_move_68 : am_i m_X11_move 68 = some (68, .istore 5, 2, [], 0) := rfl
theorem i_X11_move_70 : am_i m_X11_move 70 = some (70, .aload_n 0, 1, [], 0) := rfl
theorem i_X11_move_71 : am_i m_X11_move 71 = some (71, .getfield 13, 3, [9, 1, 0], 0) := rfl
theorem i_X11_move_74 : am_i m_X11_move 74 = some (74, .iload 5, 2, [], 0) := rfl
theorem i_X11_move_76 : am_i m_X11_move 76 = some (76, .aload_n 0, 1, [], 0) := rfl
theorem i_X11_move_77 : am_i m_X11_move 77 = some (77, .getfield 9, 3, [9, 0, 0], 0) := rfl
theorem i_X11_move_80 : am_i m_X11_move 80 = some (80, .iload 4, 2, [], 0) := rfl
theorem i_X11_move_82 : am_i m_X11_move 82 = some (82, .iload_n 3, 1, [], 0) := rfl
theorem i_X11_move_83 : am_i m_X11_move 83 = some (83, .invokestatic 99, 3, [13], 0) := rfl
theorem i_X11_move_86 : am_i m_X11_move 86 = some (86, .invokestatic 103, 3, [32], 0) := rfl
theorem i_X11_move_89 : am_i m_X11_move 89 = some (89, .invokestatic 109, 3, [33], 0) := rfl
theorem i_X11_move_92 : am_i m_X11_move 92 = some (92, .iinc 4 1, 3, [], 0) := rfl
theorem i_X11_move_95 : am_i m_X11_move 95 = some (95, .goto (-50), 3, [], 0) := rfl
theorem i_X11_move_98 : am_i m_X11_move 98 = some (98, .iinc 3 1, 3, [], 0) := rfl
theorem i_X11_move_101 : am_i m_X11_move 101 = some (101, .goto (-65), 3, [], 0) := rfl
theorem b_X11_move_45 {a0 : Nat} {x1 x2 x3 x4 x4' : Int} {v5 : Value} {h : am_H} (w4 : wr x4 = x4') (k1 : K9 h a0) (g2 : (¬ (16 ≤ x4')) → (0 ≤ (wr ((16 * x3) + x4)) ∧ (wr ((16 * x3) + x4)) < (256 : Int))) (g3 : (¬ (16 ≤ x4')) → (0 ≤ (wr ((16 * ((wr (x3 + x2)) % 2 ^ 4)) + ((wr (x4 + x1)) % 2 ^ 4))) ∧ (wr ((16 * ((wr (x3 + x2)) % 2 ^ 4)) + ((wr (x4 + x1)) % 2 ^ 4))) < (256 : Int))) : rn m_X11_move 45 [.ref a0, .int (mI x1), .int (mI x2), .int (mI x3), .int (mI x4), v5] [] h = if 16 ≤ x4' then rn m_X11_move 36 [.ref a0, .int (mI x1), .int (mI x2), .int (mI (x3 + 1)), .int (mI x4), v5] [] h else rn m_X11_move 45 [.ref a0, .int (mI x1), .int (mI x2), .int (mI x3), .int (mI (x4 + 1)), .int (mI ((16 * ((wr (x3 + x2)) % 2 ^ 4)) + ((wr (x4 + x1)) % 2 ^ 4)))] [] (uZ h (a0 + 2) (wr ((16 * ((wr (x3 + x2)) % 2 ^ 4)) + ((wr (x4 + x1)) % 2 ^ 4))) (gZ h (a0 + 1) (wr ((16 * x3) + x4)))) := by
  refine (tq_iload i_X11_move_45 rfl rfl).trans ?_
  refine (tq_bipush i_X11_move_47 rfl).trans ?_
  refine (tq_icmp_ge (pt := 98) i_X11_move_49 w4 w_16 (by decide) rfl).trans ?_
  refine ite_congr rfl (fun c1 => ?_) (fun c1 => ?_)
  · refine (tq_iinc (L' := [.ref a0, .int (mI x1), .int (mI x2), .int (mI (x3 + 1)), .int (mI x4), v5]) i_X11_move_98 rfl rfl rfl).trans ?_
    refine (tq_goto (pc' := 36) i_X11_move_101 (by decide)).trans ?_
    rfl
  · refine (tq_iload i_X11_move_52 rfl rfl).trans ?_
    refine (tq_iload_n i_X11_move_54 rfl rfl).trans ?_
    refine (tq_iadd i_X11_move_55 rfl).trans ?_
    refine (tq_bipush i_X11_move_56 rfl).trans ?_
    refine (tq_imask 4 i_X11_move_58 rfl (by decide) (by decide) rfl).trans ?_
    refine (tq_iload_n i_X11_move_59 rfl rfl).trans ?_
    refine (tq_iload_n i_X11_move_60 rfl rfl).trans ?_
    refine (tq_iadd i_X11_move_61 rfl).trans ?_
    refine (tq_bipush i_X11_move_62 rfl).trans ?_
    refine (tq_imask 4 i_X11_move_64 rfl (by decide) (by decide) rfl).trans ?_
    refine (c_X11_placeOf i_X11_move_65 (ltd d_X11_move (by decide)) stOk_0 rfl).trans ?_
    refine (congrArg (cl _ _ _ _) (b_X11_placeOf_0)).trans ?_
    refine (cl_v _ _ _ _ _ _).trans ?_
    refine (tq_istore (L' := [.ref a0, .int (mI x1), .int (mI x2), .int (mI x3), .int (mI x4), .int (mI ((16 * ((wr (x3 + x2)) % 2 ^ 4)) + ((wr (x4 + x1)) % 2 ^ 4)))]) i_X11_move_68 rfl rfl).trans ?_
    refine (tq_aload_n i_X11_move_70 rfl (isA_ref _) rfl).trans ?_
    refine (tq_getfield i_X11_move_71 (K9_s k1) (gR (g_9_1 (K9_s k1)) (K9_e1 k1)) (isV_ref _) rfl).trans ?_
    refine (tq_iload i_X11_move_74 rfl rfl).trans ?_
    refine (tq_aload_n i_X11_move_76 rfl (isA_ref _) rfl).trans ?_
    refine (tq_getfield i_X11_move_77 (K9_s k1) (gR (g_9_0 (K9_s k1)) (K9_e0 k1)) (isV_ref _) rfl).trans ?_
    refine (tq_iload i_X11_move_80 rfl rfl).trans ?_
    refine (tq_iload_n i_X11_move_82 rfl rfl).trans ?_
    refine (c_X11_placeOf i_X11_move_83 (ltd d_X11_move (by decide)) (stOk_3 _ _ _) rfl).trans ?_
    refine (congrArg (cl _ _ _ _) (b_X11_placeOf_0)).trans ?_
    refine (cl_v _ _ _ _ _ _).trans ?_
    refine (c_X7_get i_X11_move_86 (ltd d_X11_move (by decide)) (isA_ref _) (stOk_2 _ _) rfl).trans ?_
    refine (congrArg (cl _ _ _ _) (get_ok rfl (K9_n0 k1) (K9_s0 k1) (by decide) (g2 c1))).trans ?_
    refine (cl_v _ _ _ _ _ _).trans ?_
    refine (c_X7_put i_X11_move_89 (ltd d_X11_move (by decide)) (isA_ref _) stOk_0 rfl).trans ?_
    refine (congrArg (cl _ _ _ _) (put_ok rfl (K9_n1 k1) (K9_s1 k1) (g3 c1))).trans ?_
    refine (cl_n _ _ _ _ _).trans ?_
    refine (tq_iinc (L' := [.ref a0, .int (mI x1), .int (mI x2), .int (mI x3), .int (mI (x4 + 1)), .int (mI ((16 * ((wr (x3 + x2)) % 2 ^ 4)) + ((wr (x4 + x1)) % 2 ^ 4)))]) i_X11_move_92 rfl rfl rfl).trans ?_
    refine (tq_goto (pc' := 45) i_X11_move_95 (by decide)).trans ?_
    rfl
theorem i_X11_move_115 : am_i m_X11_move 115 = some (115, .aload_n 0, 1, [], 0) := rfl
theorem i_X11_move_116 : am_i m_X11_move 116 = some (116, .getfield 9, 3, [9, 0, 0], 0) := rfl
theorem i_X11_move_119 : am_i m_X11_move 119 = some (119, .iconst 0, 1, [], 0) := rfl
theorem i_X11_move_120 : am_i m_X11_move 120 = some (120, .invokestatic 103, 3, [32], 0) := rfl
theorem i_X11_move_123 : am_i m_X11_move 123 = some (123, .ireturn, 1, [], 0) := rfl
theorem b_X11_move_115 {a0 : Nat} {v1 v2 v3 v4 v5 : Value} {h : am_H} (k1 : K9 h a0) (g2 : (0 : Int) ≤ 0 ∧ 0 < (256 : Int)) : rn m_X11_move 115 [.ref a0, v1, v2, v3, v4, v5] [] h = some (.inl (some (.int (mI (gZ h (a0 + 1) 0)))), h) := by
  refine (tq_aload_n i_X11_move_115 rfl (isA_ref _) rfl).trans ?_
  refine (tq_getfield i_X11_move_116 (K9_s k1) (gR (g_9_0 (K9_s k1)) (K9_e0 k1)) (isV_ref _) rfl).trans ?_
  refine (tq_iconst i_X11_move_119 rfl).trans ?_
  refine (c_X7_get i_X11_move_120 (ltd d_X11_move (by decide)) (isA_ref _) stOk_0 rfl).trans ?_
  refine (congrArg (cl _ _ _ _) (get_ok w_0 (K9_n0 k1) (K9_s0 k1) (by decide) g2)).trans ?_
  refine (cl_v _ _ _ _ _ _).trans ?_
  exact tq_ireturn i_X11_move_123 r_X11_move rfl
def isM (a b : Int) : Prop := (-15 ≤ a ∧ a ≤ 15) ∧ -15 ≤ b ∧ b ≤ 15
def mvT (c : Int → Int) (a b : Int) : Int → Int := fun k => if 0 ≤ k ∧ k < 256 then c (16 * ((k / 16 - b) % 16) + (k % 16 - a) % 16) else c k
theorem move_ok (rc : RC σ h D) {a b : Int} (g : isM a b) : ∃ h', rn m_X11_move 0 [.ref 2, .int (mI a), .int (mI b), am_J, am_J, am_J] [] h = some (.inl (some (.int (mI (mvT (tc σ) a b 0)))), h') ∧ Md (fun a _ => a = 3 ∨ a = 4) h h' ∧ gZ h' 3 = mvT (tc σ) a b := by
  obtain ⟨ga, gb⟩ := g
  have st := b_X11_move_0 (a0 := 2) (x1 := a) (x2 := b) (h := h) (wr_id (by omega) (by omega)) (wr_id (by omega) (by omega))
  rw [if_neg (by omega), if_neg (by omega), if_neg (by omega), if_pos (by omega)] at st
  have e0 : gZ h 3 = tc σ := rc.2.2.1
  generalize hc : tc σ = c at *
  rw [st]
  have e4 : (2 : Int) ^ 4 = 16 := by decide
  refine lp (m := m_X11_move) (pc := 36) (L := fun i (z : Value × Value) => [.ref 2, .int (mI a), .int (mI b), .int (mI i), z.1, z.2]) (N := 16) (P := fun r => ∃ h', r = some (.inl (some (.int (mI (mvT c a b 0)))), h') ∧ Md (fun a _ => a = 3 ∨ a = 4) h h' ∧ gZ h' 3 = mvT c a b) (fun i z h' => 0 ≤ i ∧ Md (fun a _ => a = 4) h h' ∧ ∀ k, 0 ≤ k → k < 256 → (k / 16 - b) % 16 < i → gZ h' 4 k = c (16 * ((k / 16 - b) % 16) + (k % 16 - a) % 16)) ?_ ?_ 0 (am_J, am_J) h (by omega) ⟨by omega, Md_rf _ _, fun k k0 k1 k2 => by omega⟩
  · intro i z h' hi ⟨i0, md, hz⟩
    have st2 := b_X11_move_36 (a0 := 2) (x1 := a) (x2 := b) (v4 := z.1) (v5 := z.2) (h := h') (wr_id (z := i) (by omega) (by omega)) (K9_sm md.1 rc.1)
    rw [if_neg (by omega)] at st2
    have in1 := lp (m := m_X11_move) (pc := 45) (L := fun j (z : Value) => [.ref 2, .int (mI a), .int (mI b), .int (mI i), .int (mI j), z]) (N := 16) (P := fun r => ∃ (z' : Value × Value) (h2 : am_H), r = rn m_X11_move 36 [.ref 2, .int (mI a), .int (mI b), .int (mI (i + 1)), z'.1, z'.2] [] h2 ∧ 0 ≤ i + 1 ∧ Md (fun a _ => a = 4) h h2 ∧ ∀ k, 0 ≤ k → k < 256 → (k / 16 - b) % 16 < i + 1 → gZ h2 4 k = c (16 * ((k / 16 - b) % 16) + (k % 16 - a) % 16)) (fun j z h2 => 0 ≤ j ∧ Md (fun a _ => a = 4) h h2 ∧ ∀ k, 0 ≤ k → k < 256 → ((k / 16 - b) % 16 < i ∨ ((k / 16 - b) % 16 = i ∧ (k % 16 - a) % 16 < j)) → gZ h2 4 k = c (16 * ((k / 16 - b) % 16) + (k % 16 - a) % 16)) ?_ ?_ 0 z.2 h' (by omega) ⟨by omega, md, fun k k0 k1 k2 => hz k k0 k1 (by omega)⟩
    · obtain ⟨z', h2, e2, r2⟩ := in1
      exact ⟨z', h2, st2.trans e2, r2⟩
    · intro j z h2 hj ⟨j0, md2, hz2⟩
      have k2 := K9_sm md2.1 rc.1
      have ei : wr ((16 * i) + j) = 16 * i + j := wr_id (by omega) (by omega)
      have et : wr ((16 * ((wr (i + b)) % 2 ^ 4)) + ((wr (j + a)) % 2 ^ 4)) = 16 * ((i + b) % 16) + (j + a) % 16 := by rw [e4, wr_id (z := i + b) (by omega) (by omega), wr_id (z := j + a) (by omega) (by omega), wr_id (by omega) (by omega)]
      have st3 := b_X11_move_45 (a0 := 2) (x1 := a) (x2 := b) (x3 := i) (v5 := z) (h := h2) (wr_id (z := j) (by omega) (by omega)) k2 (fun _ => by rw [ei]; omega) (fun _ => by rw [et]; omega)
      simp only [Nat.reduceAdd] at st3
      have g3 : gZ h2 3 = c := (md_Z md2 (by omega)).trans e0
      rw [if_neg (by omega), ei, et, g3] at st3
      refine ⟨_, _, st3, by omega, Md_tr md2 (Md_uZ _ _ _ _), fun k k0 k1 kk => ?_⟩
      rw [gZ_uZ' (sh1 (K9_s1 k2))]
      by_cases e : k = 16 * ((i + b) % 16) + (j + a) % 16
      · subst e
        rw [if_pos rfl, ← g3, wr_gZ]
        congr 1
        omega
      · rw [if_neg e]
        exact hz2 k k0 k1 (by omega)
    · intro z h2 ⟨j0, md2, hz2⟩
      have k2 := K9_sm md2.1 rc.1
      have st3 := b_X11_move_45 (a0 := 2) (x1 := a) (x2 := b) (x3 := i) (v5 := z) (h := h2) (wr_id (z := 16) (by omega) (by omega)) k2 (fun g => absurd (by omega) g) (fun g => absurd (by omega) g)
      rw [if_pos (by omega)] at st3
      exact ⟨(_, _), h2, st3, by omega, md2, fun k k0 k1 kk => hz2 k k0 k1 (by omega)⟩
  · intro z h' ⟨i0, md, hz⟩
    have k2 := K9_sm md.1 rc.1
    have st2 := b_X11_move_36 (a0 := 2) (x1 := a) (x2 := b) (v4 := z.1) (v5 := z.2) (h := h') (wr_id (z := 16) (by omega) (by omega)) k2
    rw [if_pos (by omega)] at st2
    obtain ⟨h3, e3, m3, c1, c2⟩ := copy_md (K9_s1 k2) (K9_n1 k2) (K9_s0 k2) (K9_n0 k2) (by omega)
    have k3 := K9_sm m3.1 k2
    have c256 : ((min 256 256 : Nat) : Int) = 256 := by decide
    have st4 := b_X11_move_115 (a0 := 2) (v1 := .int (mI a)) (v2 := .int (mI b)) (v3 := .int (mI 16)) (v4 := z.1) (v5 := z.2) (h := h3) k3 (by decide)
    rw [e3, cl_n, st4] at st2
    have gg : gZ h3 3 = mvT c a b := by
      funext k
      unfold mvT
      by_cases e : 0 ≤ k ∧ k < 256
      · rw [if_pos e]
        exact (c1 k e.1 (by omega)).trans (hz k e.1 e.2 (by omega))
      · rw [if_neg e]
        refine (c2 k (by omega)).trans ?_
        have : gZ h' 3 = c := (md_Z md (by omega)).trans e0
        exact congrFun this k
    refine ⟨h3, ?_, Md_tr (Md_mono md fun _ _ q => Or.inr q) (Md_mono m3 fun _ _ q => Or.inl q), gg⟩
    rw [← gg]
    exact st2
theorem move_x {a b : Int} (w1 : wr a = a) (w2 : wr b = b) (g : ¬ isM a b) : rn m_X11_move 0 [.ref 2, .int (mI a), .int (mI b), am_J, am_J, am_J] [] h = some (.inr 0, hexc h) := by
  rw [b_X11_move_0 w1 w2]
  unfold isM at g
  by_cases c1 : a ≤ -16
  · rw [if_pos c1]
  · rw [if_neg c1]
    by_cases c2 : 16 ≤ a
    · rw [if_pos c2]
    · rw [if_neg c2]
      by_cases c3 : b ≤ -16
      · rw [if_pos c3]
      · rw [if_neg c3, if_neg (by omega)]
end CV
