/-! ===== the model builds squares and parts ===== -/
theorem i_X12_back_0 : am_i m_X12_back 0 = some (0, .bipush 16, 2, [], 16) := rfl
theorem i_X12_back_2 : am_i m_X12_back 2 = some (2, .newarray .int, 2, [], 0) := rfl
theorem b_X12_back_0 {a0 : Nat} {x1 x2 x3 : Int} {h : am_H} : rn m_X12_back 0 [.ref a0, .int (mI x1), .int (mI x2), .int (mI x3), am_J, am_J, am_J] [] h = rn m_X12_back 4 [.ref a0, .int (mI x1), .int (mI x2), .int (mI x3), am_J, am_J, am_J] [.ref (hnx h)] (aI 0 16 h) := by
  refine (tq_bipush i_X12_back_0 rfl).trans ?_
  exact tq_newI (n := 16) (t := 0) i_X12_back_2 w_16 (by decide) rfl (by decide) rfl rfl
theorem i_X12_back_4 : am_i m_X12_back 4 = some (4, .astore 4, 2, [], 0) := rfl
theorem i_X12_back_6 : am_i m_X12_back 6 = some (6, .iconst 0, 1, [], 0) := rfl
theorem i_X12_back_7 : am_i m_X12_back 7 = some (7, .istore 5, 2, [], 0) := rfl
theorem b_X12_back_4 {a0 as0 : Nat} {x1 x2 x3 : Int} {v4 v5 v6 : Value} {h : am_H} : rn m_X12_back 4 [.ref a0, .int (mI x1), .int (mI x2), .int (mI x3), v4, v5, v6] [.ref as0] h = rn m_X12_back 9 [.ref a0, .int (mI x1), .int (mI x2), .int (mI x3), .ref as0, .int (mI 0), v6] [] h := by
  refine (tq_astore (L' := [.ref a0, .int (mI x1), .int (mI x2), .int (mI x3), .ref as0, v5, v6]) i_X12_back_4 (isA_ref _) rfl rfl).trans ?_
  refine (tq_iconst i_X12_back_6 rfl).trans ?_
  refine (tq_istore (L' := [.ref a0, .int (mI x1), .int (mI x2), .int (mI x3), .ref as0, .int (mI 0), v6]) i_X12_back_7 rfl rfl).trans ?_
  rfl
theorem i_X12_back_9 : am_i m_X12_back 9 = some (9, .iload 5, 2, [], 0) := rfl
theorem i_X12_back_11 : am_i m_X12_back 11 = some (11, .bipush 16, 2, [], 16) := rfl
theorem i_X12_back_13 : am_i m_X12_back 13 = some (13, .if_icmp .ge 36, 3, [], 0) := rfl
theorem i_X12_back_16 : am_i m_X12_back 16 = some (16, .aload 4, 2, [], 0) := rfl
theorem i_X12_back_18 : am_i m_X12_back 18 = some (18, .iload 5, 2, [], 0) := rfl
theorem i_X12_back_20 : am_i m_X12_back 20 = some (20, .iconst 4, 1, [], 4) := rfl
theorem i_X12_back_21 : am_i m_X12_back 21 = some (21, .iload_n 3, 1, [], 0) := rfl
theorem i_X12_back_22 : am_i m_X12_back 22 = some (22, .imul, 1, [], 0) := rfl
theorem i_X12_back_23 : am_i m_X12_back 23 = some (23, .aload_n 0, 1, [], 0) := rfl
theorem i_X12_back_24 : am_i m_X12_back 24 = some (24, .bipush 16, 2, [], 16) := rfl
theorem i_X12_back_26 : am_i m_X12_back 26 = some (26, .iload_n 2, 1, [], 0) := rfl
theorem i_X12_back_27 : am_i m_X12_back 27 = some (27, .iload 5, 2, [], 0) := rfl
theorem i_X12_back_29 : am_i m_X12_back 29 = some (29, .iconst 4, 1, [], 4) := rfl
theorem i_X12_back_30 : am_i m_X12_back 30 = some (30, .idiv, 1, [], 0) := rfl
theorem i_X12_back_31 : am_i m_X12_back 31 = some (31, .iadd, 1, [], 0) := rfl
theorem i_X12_back_32 : am_i m_X12_back 32 = some (32, .imul, 1, [], 0) := rfl
theorem i_X12_back_33 : am_i m_X12_back 33 = some (33, .iload_n 1, 1, [], 0) := rfl
theorem i_X12_back_34 : am_i m_X12_back 34 = some (34, .iadd, 1, [], 0) := rfl
theorem i_X12_back_35 : am_i m_X12_back 35 = some (35, .iload 5, 2, [], 0) := rfl
theorem i_X12_back_37 : am_i m_X12_back 37 = some (37, .iconst 4, 1, [], 4) := rfl
theorem i_X12_back_38 : am_i m_X12_back 38 = some (38, .irem, 1, [], 0) := rfl
theorem i_X12_back_39 : am_i m_X12_back 39 = some (39, .iadd, 1, [], 0) := rfl
theorem i_X12_back_40 : am_i m_X12_back 40 = some (40, .iaload, 1, [], 0) := rfl
theorem i_X12_back_41 : am_i m_X12_back 41 = some (41, .imul, 1, [], 0) := rfl
theorem i_X12_back_42 : am_i m_X12_back 42 = some (42, .iastore, 1, [], 0) := rfl
theorem i_X12_back_43 : am_i m_X12_back 43 = some (43, .iinc 5 1, 3, [], 0) := rfl
theorem i_X12_back_46 : am_i m_X12_back 46 = some (46, .goto (-37), 3, [], 0) := rfl
theorem i_X12_back_49 : am_i m_X12_back 49 = some (49, .aload 4, 2, [], 0) := rfl
theorem i_X12_back_51 : am_i m_X12_back 51 = some (51, .invokestatic 201, 3, [98], 0) := rfl
theorem b_X12_back_9 {a0 a4 n_a0 n_a4 : Nat} {x1 x2 x3 x5 x5' : Int} {v6 : Value} {h : am_H} (w5 : wr x5 = x5') (n1 : gn h a0 = n_a0) (s2 : sh h a0 = (1, 0)) (g3 : (¬ (16 ≤ x5')) → (0 ≤ wr (((16 * (x2 + (Int.tdiv x5' 4))) + x1) + (Int.tmod x5' 4)) ∧ wr (((16 * (x2 + (Int.tdiv x5' 4))) + x1) + (Int.tmod x5' 4)) < (n_a0 : Int))) (n4 : gn h a4 = n_a4) (s5 : sh h a4 = (1, 0)) (g6 : (¬ (16 ≤ x5')) → (0 ≤ x5' ∧ x5' < (n_a4 : Int))) : rn m_X12_back 9 [.ref a0, .int (mI x1), .int (mI x2), .int (mI x3), .ref a4, .int (mI x5), v6] [] h = if 16 ≤ x5' then cl m_X12_back 54 [.ref a0, .int (mI x1), .int (mI x2), .int (mI x3), .ref a4, .int (mI x5), v6] [] (rn m_X12_turned 0 [.ref a4, am_J, am_J, am_J, am_J] [] h) else rn m_X12_back 9 [.ref a0, .int (mI x1), .int (mI x2), .int (mI x3), .ref a4, .int (mI (x5 + 1)), v6] [] (uZ h a4 x5' ((4 * x3) * (gZ h a0 (wr (((16 * (x2 + (Int.tdiv x5' 4))) + x1) + (Int.tmod x5' 4)))))) := by
  refine (tq_iload i_X12_back_9 rfl rfl).trans ?_
  refine (tq_bipush i_X12_back_11 rfl).trans ?_
  refine (tq_icmp_ge (pt := 49) i_X12_back_13 w5 w_16 (by decide) rfl).trans ?_
  refine ite_congr rfl (fun c1 => ?_) (fun c1 => ?_)
  · refine (tq_aload i_X12_back_49 rfl (isA_ref _) rfl).trans ?_
    exact c_X12_turned i_X12_back_51 (ltd d_X12_back (by decide)) (isA_ref _) stOk_0 rfl
  · refine (tq_aload i_X12_back_16 rfl (isA_ref _) rfl).trans ?_
    refine (tq_iload i_X12_back_18 rfl rfl).trans ?_
    refine (tq_iconst i_X12_back_20 rfl).trans ?_
    refine (tq_iload_n i_X12_back_21 rfl rfl).trans ?_
    refine (tq_imul i_X12_back_22 rfl).trans ?_
    refine (tq_aload_n i_X12_back_23 rfl (isA_ref _) rfl).trans ?_
    refine (tq_bipush i_X12_back_24 rfl).trans ?_
    refine (tq_iload_n i_X12_back_26 rfl rfl).trans ?_
    refine (tq_iload i_X12_back_27 rfl rfl).trans ?_
    refine (tq_iconst i_X12_back_29 rfl).trans ?_
    refine (tq_idiv i_X12_back_30 w5 w_4 (by decide) rfl).trans ?_
    refine (tq_iadd i_X12_back_31 rfl).trans ?_
    refine (tq_imul i_X12_back_32 rfl).trans ?_
    refine (tq_iload_n i_X12_back_33 rfl rfl).trans ?_
    refine (tq_iadd i_X12_back_34 rfl).trans ?_
    refine (tq_iload i_X12_back_35 rfl rfl).trans ?_
    refine (tq_iconst i_X12_back_37 rfl).trans ?_
    refine (tq_irem i_X12_back_38 w5 w_4 (by decide) rfl).trans ?_
    refine (tq_iadd i_X12_back_39 rfl).trans ?_
    refine (tq_iaload i_X12_back_40 s2 (by decide) rfl (g3 c1).1 (lt_gn n1 (g3 c1).2) rfl).trans ?_
    refine (tq_imul i_X12_back_41 rfl).trans ?_
    refine (tq_iastore i_X12_back_42 s5 w5 (g6 c1).1 (lt_gn n4 (g6 c1).2) rfl).trans ?_
    refine (tq_iinc (L' := [.ref a0, .int (mI x1), .int (mI x2), .int (mI x3), .ref a4, .int (mI (x5 + 1)), v6]) i_X12_back_43 rfl rfl rfl).trans ?_
    refine (tq_goto (pc' := 9) i_X12_back_46 (by decide)).trans ?_
    rfl
theorem i_X12_back_54 : am_i m_X12_back 54 = some (54, .astore 5, 2, [], 0) := rfl
theorem i_X12_back_56 : am_i m_X12_back 56 = some (56, .iconst 0, 1, [], 0) := rfl
theorem i_X12_back_57 : am_i m_X12_back 57 = some (57, .istore 6, 2, [], 0) := rfl
theorem b_X12_back_54 {v0 v1 v2 v3 v4 v5 v6 : Value} {as0 : Nat} {h : am_H} : rn m_X12_back 54 [v0, v1, v2, v3, v4, v5, v6] [.ref as0] h = rn m_X12_back 59 [v0, v1, v2, v3, (am_k1 v4), .ref as0, .int (mI 0)] [] h := by
  refine (tq_astore (L' := [v0, v1, v2, v3, (am_k1 v4), .ref as0, v6]) i_X12_back_54 (isA_ref _) rfl rfl).trans ?_
  refine (tq_iconst i_X12_back_56 rfl).trans ?_
  refine (tq_istore (L' := [v0, v1, v2, v3, (am_k1 v4), .ref as0, .int (mI 0)]) i_X12_back_57 rfl rfl).trans ?_
  rfl
theorem i_X12_back_59 : am_i m_X12_back 59 = some (59, .iload 6, 2, [], 0) := rfl
theorem i_X12_back_61 : am_i m_X12_back 61 = some (61, .bipush 16, 2, [], 16) := rfl
theorem i_X12_back_63 : am_i m_X12_back 63 = some (63, .if_icmp .ge 24, 3, [], 0) := rfl
theorem i_X12_back_66 : am_i m_X12_back 66 = some (66, .aload 5, 2, [], 0) := rfl
theorem i_X12_back_68 : am_i m_X12_back 68 = some (68, .iload 6, 2, [], 0) := rfl
theorem i_X12_back_70 : am_i m_X12_back 70 = some (70, .aload 5, 2, [], 0) := rfl
theorem i_X12_back_72 : am_i m_X12_back 72 = some (72, .iload 6, 2, [], 0) := rfl
theorem i_X12_back_74 : am_i m_X12_back 74 = some (74, .iaload, 1, [], 0) := rfl
theorem i_X12_back_75 : am_i m_X12_back 75 = some (75, .bipush 8, 2, [], 8) := rfl
theorem i_X12_back_77 : am_i m_X12_back 77 = some (77, .iadd, 1, [], 0) := rfl
theorem i_X12_back_78 : am_i m_X12_back 78 = some (78, .iconst 4, 1, [], 4) := rfl
theorem i_X12_back_79 : am_i m_X12_back 79 = some (79, .ishr, 1, [], 0) := rfl
theorem i_X12_back_80 : am_i m_X12_back 80 = some (80, .iastore, 1, [], 0) := rfl
theorem i_X12_back_81 : am_i m_X12_back 81 = some (81, .iinc 6 1, 3, [], 0) := rfl
theorem i_X12_back_84 : am_i m_X12_back 84 = some (84, .goto (-25), 3, [], 0) := rfl
theorem i_X12_back_87 : am_i m_X12_back 87 = some (87, .aload 5, 2, [], 0) := rfl
theorem i_X12_back_89 : am_i m_X12_back 89 = some (89, .areturn, 1, [], 0) := rfl
theorem b_X12_back_59 {v0 v1 v2 v3 v4 : Value} {a5 n_a5 : Nat} {x6 x6' : Int} {h : am_H} (w6 : wr x6 = x6') (n1 : gn h a5 = n_a5) (s2 : sh h a5 = (1, 0)) (g3 : (¬ (16 ≤ x6')) → (0 ≤ x6' ∧ x6' < (n_a5 : Int))) : rn m_X12_back 59 [v0, v1, v2, v3, v4, .ref a5, .int (mI x6)] [] h = if 16 ≤ x6' then some (.inl (some (.ref a5)), h) else rn m_X12_back 59 [v0, v1, v2, v3, v4, .ref a5, .int (mI (x6 + 1))] [] (uZ h a5 x6' ((wr ((gZ h a5 x6') + 8)) / 2 ^ 4)) := by
  refine (tq_iload i_X12_back_59 rfl rfl).trans ?_
  refine (tq_bipush i_X12_back_61 rfl).trans ?_
  refine (tq_icmp_ge (pt := 87) i_X12_back_63 w6 w_16 (by decide) rfl).trans ?_
  refine ite_congr rfl (fun c1 => ?_) (fun c1 => ?_)
  · refine (tq_aload i_X12_back_87 rfl (isA_ref _) rfl).trans ?_
    exact tq_areturn i_X12_back_89 (isA_ref _) r_X12_back rfl
  · refine (tq_aload i_X12_back_66 rfl (isA_ref _) rfl).trans ?_
    refine (tq_iload i_X12_back_68 rfl rfl).trans ?_
    refine (tq_aload i_X12_back_70 rfl (isA_ref _) rfl).trans ?_
    refine (tq_iload i_X12_back_72 rfl rfl).trans ?_
    refine (tq_iaload i_X12_back_74 s2 (by decide) w6 (g3 c1).1 (lt_gn n1 (g3 c1).2) rfl).trans ?_
    refine (tq_bipush i_X12_back_75 rfl).trans ?_
    refine (tq_iadd i_X12_back_77 rfl).trans ?_
    refine (tq_iconst i_X12_back_78 rfl).trans ?_
    refine (tq_ishr (k := 4) i_X12_back_79 rfl w_4 (by decide) rfl).trans ?_
    refine (tq_iastore i_X12_back_80 s2 w6 (g3 c1).1 (lt_gn n1 (g3 c1).2) rfl).trans ?_
    refine (tq_iinc (L' := [v0, v1, v2, v3, v4, .ref a5, .int (mI (x6 + 1))]) i_X12_back_81 rfl rfl rfl).trans ?_
    refine (tq_goto (pc' := 59) i_X12_back_84 (by decide)).trans ?_
    rfl
theorem ip16 {k : Int} (hk : 0 ≤ k ∧ k < 16) : 16 * (k / 4) + k % 4 = ip k := by unfold ip; omega
theorem back_ok {h : am_H} {L : Nat} {X Y q : Int} (sL : sh h L = (1, 0)) (nL : gn h L = 256) (lL : L < hnx h) (hX : 0 ≤ X ∧ X ≤ 12) (hY : 0 ≤ Y ∧ Y ≤ 12) (hq : 1 ≤ q ∧ q ≤ 40) (hl : ∀ k, 0 ≤ k → k < 16 → -5000 ≤ 4 * q * gZ h L (16 * Y + X + ip k) ∧ 4 * q * gZ h L (16 * Y + X + ip k) ≤ 5000) : ∃ h', rn m_X12_back 0 [.ref L, .int (mI X), .int (mI Y), .int (mI q), am_J, am_J, am_J] [] h = some (.inl (some (.ref (hnx h + 1))), h') ∧ Fr (fun _ _ => False) 2 32 h h' ∧ hnx h' = hnx h + 2 ∧ sh h' (hnx h + 1) = (1, 0) ∧ gn h' (hnx h + 1) = 16 ∧ ∀ k, 0 ≤ k → k < 16 → gZ h' (hnx h + 1) k = dif q (fun j => gZ h L (16 * Y + X + ip j)) k := by
  rw [b_X12_back_0, b_X12_back_4]
  have sA : sh (aI 0 16 h) (hnx h) = (1, 0) := sh_aI (by decide)
  have nA : gn (aI 0 16 h) (hnx h) = 16 := gn_aI _ _ _
  refine lp (m := m_X12_back) (pc := 9) (L := fun k (z : Value) => [.ref L, .int (mI X), .int (mI Y), .int (mI q), .ref (hnx h), .int (mI k), z]) (N := 16) (P := fun r => ∃ h', r = some (.inl (some (.ref (hnx h + 1))), h') ∧ Fr (fun _ _ => False) 2 32 h h' ∧ hnx h' = hnx h + 2 ∧ sh h' (hnx h + 1) = (1, 0) ∧ gn h' (hnx h + 1) = 16 ∧ ∀ k, 0 ≤ k → k < 16 → gZ h' (hnx h + 1) k = dif q (fun j => gZ h L (16 * Y + X + ip j)) k) (fun k z h' => 0 ≤ k ∧ Md (fun c _ => c = hnx h) (aI 0 16 h) h' ∧ ∀ j, 0 ≤ j → j < k → gZ h' (hnx h) j = 4 * q * gZ h L (16 * Y + X + ip j)) ?_ ?_ 0 am_J (aI 0 16 h) (by omega) ⟨by omega, Md_rf _ _, fun j j0 j1 => by omega⟩
  · intro k z h' hk ⟨k0, md, hh⟩
    have ik := ip16 ⟨k0, hk⟩
    have ib := ip_b k
    have fr := fr_new md
    have st := b_X12_back_9 (a0 := L) (a4 := hnx h) (n_a0 := 256) (n_a4 := 16) (x1 := X) (x2 := Y) (x3 := q) (v6 := z) (h := h') (wr_id (z := k) (by omega) (by omega)) ((fr.1.gn1 lL).trans nL) ((fr.1.sh1 lL).trans sL)
    rw [tdv k0, tmd k0, wr_id (z := 16 * (Y + k / 4) + X + k % 4) (by omega) (by omega), show 16 * (Y + k / 4) + X + k % 4 = 16 * Y + X + ip k by omega] at st
    have st := st (fun _ => by omega) ((md_gn md _).trans nA) ((md_sh md _).trans sA) (fun _ => by omega)
    rw [if_neg (by omega), fr.1.gZ1 _ lL (fun q => q)] at st
    refine ⟨_, _, st, by omega, Md_tr md (Md_uZ _ _ _ _), fun j j0 j1 => ?_⟩
    rw [gZ_uZ' (sh1 ((md_sh md _).trans sA))]
    by_cases e : j = k
    · have := hl k k0 hk
      rw [if_pos e, e, wr_id (by omega) (by omega)]
    · rw [if_neg e]
      exact hh j j0 (by omega)
  · intro z h1 ⟨k0, md, hh⟩
    have fr1 := fr_new md
    have nx1 := nx_new md
    have st := b_X12_back_9 (a0 := L) (a4 := hnx h) (n_a0 := 256) (n_a4 := 16) (x1 := X) (x2 := Y) (x3 := q) (v6 := z) (h := h1) (wr_id (z := 16) (by omega) (by omega)) ((fr1.1.gn1 lL).trans nL) ((fr1.1.sh1 lL).trans sL) (fun _ => by omega) ((md_gn md _).trans nA) ((md_sh md _).trans sA) (fun _ => by omega)
    rw [if_pos (by omega)] at st
    obtain ⟨h2, e2, fr2, nx2, sB, nB, r2⟩ := turned_ok (s := fun j => 4 * q * gZ h L (16 * Y + X + ip j)) ((md_sh md _).trans sA) ((md_gn md _).trans nA) (by omega) (fun j j0 j1 => hh j j0 j1) (fun j j0 j1 => by have := hl j j0 j1; omega)
    rw [nx1] at e2 sB nB r2
    have hdb := hd_b hl
    rw [e2, cl_v, b_X12_back_54] at st
    rw [st]
    refine lp (m := m_X12_back) (pc := 59) (L := fun k (z : Unit) => [.ref L, .int (mI X), .int (mI Y), .int (mI q), am_k1 (.ref (hnx h)), .ref (hnx h + 1), .int (mI k)]) (N := 16) (P := fun r => ∃ h', r = some (.inl (some (.ref (hnx h + 1))), h') ∧ Fr (fun _ _ => False) 2 32 h h' ∧ hnx h' = hnx h + 2 ∧ sh h' (hnx h + 1) = (1, 0) ∧ gn h' (hnx h + 1) = 16 ∧ ∀ k, 0 ≤ k → k < 16 → gZ h' (hnx h + 1) k = dif q (fun j => gZ h L (16 * Y + X + ip j)) k) (fun k z h' => 0 ≤ k ∧ Md (fun c _ => c = hnx h + 1) h2 h' ∧ ∀ j, 0 ≤ j → j < 16 → gZ h' (hnx h + 1) j = if j < k then dif q (fun j => gZ h L (16 * Y + X + ip j)) j else hd (fun j => 4 * q * gZ h L (16 * Y + X + ip j)) j) ?_ ?_ 0 () h2 (by omega) ⟨by omega, Md_rf _ _, fun j j0 j1 => by rw [if_neg (by omega)]; exact r2 j j0 j1⟩
    · intro k z h' hk ⟨k0, md3, hh3⟩
      have b1 := hdb k
      have st := b_X12_back_59 (v0 := .ref L) (v1 := .int (mI X)) (v2 := .int (mI Y)) (v3 := .int (mI q)) (v4 := am_k1 (.ref (hnx h))) (a5 := hnx h + 1) (n_a5 := 16) (h := h') (wr_id (z := k) (by omega) (by omega)) ((md_gn md3 _).trans nB) ((md_sh md3 _).trans sB) (fun _ => by omega)
      rw [if_neg (by omega), hh3 k k0 hk, if_neg (by omega), wr_id (z := hd (fun j => 4 * q * gZ h L (16 * Y + X + ip j)) k + 8) (by omega) (by omega), show (2 : Int) ^ 4 = 16 from rfl] at st
      refine ⟨(), _, st, by omega, Md_tr md3 (Md_uZ _ _ _ _), fun j j0 j1 => ?_⟩
      rw [gZ_uZ' (sh1 ((md_sh md3 _).trans sB))]
      by_cases e : j = k
      · rw [if_pos e, if_pos (by omega), wr_id (by omega) (by omega), e]
        rfl
      · rw [if_neg e, hh3 j j0 j1]
        by_cases q2 : j < k
        · rw [if_pos q2, if_pos (by omega)]
        · rw [if_neg q2, if_neg (by omega)]
    · intro z h' ⟨k0, md3, hh3⟩
      have st := b_X12_back_59 (v0 := .ref L) (v1 := .int (mI X)) (v2 := .int (mI Y)) (v3 := .int (mI q)) (v4 := am_k1 (.ref (hnx h))) (a5 := hnx h + 1) (n_a5 := 16) (h := h') (wr_id (z := 16) (by omega) (by omega)) ((md_gn md3 _).trans nB) ((md_sh md3 _).trans sB) (fun _ => by omega)
      rw [if_pos (by omega)] at st
      refine ⟨h', st, ?_, by rw [md_nx md3, nx2, nx1], (md_sh md3 _).trans sB, (md_gn md3 _).trans nB, fun k k0 k1 => by rw [hh3 k k0 k1, if_pos (by omega)]⟩
      exact Fr_mono (Fr_tr (U := fun _ _ => False) (Fr_tr (U := fun _ _ => False) fr1 fr2 (fun _ _ _ q => q) (fun _ _ _ q => q)) (md_fr md3) (fun _ _ _ q => q) (fun a k ha q => by omega)) (fun _ _ _ q => q) (by decide) (by decide)
theorem i_X12_codesSquare_0 : am_i m_X12_codesSquare 0 = some (0, .bipush 16, 2, [], 16) := rfl
theorem i_X12_codesSquare_2 : am_i m_X12_codesSquare 2 = some (2, .newarray .int, 2, [], 0) := rfl
theorem b_X12_codesSquare_0 {a0 a3 : Nat} {x1 x2 : Int} {h : am_H} : rn m_X12_codesSquare 0 [.ref a0, .int (mI x1), .int (mI x2), .ref a3, am_J, am_J, am_J, am_J] [] h = rn m_X12_codesSquare 4 [.ref a0, .int (mI x1), .int (mI x2), .ref a3, am_J, am_J, am_J, am_J] [.ref (hnx h)] (aI 0 16 h) := by
  refine (tq_bipush i_X12_codesSquare_0 rfl).trans ?_
  exact tq_newI (n := 16) (t := 0) i_X12_codesSquare_2 w_16 (by decide) rfl (by decide) rfl rfl
theorem i_X12_codesSquare_4 : am_i m_X12_codesSquare 4 = some (4, .astore 4, 2, [], 0) := rfl
theorem i_X12_codesSquare_6 : am_i m_X12_codesSquare 6 = some (6, .iconst 0, 1, [], 0) := rfl
theorem i_X12_codesSquare_7 : am_i m_X12_codesSquare 7 = some (7, .istore 5, 2, [], 0) := rfl
theorem b_X12_codesSquare_4 {a0 a3 as0 : Nat} {x1 x2 : Int} {v4 v5 v6 v7 : Value} {h : am_H} : rn m_X12_codesSquare 4 [.ref a0, .int (mI x1), .int (mI x2), .ref a3, v4, v5, v6, v7] [.ref as0] h = rn m_X12_codesSquare 9 [.ref a0, .int (mI x1), .int (mI x2), .ref a3, .ref as0, .int (mI 0), v6, v7] [] h := by
  refine (tq_astore (L' := [.ref a0, .int (mI x1), .int (mI x2), .ref a3, .ref as0, v5, v6, v7]) i_X12_codesSquare_4 (isA_ref _) rfl rfl).trans ?_
  refine (tq_iconst i_X12_codesSquare_6 rfl).trans ?_
  refine (tq_istore (L' := [.ref a0, .int (mI x1), .int (mI x2), .ref a3, .ref as0, .int (mI 0), v6, v7]) i_X12_codesSquare_7 rfl rfl).trans ?_
  rfl
theorem i_X12_codesSquare_9 : am_i m_X12_codesSquare 9 = some (9, .iload 5, 2, [], 0) := rfl
theorem i_X12_codesSquare_11 : am_i m_X12_codesSquare 11 = some (11, .bipush 16, 2, [], 16) := rfl
theorem i_X12_codesSquare_13 : am_i m_X12_codesSquare 13 = some (13, .if_icmp .ge 44, 3, [], 0) := rfl
theorem i_X12_codesSquare_16 : am_i m_X12_codesSquare 16 = some (16, .bipush 16, 2, [], 16) := rfl
theorem i_X12_codesSquare_18 : am_i m_X12_codesSquare 18 = some (18, .iload_n 2, 1, [], 0) := rfl
theorem i_X12_codesSquare_19 : am_i m_X12_codesSquare 19 = some (19, .iload 5, 2, [], 0) := rfl
theorem i_X12_codesSquare_21 : am_i m_X12_codesSquare 21 = some (21, .iconst 4, 1, [], 4) := rfl
theorem i_X12_codesSquare_22 : am_i m_X12_codesSquare 22 = some (22, .idiv, 1, [], 0) := rfl
theorem i_X12_codesSquare_23 : am_i m_X12_codesSquare 23 = some (23, .iadd, 1, [], 0) := rfl
theorem i_X12_codesSquare_24 : am_i m_X12_codesSquare 24 = some (24, .imul, 1, [], 0) := rfl
theorem i_X12_codesSquare_25 : am_i m_X12_codesSquare 25 = some (25, .iload_n 1, 1, [], 0) := rfl
theorem i_X12_codesSquare_26 : am_i m_X12_codesSquare 26 = some (26, .iadd, 1, [], 0) := rfl
theorem i_X12_codesSquare_27 : am_i m_X12_codesSquare 27 = some (27, .iload 5, 2, [], 0) := rfl
theorem i_X12_codesSquare_29 : am_i m_X12_codesSquare 29 = some (29, .iconst 4, 1, [], 4) := rfl
theorem i_X12_codesSquare_30 : am_i m_X12_codesSquare 30 = some (30, .irem, 1, [], 0) := rfl
theorem i_X12_codesSquare_31 : am_i m_X12_codesSquare 31 = some (31, .iadd, 1, [], 0) := rfl
theorem i_X12_codesSquare_32 : am_i m_X12_codesSquare 32 = some (32, .istore 6, 2, [], 0) := rfl
theorem i_X12_codesSquare_34 : am_i m_X12_codesSquare 34 = some (34, .aload 4, 2, [], 0) := rfl
theorem i_X12_codesSquare_36 : am_i m_X12_codesSquare 36 = some (36, .iload 5, 2, [], 0) := rfl
theorem i_X12_codesSquare_38 : am_i m_X12_codesSquare 38 = some (38, .aload_n 0, 1, [], 0) := rfl
theorem i_X12_codesSquare_39 : am_i m_X12_codesSquare 39 = some (39, .getfield 18, 3, [10, 1, 0], 0) := rfl
theorem i_X12_codesSquare_42 : am_i m_X12_codesSquare 42 = some (42, .iload 6, 2, [], 0) := rfl
theorem i_X12_codesSquare_44 : am_i m_X12_codesSquare 44 = some (44, .iaload, 1, [], 0) := rfl
theorem i_X12_codesSquare_45 : am_i m_X12_codesSquare 45 = some (45, .aload_n 3, 1, [], 0) := rfl
theorem i_X12_codesSquare_46 : am_i m_X12_codesSquare 46 = some (46, .iload 6, 2, [], 0) := rfl
theorem i_X12_codesSquare_48 : am_i m_X12_codesSquare 48 = some (48, .iaload, 1, [], 0) := rfl
theorem i_X12_codesSquare_49 : am_i m_X12_codesSquare 49 = some (49, .isub, 1, [], 0) := rfl
theorem i_X12_codesSquare_50 : am_i m_X12_codesSquare 50 = some (50, .iastore, 1, [], 0) := rfl
theorem i_X12_codesSquare_51 : am_i m_X12_codesSquare 51 = some (51, .iinc 5 1, 3, [], 0) := rfl
theorem i_X12_codesSquare_54 : am_i m_X12_codesSquare 54 = some (54, .goto (-45), 3, [], 0) := rfl
theorem i_X12_codesSquare_57 : am_i m_X12_codesSquare 57 = some (57, .aload 4, 2, [], 0) := rfl
theorem i_X12_codesSquare_59 : am_i m_X12_codesSquare 59 = some (59, .invokestatic 201, 3, [98], 0) := rfl
theorem b_X12_codesSquare_9 {a0 a3 a4 n_a3 n_a4 : Nat} {x1 x2 x5 x5' : Int} {v6 v7 : Value} {h : am_H} (w5 : wr x5 = x5') (k1 : K10 h a0) (g2 : (¬ (16 ≤ x5')) → (0 ≤ wr (((16 * (x2 + (Int.tdiv x5' 4))) + x1) + (Int.tmod x5' 4)) ∧ wr (((16 * (x2 + (Int.tdiv x5' 4))) + x1) + (Int.tmod x5' 4)) < (256 : Int))) (n3 : gn h a3 = n_a3) (s4 : sh h a3 = (1, 0)) (g5 : (¬ (16 ≤ x5')) → (0 ≤ wr (((16 * (x2 + (Int.tdiv x5' 4))) + x1) + (Int.tmod x5' 4)) ∧ wr (((16 * (x2 + (Int.tdiv x5' 4))) + x1) + (Int.tmod x5' 4)) < (n_a3 : Int))) (n6 : gn h a4 = n_a4) (s7 : sh h a4 = (1, 0)) (g8 : (¬ (16 ≤ x5')) → (0 ≤ x5' ∧ x5' < (n_a4 : Int))) : rn m_X12_codesSquare 9 [.ref a0, .int (mI x1), .int (mI x2), .ref a3, .ref a4, .int (mI x5), v6, v7] [] h = if 16 ≤ x5' then cl m_X12_codesSquare 62 [.ref a0, .int (mI x1), .int (mI x2), .ref a3, .ref a4, .int (mI x5), v6, v7] [] (rn m_X12_turned 0 [.ref a4, am_J, am_J, am_J, am_J] [] h) else rn m_X12_codesSquare 9 [.ref a0, .int (mI x1), .int (mI x2), .ref a3, .ref a4, .int (mI (x5 + 1)), .int (mI (((16 * (x2 + (Int.tdiv x5' 4))) + x1) + (Int.tmod x5' 4))), v7] [] (uZ h a4 x5' ((gZ h (a0 + 1) (wr (((16 * (x2 + (Int.tdiv x5' 4))) + x1) + (Int.tmod x5' 4)))) - (gZ h a3 (wr (((16 * (x2 + (Int.tdiv x5' 4))) + x1) + (Int.tmod x5' 4)))))) := by
  refine (tq_iload i_X12_codesSquare_9 rfl rfl).trans ?_
  refine (tq_bipush i_X12_codesSquare_11 rfl).trans ?_
  refine (tq_icmp_ge (pt := 57) i_X12_codesSquare_13 w5 w_16 (by decide) rfl).trans ?_
  refine ite_congr rfl (fun c1 => ?_) (fun c1 => ?_)
  · refine (tq_aload i_X12_codesSquare_57 rfl (isA_ref _) rfl).trans ?_
    exact c_X12_turned i_X12_codesSquare_59 (ltd d_X12_codesSquare (by decide)) (isA_ref _) stOk_0 rfl
  · refine (tq_bipush i_X12_codesSquare_16 rfl).trans ?_
    refine (tq_iload_n i_X12_codesSquare_18 rfl rfl).trans ?_
    refine (tq_iload i_X12_codesSquare_19 rfl rfl).trans ?_
    refine (tq_iconst i_X12_codesSquare_21 rfl).trans ?_
    refine (tq_idiv i_X12_codesSquare_22 w5 w_4 (by decide) rfl).trans ?_
    refine (tq_iadd i_X12_codesSquare_23 rfl).trans ?_
    refine (tq_imul i_X12_codesSquare_24 rfl).trans ?_
    refine (tq_iload_n i_X12_codesSquare_25 rfl rfl).trans ?_
    refine (tq_iadd i_X12_codesSquare_26 rfl).trans ?_
    refine (tq_iload i_X12_codesSquare_27 rfl rfl).trans ?_
    refine (tq_iconst i_X12_codesSquare_29 rfl).trans ?_
    refine (tq_irem i_X12_codesSquare_30 w5 w_4 (by decide) rfl).trans ?_
    refine (tq_iadd i_X12_codesSquare_31 rfl).trans ?_
    refine (tq_istore (L' := [.ref a0, .int (mI x1), .int (mI x2), .ref a3, .ref a4, .int (mI x5), .int (mI (((16 * (x2 + (Int.tdiv x5' 4))) + x1) + (Int.tmod x5' 4))), v7]) i_X12_codesSquare_32 rfl rfl).trans ?_
    refine (tq_aload i_X12_codesSquare_34 rfl (isA_ref _) rfl).trans ?_
    refine (tq_iload i_X12_codesSquare_36 rfl rfl).trans ?_
    refine (tq_aload_n i_X12_codesSquare_38 rfl (isA_ref _) rfl).trans ?_
    refine (tq_getfield i_X12_codesSquare_39 (K10_s k1) (gR (g_10_1 (K10_s k1)) (K10_e1 k1)) (isV_ref _) rfl).trans ?_
    refine (tq_iload i_X12_codesSquare_42 rfl rfl).trans ?_
    refine (tq_iaload i_X12_codesSquare_44 (K10_s1 k1) (by decide) rfl (g2 c1).1 (lt_gn (K10_n1 k1) (g2 c1).2) rfl).trans ?_
    refine (tq_aload_n i_X12_codesSquare_45 rfl (isA_ref _) rfl).trans ?_
    refine (tq_iload i_X12_codesSquare_46 rfl rfl).trans ?_
    refine (tq_iaload i_X12_codesSquare_48 s4 (by decide) rfl (g5 c1).1 (lt_gn n3 (g5 c1).2) rfl).trans ?_
    refine (tq_isub i_X12_codesSquare_49 rfl).trans ?_
    refine (tq_iastore i_X12_codesSquare_50 s7 w5 (g8 c1).1 (lt_gn n6 (g8 c1).2) rfl).trans ?_
    refine (tq_iinc (L' := [.ref a0, .int (mI x1), .int (mI x2), .ref a3, .ref a4, .int (mI (x5 + 1)), .int (mI (((16 * (x2 + (Int.tdiv x5' 4))) + x1) + (Int.tmod x5' 4))), v7]) i_X12_codesSquare_51 rfl rfl rfl).trans ?_
    refine (tq_goto (pc' := 9) i_X12_codesSquare_54 (by decide)).trans ?_
    rfl
theorem i_X12_codesSquare_62 : am_i m_X12_codesSquare 62 = some (62, .astore 5, 2, [], 0) := rfl
theorem i_X12_codesSquare_64 : am_i m_X12_codesSquare 64 = some (64, .iconst 0, 1, [], 0) := rfl
theorem i_X12_codesSquare_65 : am_i m_X12_codesSquare 65 = some (65, .istore 6, 2, [], 0) := rfl
theorem b_X12_codesSquare_62 {a0 as0 : Nat} {x1 x2 : Int} {v3 v4 v5 v6 v7 : Value} {h : am_H} : rn m_X12_codesSquare 62 [.ref a0, .int (mI x1), .int (mI x2), v3, v4, v5, v6, v7] [.ref as0] h = rn m_X12_codesSquare 67 [.ref a0, .int (mI x1), .int (mI x2), v3, (am_k1 v4), .ref as0, .int (mI 0), v7] [] h := by
  refine (tq_astore (L' := [.ref a0, .int (mI x1), .int (mI x2), v3, (am_k1 v4), .ref as0, v6, v7]) i_X12_codesSquare_62 (isA_ref _) rfl rfl).trans ?_
  refine (tq_iconst i_X12_codesSquare_64 rfl).trans ?_
  refine (tq_istore (L' := [.ref a0, .int (mI x1), .int (mI x2), v3, (am_k1 v4), .ref as0, .int (mI 0), v7]) i_X12_codesSquare_65 rfl rfl).trans ?_
  rfl
theorem i_X12_codesSquare_67 : am_i m_X12_codesSquare 67 = some (67, .iload 6, 2, [], 0) := rfl
theorem i_X12_codesSquare_69 : am_i m_X12_codesSquare 69 = some (69, .bipush 16, 2, [], 16) := rfl
theorem i_X12_codesSquare_71 : am_i m_X12_codesSquare 71 = some (71, .if_icmp .ge 68, 3, [], 0) := rfl
theorem i_X12_codesSquare_74 : am_i m_X12_codesSquare 74 = some (74, .aload 5, 2, [], 0) := rfl
theorem i_X12_codesSquare_76 : am_i m_X12_codesSquare 76 = some (76, .iload 6, 2, [], 0) := rfl
theorem i_X12_codesSquare_78 : am_i m_X12_codesSquare 78 = some (78, .iaload, 1, [], 0) := rfl
theorem i_X12_codesSquare_79 : am_i m_X12_codesSquare 79 = some (79, .invokestatic 175, 3, [0, 0], 0) := rfl
theorem i_X12_codesSquare_82 : am_i m_X12_codesSquare 82 = some (82, .aload_n 0, 1, [], 0) := rfl
theorem i_X12_codesSquare_83 : am_i m_X12_codesSquare 83 = some (83, .getfield 22, 3, [10, 2, 0], 0) := rfl
theorem i_X12_codesSquare_86 : am_i m_X12_codesSquare 86 = some (86, .iadd, 1, [], 0) := rfl
theorem i_X12_codesSquare_87 : am_i m_X12_codesSquare 87 = some (87, .iconst 4, 1, [], 4) := rfl
theorem i_X12_codesSquare_88 : am_i m_X12_codesSquare 88 = some (88, .aload_n 0, 1, [], 0) := rfl
theorem i_X12_codesSquare_89 : am_i m_X12_codesSquare 89 = some (89, .getfield 22, 3, [10, 2, 0], 0) := rfl
theorem i_X12_codesSquare_92 : am_i m_X12_codesSquare 92 = some (92, .imul, 1, [], 0) := rfl
theorem i_X12_codesSquare_93 : am_i m_X12_codesSquare 93 = some (93, .idiv, 1, [], 0) := rfl
theorem i_X12_codesSquare_94 : am_i m_X12_codesSquare 94 = some (94, .istore 7, 2, [], 0) := rfl
theorem i_X12_codesSquare_96 : am_i m_X12_codesSquare 96 = some (96, .aload_n 0, 1, [], 0) := rfl
theorem i_X12_codesSquare_97 : am_i m_X12_codesSquare 97 = some (97, .getfield 205, 3, [10, 32, 0], 0) := rfl
theorem i_X12_codesSquare_100 : am_i m_X12_codesSquare 100 = some (100, .bipush 16, 2, [], 16) := rfl
theorem i_X12_codesSquare_102 : am_i m_X12_codesSquare 102 = some (102, .iload_n 2, 1, [], 0) := rfl
theorem i_X12_codesSquare_103 : am_i m_X12_codesSquare 103 = some (103, .iload 6, 2, [], 0) := rfl
theorem i_X12_codesSquare_105 : am_i m_X12_codesSquare 105 = some (105, .iconst 4, 1, [], 4) := rfl
theorem i_X12_codesSquare_106 : am_i m_X12_codesSquare 106 = some (106, .idiv, 1, [], 0) := rfl
theorem i_X12_codesSquare_107 : am_i m_X12_codesSquare 107 = some (107, .iadd, 1, [], 0) := rfl
theorem i_X12_codesSquare_108 : am_i m_X12_codesSquare 108 = some (108, .imul, 1, [], 0) := rfl
theorem i_X12_codesSquare_109 : am_i m_X12_codesSquare 109 = some (109, .iload_n 1, 1, [], 0) := rfl
theorem i_X12_codesSquare_110 : am_i m_X12_codesSquare 110 = some (110, .iadd, 1, [], 0) := rfl
theorem i_X12_codesSquare_111 : am_i m_X12_codesSquare 111 = some (111, .iload 6, 2, [], 0) := rfl
theorem i_X12_codesSquare_113 : am_i m_X12_codesSquare 113 = some (113, .iconst 4, 1, [], 4) := rfl
theorem i_X12_codesSquare_114 : am_i m_X12_codesSquare 114 = some (114, .irem, 1, [], 0) := rfl
theorem i_X12_codesSquare_115 : am_i m_X12_codesSquare 115 = some (115, .iadd, 1, [], 0) := rfl
theorem i_X12_codesSquare_116 : am_i m_X12_codesSquare 116 = some (116, .aload 5, 2, [], 0) := rfl
theorem i_X12_codesSquare_118 : am_i m_X12_codesSquare 118 = some (118, .iload 6, 2, [], 0) := rfl
theorem i_X12_codesSquare_120 : am_i m_X12_codesSquare 120 = some (120, .iaload, 1, [], 0) := rfl
theorem i_X12_codesSquare_121 : am_i m_X12_codesSquare 121 = some (121, .ifCond .ge 9, 3, [], 0) := rfl
theorem i_X12_codesSquare_124 : am_i m_X12_codesSquare 124 = some (124, .iload 7, 2, [], 0) := rfl
theorem i_X12_codesSquare_126 : am_i m_X12_codesSquare 126 = some (126, .ineg, 1, [], 0) := rfl
theorem i_X12_codesSquare_127 : am_i m_X12_codesSquare 127 = some (127, .goto 5, 3, [], 0) := rfl
theorem i_X12_codesSquare_130 : am_i m_X12_codesSquare 130 = some (130, .iload 7, 2, [], 0) := rfl
theorem i_X12_codesSquare_132 : am_i m_X12_codesSquare 132 = some (132, .iastore, 1, [], 0) := rfl
theorem i_X12_codesSquare_133 : am_i m_X12_codesSquare 133 = some (133, .iinc 6 1, 3, [], 0) := rfl
theorem i_X12_codesSquare_136 : am_i m_X12_codesSquare 136 = some (136, .goto (-69), 3, [], 0) := rfl
theorem i_X12_codesSquare_139 : am_i m_X12_codesSquare 139 = some (139, .return_, 1, [], 0) := rfl
theorem b_X12_codesSquare_67 {a0 a5 n_a5 a0_level n_a0_level : Nat} {x1 x2 x6 x6' : Int} {v3 v4 v7 : Value} {h : am_H} (w6 : wr x6 = x6') (n1 : gn h a5 = n_a5) (s2 : sh h a5 = (1, 0)) (g3 : (¬ (16 ≤ x6')) → (0 ≤ x6' ∧ x6' < (n_a5 : Int))) (k4 : K10 h a0) (g5 : (¬ (16 ≤ x6')) → (wr (4 * (fZ h a0 2)) ≠ 0)) (e6 : fA h a0 32 = some a0_level) (n7 : gn h a0_level = n_a0_level) (s8 : sh h a0_level = (1, 0)) (g9 : (¬ (16 ≤ x6')) → (0 ≤ wr (((16 * (x2 + (Int.tdiv x6' 4))) + x1) + (Int.tmod x6' 4)) ∧ wr (((16 * (x2 + (Int.tdiv x6' 4))) + x1) + (Int.tmod x6' 4)) < (n_a0_level : Int))) : rn m_X12_codesSquare 67 [.ref a0, .int (mI x1), .int (mI x2), v3, v4, .ref a5, .int (mI x6), v7] [] h = if 16 ≤ x6' then some (.inl none, h) else rn m_X12_codesSquare 67 [.ref a0, .int (mI x1), .int (mI x2), v3, v4, .ref a5, .int (mI (x6 + 1)), .int (mI (Int.tdiv (wr ((max (gZ h a5 x6') (-(gZ h a5 x6'))) + (fZ h a0 2))) (wr (4 * (fZ h a0 2)))))] [] (uZ h a0_level (wr (((16 * (x2 + (Int.tdiv x6' 4))) + x1) + (Int.tmod x6' 4))) (if 0 ≤ (gZ h a5 x6') then (Int.tdiv (wr ((max (gZ h a5 x6') (-(gZ h a5 x6'))) + (fZ h a0 2))) (wr (4 * (fZ h a0 2))) : Int) else -(Int.tdiv (wr ((max (gZ h a5 x6') (-(gZ h a5 x6'))) + (fZ h a0 2))) (wr (4 * (fZ h a0 2)))))) := by
  refine (tq_iload i_X12_codesSquare_67 rfl rfl).trans ?_
  refine (tq_bipush i_X12_codesSquare_69 rfl).trans ?_
  refine (tq_icmp_ge (pt := 139) i_X12_codesSquare_71 w6 w_16 (by decide) rfl).trans ?_
  refine ite_congr rfl (fun c1 => ?_) (fun c1 => ?_)
  · exact tq_return i_X12_codesSquare_139 r_X12_codesSquare
  · refine (tq_aload i_X12_codesSquare_74 rfl (isA_ref _) rfl).trans ?_
    refine (tq_iload i_X12_codesSquare_76 rfl rfl).trans ?_
    refine (tq_iaload i_X12_codesSquare_78 s2 (by decide) w6 (g3 c1).1 (lt_gn n1 (g3 c1).2) rfl).trans ?_
    refine (tq_abs i_X12_codesSquare_79 (wr_gZ _ _ _) (Nat.le_of_ble_eq_true rfl) rfl).trans ?_
    refine (tq_aload_n i_X12_codesSquare_82 rfl (isA_ref _) rfl).trans ?_
    refine (tq_getfield i_X12_codesSquare_83 (K10_s k4) (g_10_2 (K10_s k4)) (isV_I _) rfl).trans ?_
    refine (tq_iadd i_X12_codesSquare_86 rfl).trans ?_
    refine (tq_iconst i_X12_codesSquare_87 rfl).trans ?_
    refine (tq_aload_n i_X12_codesSquare_88 rfl (isA_ref _) rfl).trans ?_
    refine (tq_getfield i_X12_codesSquare_89 (K10_s k4) (g_10_2 (K10_s k4)) (isV_I _) rfl).trans ?_
    refine (tq_imul i_X12_codesSquare_92 rfl).trans ?_
    refine (tq_idiv i_X12_codesSquare_93 rfl rfl (g5 c1) rfl).trans ?_
    refine (tq_istore (L' := [.ref a0, .int (mI x1), .int (mI x2), v3, v4, .ref a5, .int (mI x6), .int (mI (Int.tdiv (wr ((max (gZ h a5 x6') (-(gZ h a5 x6'))) + (fZ h a0 2))) (wr (4 * (fZ h a0 2)))))]) i_X12_codesSquare_94 rfl rfl).trans ?_
    refine (tq_aload_n i_X12_codesSquare_96 rfl (isA_ref _) rfl).trans ?_
    refine (tq_getfield i_X12_codesSquare_97 (K10_s k4) (gR (g_10_32 (K10_s k4)) e6) (isV_ref _) rfl).trans ?_
    refine (tq_bipush i_X12_codesSquare_100 rfl).trans ?_
    refine (tq_iload_n i_X12_codesSquare_102 rfl rfl).trans ?_
    refine (tq_iload i_X12_codesSquare_103 rfl rfl).trans ?_
    refine (tq_iconst i_X12_codesSquare_105 rfl).trans ?_
    refine (tq_idiv i_X12_codesSquare_106 w6 w_4 (by decide) rfl).trans ?_
    refine (tq_iadd i_X12_codesSquare_107 rfl).trans ?_
    refine (tq_imul i_X12_codesSquare_108 rfl).trans ?_
    refine (tq_iload_n i_X12_codesSquare_109 rfl rfl).trans ?_
    refine (tq_iadd i_X12_codesSquare_110 rfl).trans ?_
    refine (tq_iload i_X12_codesSquare_111 rfl rfl).trans ?_
    refine (tq_iconst i_X12_codesSquare_113 rfl).trans ?_
    refine (tq_irem i_X12_codesSquare_114 w6 w_4 (by decide) rfl).trans ?_
    refine (tq_iadd i_X12_codesSquare_115 rfl).trans ?_
    refine (tq_aload i_X12_codesSquare_116 rfl (isA_ref _) rfl).trans ?_
    refine (tq_iload i_X12_codesSquare_118 rfl rfl).trans ?_
    refine (tq_iaload i_X12_codesSquare_120 s2 (by decide) w6 (g3 c1).1 (lt_gn n1 (g3 c1).2) rfl).trans ?_
    refine (tq_if_ge (pt := 130) i_X12_codesSquare_121 (wr_gZ _ _ _) (by decide) rfl).trans ?_
    refine Eq.trans (b := if 0 ≤ (gZ h a5 x6') then rn m_X12_codesSquare 132 [.ref a0, .int (mI x1), .int (mI x2), v3, v4, .ref a5, .int (mI x6), .int (mI (Int.tdiv (wr ((max (gZ h a5 x6') (-(gZ h a5 x6'))) + (fZ h a0 2))) (wr (4 * (fZ h a0 2)))))] [.int (mI (Int.tdiv (wr ((max (gZ h a5 x6') (-(gZ h a5 x6'))) + (fZ h a0 2))) (wr (4 * (fZ h a0 2))))), .int (mI (((16 * (x2 + (Int.tdiv x6' 4))) + x1) + (Int.tmod x6' 4))), .ref a0_level] h else rn m_X12_codesSquare 132 [.ref a0, .int (mI x1), .int (mI x2), v3, v4, .ref a5, .int (mI x6), .int (mI (Int.tdiv (wr ((max (gZ h a5 x6') (-(gZ h a5 x6'))) + (fZ h a0 2))) (wr (4 * (fZ h a0 2)))))] [.int (mI (-(Int.tdiv (wr ((max (gZ h a5 x6') (-(gZ h a5 x6'))) + (fZ h a0 2))) (wr (4 * (fZ h a0 2)))))), .int (mI (((16 * (x2 + (Int.tdiv x6' 4))) + x1) + (Int.tmod x6' 4))), .ref a0_level] h) (ite_congr rfl (fun c2 => ?_) (fun c2 => ?_)) ?_
    · refine (tq_iload i_X12_codesSquare_130 rfl rfl).trans ?_
      rfl
    · refine (tq_iload i_X12_codesSquare_124 rfl rfl).trans ?_
      refine (tq_ineg i_X12_codesSquare_126 rfl).trans ?_
      refine (tq_goto (pc' := 132) i_X12_codesSquare_127 (by decide)).trans ?_
      rfl
    refine Eq.trans ite_I ?_
    refine (tq_iastore i_X12_codesSquare_132 s8 rfl (g9 c1).1 (lt_gn n7 (g9 c1).2) rfl).trans ?_
    refine (tq_iinc (L' := [.ref a0, .int (mI x1), .int (mI x2), v3, v4, .ref a5, .int (mI (x6 + 1)), .int (mI (Int.tdiv (wr ((max (gZ h a5 x6') (-(gZ h a5 x6'))) + (fZ h a0 2))) (wr (4 * (fZ h a0 2)))))]) i_X12_codesSquare_133 rfl rfl rfl).trans ?_
    refine (tq_goto (pc' := 67) i_X12_codesSquare_136 (by decide)).trans ?_
    rfl
theorem codesSquare_ok {h : am_H} {M G Lv : Nat} {X Y q : Int} (k10 : K10 h M) (lM : M + 22 < hnx h) (eL : fA h M 32 = some Lv) (sL : sh h Lv = (1, 0)) (nL : gn h Lv = 256) (lL : Lv < hnx h) (ML : M + 22 < Lv) (sG : sh h G = (1, 0)) (nG : gn h G = 256) (lG : G < hnx h) (hc : pixels (gZ h (M + 1))) (eq : fZ h M 2 = q) (hX : 0 ≤ X ∧ X ≤ 12) (hY : 0 ≤ Y ∧ Y ≤ 12) (hq : 1 ≤ q ∧ q ≤ 40) (hg : ∀ k, 0 ≤ k → k < 16 → 0 ≤ gZ h G (16 * Y + X + ip k) ∧ gZ h G (16 * Y + X + ip k) ≤ 255) : ∃ h', rn m_X12_codesSquare 0 [.ref M, .int (mI X), .int (mI Y), .ref G, am_J, am_J, am_J, am_J] [] h = some (.inl none, h') ∧ Fr (fun c _ => c = Lv) 2 32 h h' ∧ hnx h' = hnx h + 2 ∧ (∀ k, 0 ≤ k → k < 16 → gZ h' Lv (16 * Y + X + ip k) = lev q (hd (fun j => gZ h (M + 1) (16 * Y + X + ip j) - gZ h G (16 * Y + X + ip j)) k)) ∧ ∀ i, (∀ k, 0 ≤ k → k < 16 → i ≠ 16 * Y + X + ip k) → gZ h' Lv i = gZ h Lv i := by
  have db : ∀ k, 0 ≤ k → k < 16 → -255 ≤ gZ h (M + 1) (16 * Y + X + ip k) - gZ h G (16 * Y + X + ip k) ∧ gZ h (M + 1) (16 * Y + X + ip k) - gZ h G (16 * Y + X + ip k) ≤ 255 := fun k k0 k1 => by
    have h1 := hg k k0 k1
    have h3 := ip_b k
    have h2 := hc (16 * Y + X + ip k) (by omega) (by omega)
    omega
  rw [b_X12_codesSquare_0, b_X12_codesSquare_4]
  have sA : sh (aI 0 16 h) (hnx h) = (1, 0) := sh_aI (by decide)
  have nA : gn (aI 0 16 h) (hnx h) = 16 := gn_aI _ _ _
  refine lp (m := m_X12_codesSquare) (pc := 9) (L := fun k (z : Value × Value) => [.ref M, .int (mI X), .int (mI Y), .ref G, .ref (hnx h), .int (mI k), z.1, z.2]) (N := 16) (P := fun r => ∃ h', r = some (.inl none, h') ∧ Fr (fun c _ => c = Lv) 2 32 h h' ∧ hnx h' = hnx h + 2 ∧ (∀ k, 0 ≤ k → k < 16 → gZ h' Lv (16 * Y + X + ip k) = lev q (hd (fun j => gZ h (M + 1) (16 * Y + X + ip j) - gZ h G (16 * Y + X + ip j)) k)) ∧ ∀ i, (∀ k, 0 ≤ k → k < 16 → i ≠ 16 * Y + X + ip k) → gZ h' Lv i = gZ h Lv i) (fun k z h' => 0 ≤ k ∧ Md (fun c _ => c = hnx h) (aI 0 16 h) h' ∧ ∀ j, 0 ≤ j → j < k → gZ h' (hnx h) j = gZ h (M + 1) (16 * Y + X + ip j) - gZ h G (16 * Y + X + ip j)) ?_ ?_ 0 (am_J, am_J) (aI 0 16 h) (by omega) ⟨by omega, Md_rf _ _, fun j j0 j1 => by omega⟩
  · intro k z h' hk ⟨k0, md, hh⟩
    obtain ⟨z1, z2⟩ := z
    have ik := ip16 ⟨k0, hk⟩
    have ib := ip_b k
    have fr := fr_new md
    have st := b_X12_codesSquare_9 (a0 := M) (a3 := G) (a4 := hnx h) (n_a3 := 256) (n_a4 := 16) (x1 := X) (x2 := Y) (v6 := z1) (v7 := z2) (h := h') (wr_id (z := k) (by omega) (by omega)) (K10_fr fr lM k10)
    rw [tdv k0, tmd k0, wr_id (z := 16 * (Y + k / 4) + X + k % 4) (by omega) (by omega), show 16 * (Y + k / 4) + X + k % 4 = 16 * Y + X + ip k by omega] at st
    have st := st (fun _ => by omega) ((fr.1.gn1 lG).trans nG) ((fr.1.sh1 lG).trans sG) (fun _ => by omega) ((md_gn md _).trans nA) ((md_sh md _).trans sA) (fun _ => by omega)
    rw [if_neg (by omega), fr.1.gZ1 _ (by omega) (fun q => q), fr.1.gZ1 _ lG (fun q => q)] at st
    refine ⟨(_, _), _, st, by omega, Md_tr md (Md_uZ _ _ _ _), fun j j0 j1 => ?_⟩
    rw [gZ_uZ' (sh1 ((md_sh md _).trans sA))]
    by_cases e : j = k
    · have := db k k0 hk
      rw [if_pos e, e, wr_id (by omega) (by omega)]
    · rw [if_neg e]
      exact hh j j0 (by omega)
  · intro z h1 ⟨k0, md, hh⟩
    obtain ⟨z1, z2⟩ := z
    have fr1 := fr_new md
    have nx1 := nx_new md
    have st := b_X12_codesSquare_9 (a0 := M) (a3 := G) (a4 := hnx h) (n_a3 := 256) (n_a4 := 16) (x1 := X) (x2 := Y) (v6 := z1) (v7 := z2) (h := h1) (wr_id (z := 16) (by omega) (by omega)) (K10_fr fr1 lM k10) (fun _ => by omega) ((fr1.1.gn1 lG).trans nG) ((fr1.1.sh1 lG).trans sG) (fun _ => by omega) ((md_gn md _).trans nA) ((md_sh md _).trans sA) (fun _ => by omega)
    rw [if_pos (by omega)] at st
    obtain ⟨h2, e2, fr2, nx2, sB, nB, r2⟩ := turned_ok (s := fun j => gZ h (M + 1) (16 * Y + X + ip j) - gZ h G (16 * Y + X + ip j)) ((md_sh md _).trans sA) ((md_gn md _).trans nA) (by omega) (fun j j0 j1 => hh j j0 j1) (fun j j0 j1 => by have := db j j0 j1; omega)
    rw [nx1] at e2 sB nB r2
    have hdb := hd_b db
    have fr12 := Fr_tr (U := fun _ _ => False) fr1 fr2 (fun _ _ _ q => q) (fun _ _ _ q => q)
    rw [e2, cl_v, b_X12_codesSquare_62] at st
    simp only
    rw [st]
    have k2 := K10_fr fr12 lM k10
    have eL2 : fA h2 M 32 = some Lv := (fr12.1.fA1 (by omega) (fun q => q)).trans eL
    have eq2 : fZ h2 M 2 = q := (fr12.1.fZ1 (by omega) (fun q => q)).trans eq
    have sL2 : sh h2 Lv = (1, 0) := (fr12.1.sh1 lL).trans sL
    have nL2 : gn h2 Lv = 256 := (fr12.1.gn1 lL).trans nL
    refine lp (m := m_X12_codesSquare) (pc := 67) (L := fun k (z : Value) => [.ref M, .int (mI X), .int (mI Y), .ref G, am_k1 (.ref (hnx h)), .ref (hnx h + 1), .int (mI k), z]) (N := 16) (P := fun r => ∃ h', r = some (.inl none, h') ∧ Fr (fun c _ => c = Lv) 2 32 h h' ∧ hnx h' = hnx h + 2 ∧ (∀ k, 0 ≤ k → k < 16 → gZ h' Lv (16 * Y + X + ip k) = lev q (hd (fun j => gZ h (M + 1) (16 * Y + X + ip j) - gZ h G (16 * Y + X + ip j)) k)) ∧ ∀ i, (∀ k, 0 ≤ k → k < 16 → i ≠ 16 * Y + X + ip k) → gZ h' Lv i = gZ h Lv i) (fun k z h' => 0 ≤ k ∧ Md (fun c _ => c = Lv) h2 h' ∧ (∀ j, 0 ≤ j → j < k → gZ h' Lv (16 * Y + X + ip j) = lev q (hd (fun j => gZ h (M + 1) (16 * Y + X + ip j) - gZ h G (16 * Y + X + ip j)) j)) ∧ ∀ i, (∀ k, 0 ≤ k → k < 16 → i ≠ 16 * Y + X + ip k) → gZ h' Lv i = gZ h Lv i) ?_ ?_ 0 _ h2 (by omega) ⟨by omega, Md_rf _ _, fun j j0 j1 => by omega, fun i _ => fr12.1.gZ1 i lL (fun q => q)⟩
    · intro k z h' hk ⟨k0, md3, hh3, ho3⟩
      have b1 := hdb k
      have ik := ip16 ⟨k0, hk⟩
      have ib := ip_b k
      have lb := lev_b (co := hd (fun j => gZ h (M + 1) (16 * Y + X + ip j) - gZ h G (16 * Y + X + ip j)) k) hq ⟨by omega, by omega⟩
      have eg : gZ h' (hnx h + 1) k = hd (fun j => gZ h (M + 1) (16 * Y + X + ip j) - gZ h G (16 * Y + X + ip j)) k := (md_gZ md3 (by omega) _).trans (r2 k k0 hk)
      have eq3 : fZ h' M 2 = q := (md_fZ md3 (by omega)).trans eq2
      have st := b_X12_codesSquare_67 (a0 := M) (a5 := hnx h + 1) (n_a5 := 16) (a0_level := Lv) (n_a0_level := 256) (x1 := X) (x2 := Y) (v3 := .ref G) (v4 := am_k1 (.ref (hnx h))) (v7 := z) (h := h') (wr_id (z := k) (by omega) (by omega)) ((md_gn md3 _).trans nB) ((md_sh md3 _).trans sB) (fun _ => by omega) (K10_sm md3.1 k2)
      rw [eq3, eg, wr_id (z := 4 * q) (by omega) (by omega), tdv k0, tmd k0, wr_id (z := 16 * (Y + k / 4) + X + k % 4) (by omega) (by omega), show 16 * (Y + k / 4) + X + k % 4 = 16 * Y + X + ip k by omega] at st
      have st := st (fun _ => by omega) ((md_fA md3 (by omega)).trans eL2) ((md_gn md3 _).trans nL2) ((md_sh md3 _).trans sL2) (fun _ => by omega)
      have el : (if 0 ≤ hd (fun j => gZ h (M + 1) (16 * Y + X + ip j) - gZ h G (16 * Y + X + ip j)) k then (Int.tdiv (wr ((max (hd (fun j => gZ h (M + 1) (16 * Y + X + ip j) - gZ h G (16 * Y + X + ip j)) k) (-(hd (fun j => gZ h (M + 1) (16 * Y + X + ip j) - gZ h G (16 * Y + X + ip j)) k))) + q)) (4 * q) : Int) else -(Int.tdiv (wr ((max (hd (fun j => gZ h (M + 1) (16 * Y + X + ip j) - gZ h G (16 * Y + X + ip j)) k) (-(hd (fun j => gZ h (M + 1) (16 * Y + X + ip j) - gZ h G (16 * Y + X + ip j)) k))) + q)) (4 * q))) = lev q (hd (fun j => gZ h (M + 1) (16 * Y + X + ip j) - gZ h G (16 * Y + X + ip j)) k) := by
        generalize hd (fun j => gZ h (M + 1) (16 * Y + X + ip j) - gZ h G (16 * Y + X + ip j)) k = co at *
        rw [wr_id (by omega) (by omega), tdv (by omega)]
        unfold lev iabs
        by_cases cc : 0 ≤ co
        · rw [if_pos cc, if_neg (by omega)]
        · rw [if_neg cc, if_pos (by omega)]
      rw [if_neg (by omega), el] at st
      refine ⟨_, _, st, by omega, Md_tr md3 (Md_uZ _ _ _ _), fun j j0 j1 => ?_, fun i hi => ?_⟩
      · rw [gZ_uZ' (sh1 ((md_sh md3 _).trans sL2))]
        by_cases e : 16 * Y + X + ip j = 16 * Y + X + ip k
        · have := ip_inj ⟨j0, by omega⟩ ⟨k0, by omega⟩ e
          rw [if_pos e, this, wr_id (by omega) (by omega)]
        · rw [if_neg e]
          have : j ≠ k := fun q => e (by rw [q])
          exact hh3 j j0 (by omega)
      · rw [gZ_uZ_nj _ (sh1 ((md_sh md3 _).trans sL2)) (hi k k0 hk)]
        exact ho3 i hi
    · intro z h' ⟨k0, md3, hh3, ho3⟩
      have st := b_X12_codesSquare_67 (a0 := M) (a5 := hnx h + 1) (n_a5 := 16) (a0_level := Lv) (n_a0_level := 256) (x1 := X) (x2 := Y) (v3 := .ref G) (v4 := am_k1 (.ref (hnx h))) (v7 := z) (h := h') (wr_id (z := 16) (by omega) (by omega)) ((md_gn md3 _).trans nB) ((md_sh md3 _).trans sB) (fun _ => by omega) (K10_sm md3.1 k2) (fun _ => by omega) ((md_fA md3 (by omega)).trans eL2) ((md_gn md3 _).trans nL2) ((md_sh md3 _).trans sL2) (fun _ => by omega)
      rw [if_pos (by omega)] at st
      exact ⟨h', st, Fr_mono (Fr_tr (U := fun c _ => c = Lv) fr12 (md_fr md3) (fun _ _ _ q => q.elim) (fun a k ha q => q)) (fun _ _ _ q => q) (by decide) (by decide), by rw [md_nx md3, nx2, nx1], hh3, ho3⟩
