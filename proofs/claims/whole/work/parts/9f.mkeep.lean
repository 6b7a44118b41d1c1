/-! ===== the model keeps a picture ===== -/
section MK
variable {σ : St} {h h' : am_H} {D : Nat} {c : Int}
theorem i_X12_errorNow_0 : am_i m_X12_errorNow 0 = some (0, .lconst 0, 1, [], 0) := rfl
theorem i_X12_errorNow_1 : am_i m_X12_errorNow 1 = some (1, .lstore_n 1, 1, [], 0) := rfl
theorem i_X12_errorNow_2 : am_i m_X12_errorNow 2 = some (2, .iconst 0, 1, [], 0) := rfl
theorem i_X12_errorNow_3 : am_i m_X12_errorNow 3 = some (3, .istore_n 3, 1, [], 0) := rfl
theorem b_X12_errorNow_0 {a0 : Nat} {h : am_H} : rn m_X12_errorNow 0 [.ref a0, am_J, am_J, am_J, am_J, am_J] [] h = rn m_X12_errorNow 4 [.ref a0, .long (mL 0), am_J, .int (mI 0), am_J, am_J] [] h := by
  refine (tq_lconst i_X12_errorNow_0 rfl).trans ?_
  refine (tq_lstore_n (L' := [.ref a0, .long (mL 0), am_J, am_J, am_J, am_J]) i_X12_errorNow_1 rfl rfl).trans ?_
  refine (tq_iconst i_X12_errorNow_2 rfl).trans ?_
  refine (tq_istore_n (L' := [.ref a0, .long (mL 0), am_J, .int (mI 0), am_J, am_J]) i_X12_errorNow_3 rfl rfl).trans ?_
  rfl
theorem i_X12_errorNow_4 : am_i m_X12_errorNow 4 = some (4, .iload_n 3, 1, [], 0) := rfl
theorem i_X12_errorNow_5 : am_i m_X12_errorNow 5 = some (5, .sipush 256, 3, [], 256) := rfl
theorem i_X12_errorNow_8 : am_i m_X12_errorNow 8 = some (8, .if_icmp .ge 33, 3, [], 0) := rfl
theorem i_X12_errorNow_11 : am_i m_X12_errorNow 11 = some (11, .aload_n 0, 1, [], 0) := rfl
theorem i_X12_errorNow_12 : am_i m_X12_errorNow 12 = some (12, .getfield 155, 3, [10, 27, 0], 0) := rfl
theorem i_X12_errorNow_15 : am_i m_X12_errorNow 15 = some (15, .iload_n 3, 1, [], 0) := rfl
theorem i_X12_errorNow_16 : am_i m_X12_errorNow 16 = some (16, .iaload, 1, [], 0) := rfl
theorem i_X12_errorNow_17 : am_i m_X12_errorNow 17 = some (17, .aload_n 0, 1, [], 0) := rfl
theorem i_X12_errorNow_18 : am_i m_X12_errorNow 18 = some (18, .getfield 18, 3, [10, 1, 0], 0) := rfl
theorem i_X12_errorNow_21 : am_i m_X12_errorNow 21 = some (21, .iload_n 3, 1, [], 0) := rfl
theorem i_X12_errorNow_22 : am_i m_X12_errorNow 22 = some (22, .iaload, 1, [], 0) := rfl
theorem i_X12_errorNow_23 : am_i m_X12_errorNow 23 = some (23, .isub, 1, [], 0) := rfl
theorem i_X12_errorNow_24 : am_i m_X12_errorNow 24 = some (24, .i2l, 1, [], 0) := rfl
theorem i_X12_errorNow_25 : am_i m_X12_errorNow 25 = some (25, .lstore 4, 2, [], 0) := rfl
theorem i_X12_errorNow_27 : am_i m_X12_errorNow 27 = some (27, .lload_n 1, 1, [], 0) := rfl
theorem i_X12_errorNow_28 : am_i m_X12_errorNow 28 = some (28, .lload 4, 2, [], 0) := rfl
theorem i_X12_errorNow_30 : am_i m_X12_errorNow 30 = some (30, .lload 4, 2, [], 0) := rfl
theorem i_X12_errorNow_32 : am_i m_X12_errorNow 32 = some (32, .lmul, 1, [], 0) := rfl
theorem i_X12_errorNow_33 : am_i m_X12_errorNow 33 = some (33, .ladd, 1, [], 0) := rfl
theorem i_X12_errorNow_34 : am_i m_X12_errorNow 34 = some (34, .lstore_n 1, 1, [], 0) := rfl
theorem i_X12_errorNow_35 : am_i m_X12_errorNow 35 = some (35, .iinc 3 1, 3, [], 0) := rfl
theorem i_X12_errorNow_38 : am_i m_X12_errorNow 38 = some (38, .goto (-34), 3, [], 0) := rfl
theorem i_X12_errorNow_41 : am_i m_X12_errorNow 41 = some (41, .lload_n 1, 1, [], 0) := rfl
theorem i_X12_errorNow_42 : am_i m_X12_errorNow 42 = some (42, .lreturn, 1, [], 0) := rfl
theorem b_X12_errorNow_4 {a0 a0_now n_a0_now : Nat} {j1 x3 x3' : Int} {v4 v5 : Value} {h : am_H} (w3 : wr x3 = x3') (k1 : K10 h a0) (e2 : fA h a0 27 = some a0_now) (n3 : gn h a0_now = n_a0_now) (s4 : sh h a0_now = (1, 0)) (g5 : (¬ (256 ≤ x3')) → (0 ≤ x3' ∧ x3' < (n_a0_now : Int))) (g6 : (¬ (256 ≤ x3')) → (0 ≤ x3' ∧ x3' < (256 : Int))) : rn m_X12_errorNow 4 [.ref a0, .long (mL j1), am_J, .int (mI x3), v4, v5] [] h = if 256 ≤ x3' then some (.inl (some (.long (mL j1))), h) else rn m_X12_errorNow 4 [.ref a0, .long (mL (j1 + ((wr ((gZ h a0_now x3') - (gZ h (a0 + 1) x3'))) * (wr ((gZ h a0_now x3') - (gZ h (a0 + 1) x3')))))), am_J, .int (mI (x3 + 1)), .long (mL (wr ((gZ h a0_now x3') - (gZ h (a0 + 1) x3')))), am_J] [] h := by
  refine (tq_iload_n i_X12_errorNow_4 rfl rfl).trans ?_
  refine (tq_sipush i_X12_errorNow_5 rfl).trans ?_
  refine (tq_icmp_ge (pt := 41) i_X12_errorNow_8 w3 w_256 (by decide) rfl).trans ?_
  refine ite_congr rfl (fun c1 => ?_) (fun c1 => ?_)
  · refine (tq_lload_n i_X12_errorNow_41 rfl rfl).trans ?_
    exact tq_lreturn i_X12_errorNow_42 r_X12_errorNow
  · refine (tq_aload_n i_X12_errorNow_11 rfl (isA_ref _) rfl).trans ?_
    refine (tq_getfield i_X12_errorNow_12 (K10_s k1) (gR (g_10_27 (K10_s k1)) e2) (isV_ref _) rfl).trans ?_
    refine (tq_iload_n i_X12_errorNow_15 rfl rfl).trans ?_
    refine (tq_iaload i_X12_errorNow_16 s4 (by decide) w3 (g5 c1).1 (lt_gn n3 (g5 c1).2) rfl).trans ?_
    refine (tq_aload_n i_X12_errorNow_17 rfl (isA_ref _) rfl).trans ?_
    refine (tq_getfield i_X12_errorNow_18 (K10_s k1) (gR (g_10_1 (K10_s k1)) (K10_e1 k1)) (isV_ref _) rfl).trans ?_
    refine (tq_iload_n i_X12_errorNow_21 rfl rfl).trans ?_
    refine (tq_iaload i_X12_errorNow_22 (K10_s1 k1) (by decide) w3 (g6 c1).1 (lt_gn (K10_n1 k1) (g6 c1).2) rfl).trans ?_
    refine (tq_isub i_X12_errorNow_23 rfl).trans ?_
    refine (tq_i2l i_X12_errorNow_24 rfl rfl).trans ?_
    refine (tq_lstore (L' := [.ref a0, .long (mL j1), am_J, .int (mI x3), .long (mL (wr ((gZ h a0_now x3') - (gZ h (a0 + 1) x3')))), am_J]) i_X12_errorNow_25 rfl rfl).trans ?_
    refine (tq_lload_n i_X12_errorNow_27 rfl rfl).trans ?_
    refine (tq_lload i_X12_errorNow_28 rfl rfl).trans ?_
    refine (tq_lload i_X12_errorNow_30 rfl rfl).trans ?_
    refine (tq_lmul i_X12_errorNow_32 rfl).trans ?_
    refine (tq_ladd i_X12_errorNow_33 rfl).trans ?_
    refine (tq_lstore_n (L' := [.ref a0, .long (mL (j1 + ((wr ((gZ h a0_now x3') - (gZ h (a0 + 1) x3'))) * (wr ((gZ h a0_now x3') - (gZ h (a0 + 1) x3')))))), am_J, .int (mI x3), .long (mL (wr ((gZ h a0_now x3') - (gZ h (a0 + 1) x3')))), am_J]) i_X12_errorNow_34 rfl rfl).trans ?_
    refine (tq_iinc (L' := [.ref a0, .long (mL (j1 + ((wr ((gZ h a0_now x3') - (gZ h (a0 + 1) x3'))) * (wr ((gZ h a0_now x3') - (gZ h (a0 + 1) x3')))))), am_J, .int (mI (x3 + 1)), .long (mL (wr ((gZ h a0_now x3') - (gZ h (a0 + 1) x3')))), am_J]) i_X12_errorNow_35 rfl rfl rfl).trans ?_
    refine (tq_goto (pc' := 4) i_X12_errorNow_38 (by decide)).trans ?_
    rfl
theorem errorNow_ok {N : Nat} {P : Int → Int} (k : K10 h 51) (e27 : fA h 51 27 = some N) (sN : sh h N = (1, 0)) (nN : gn h N = 256) (hP : pixels (gZ h N)) (hC : pixels (gZ h 52)) : rn m_X12_errorNow 0 [.ref 51, am_J, am_J, am_J, am_J, am_J] [] h = some (.inl (some (.long (mL (erK (gZ h N) (gZ h 52) 256)))), h) := by
  rw [b_X12_errorNow_0]
  refine lp (m := m_X12_errorNow) (pc := 4) (L := fun i (v : Int × (Value × Value)) => [.ref 51, .long (mL v.1), am_J, .int (mI i), v.2.1, v.2.2]) (N := 256) (P := fun r => r = some (.inl (some (.long (mL (erK (gZ h N) (gZ h 52) 256)))), h)) (fun i v h' => 0 ≤ i ∧ h' = h ∧ v.1 = erK (gZ h N) (gZ h 52) i.toNat) ?_ ?_ 0 (0, (am_J, am_J)) h (by omega) ⟨by omega, rfl, rfl⟩
  · intro i v h' hi ⟨i0, e1, ev⟩
    subst e1
    obtain ⟨x, v4, v5⟩ := v
    simp only at ev
    have st := b_X12_errorNow_4 (a0 := 51) (a0_now := N) (n_a0_now := 256) (j1 := x) (v4 := v4) (v5 := v5) (h := h') (wr_id (z := i) (by omega) (by omega)) k e27 nN sN (fun _ => ⟨i0, by omega⟩) (fun _ => ⟨i0, hi⟩)
    simp only [Nat.reduceAdd] at st
    have a := hP i i0 hi
    have b := hC i i0 hi
    rw [if_neg (by omega), wr_id (z := gZ h' N i - gZ h' 52 i) (by omega) (by omega)] at st
    refine ⟨(_, (_, _)), h', st, by omega, rfl, ?_⟩
    show x + _ = _
    unfold erK at *
    rw [sm_succ i0, ← ev]
  · intro v h' ⟨i0, e1, ev⟩
    subst e1
    obtain ⟨x, v4, v5⟩ := v
    simp only at ev
    have st := b_X12_errorNow_4 (a0 := 51) (a0_now := N) (n_a0_now := 256) (j1 := x) (x3 := 256) (v4 := v4) (v5 := v5) (h := h') (wr_id (by decide) (by decide)) k e27 nN sN (fun q => absurd (by decide) q) (fun q => absurd (by decide) q)
    rw [if_pos (by decide)] at st
    have ev' : x = erK (gZ h' N) (gZ h' 52) 256 := ev
    rw [← ev']
    exact st
theorem i_X12_keeps__0 : am_i m_X12_keeps_ 0 = some (0, .iload_n 1, 1, [], 0) := rfl
theorem i_X12_keeps__1 : am_i m_X12_keeps_ 1 = some (1, .iconst 2, 1, [], 2) := rfl
theorem i_X12_keeps__2 : am_i m_X12_keeps_ 2 = some (2, .invokestatic 3, 3, [0, 2], 0) := rfl
theorem i_X12_keeps__5 : am_i m_X12_keeps_ 5 = some (5, .istore_n 3, 1, [], 0) := rfl
theorem b_X12_keeps__0 {a0 : Nat} {x1 x2 x1' : Int} {h : am_H} (w1 : wr x1 = x1') : rn m_X12_keeps_ 0 [.ref a0, .int (mI x1), .int (mI x2), am_J] [] h = rn m_X12_keeps_ 6 [.ref a0, .int (mI x1), .int (mI x2), .int (mI (min x1' 2))] [] h := by
  refine (tq_iload_n i_X12_keeps__0 rfl rfl).trans ?_
  refine (tq_iconst i_X12_keeps__1 rfl).trans ?_
  refine (tq_min i_X12_keeps__2 w1 w_2 (Nat.le_of_ble_eq_true rfl) rfl).trans ?_
  refine (tq_istore_n (L' := [.ref a0, .int (mI x1), .int (mI x2), .int (mI (min x1' 2))]) i_X12_keeps__5 rfl rfl).trans ?_
  rfl
theorem i_X12_keeps__6 : am_i m_X12_keeps_ 6 = some (6, .iload_n 3, 1, [], 0) := rfl
theorem i_X12_keeps__7 : am_i m_X12_keeps_ 7 = some (7, .ifCond .le 17, 3, [], 0) := rfl
theorem i_X12_keeps__10 : am_i m_X12_keeps_ 10 = some (10, .aload_n 0, 1, [], 0) := rfl
theorem i_X12_keeps__11 : am_i m_X12_keeps_ 11 = some (11, .iload_n 3, 1, [], 0) := rfl
theorem i_X12_keeps__12 : am_i m_X12_keeps_ 12 = some (12, .aload_n 0, 1, [], 0) := rfl
theorem i_X12_keeps__13 : am_i m_X12_keeps_ 13 = some (13, .iload_n 3, 1, [], 0) := rfl
theorem i_X12_keeps__14 : am_i m_X12_keeps_ 14 = some (14, .iconst 1, 1, [], 1) := rfl
theorem i_X12_keeps__15 : am_i m_X12_keeps_ 15 = some (15, .isub, 1, [], 0) := rfl
theorem i_X12_keeps__16 : am_i m_X12_keeps_ 16 = some (16, .iaload, 1, [], 0) := rfl
theorem i_X12_keeps__17 : am_i m_X12_keeps_ 17 = some (17, .iastore, 1, [], 0) := rfl
theorem i_X12_keeps__18 : am_i m_X12_keeps_ 18 = some (18, .iinc 3 (-1), 3, [], 0) := rfl
theorem i_X12_keeps__21 : am_i m_X12_keeps_ 21 = some (21, .goto (-15), 3, [], 0) := rfl
theorem i_X12_keeps__24 : am_i m_X12_keeps_ 24 = some (24, .aload_n 0, 1, [], 0) := rfl
theorem i_X12_keeps__25 : am_i m_X12_keeps_ 25 = some (25, .iconst 0, 1, [], 0) := rfl
theorem i_X12_keeps__26 : am_i m_X12_keeps_ 26 = some (26, .iload_n 2, 1, [], 0) := rfl
theorem i_X12_keeps__27 : am_i m_X12_keeps_ 27 = some (27, .iastore, 1, [], 0) := rfl
theorem i_X12_keeps__28 : am_i m_X12_keeps_ 28 = some (28, .iconst 3, 1, [], 3) := rfl
theorem i_X12_keeps__29 : am_i m_X12_keeps_ 29 = some (29, .iload_n 1, 1, [], 0) := rfl
theorem i_X12_keeps__30 : am_i m_X12_keeps_ 30 = some (30, .iconst 1, 1, [], 1) := rfl
theorem i_X12_keeps__31 : am_i m_X12_keeps_ 31 = some (31, .iadd, 1, [], 0) := rfl
theorem i_X12_keeps__32 : am_i m_X12_keeps_ 32 = some (32, .invokestatic 3, 3, [0, 2], 0) := rfl
theorem i_X12_keeps__35 : am_i m_X12_keeps_ 35 = some (35, .ireturn, 1, [], 0) := rfl
theorem b_X12_keeps__6 {a0 n_a0 : Nat} {x1 x2 x3 x3' : Int} {h : am_H} (w3 : wr x3 = x3') (n1 : gn h a0 = n_a0) (s2 : sh h a0 = (1, 0)) (g3 : (x3' ≤ 0) → ((0 : Int) ≤ 0 ∧ 0 < (n_a0 : Int))) (g4 : (¬ (x3' ≤ 0)) → (0 ≤ wr (x3 - 1) ∧ wr (x3 - 1) < (n_a0 : Int))) (g5 : (¬ (x3' ≤ 0)) → (0 ≤ x3' ∧ x3' < (n_a0 : Int))) : rn m_X12_keeps_ 6 [.ref a0, .int (mI x1), .int (mI x2), .int (mI x3)] [] h = if x3' ≤ 0 then some (.inl (some (.int (mI (min 3 (wr (x1 + 1)))))), uZ h a0 0 x2) else rn m_X12_keeps_ 6 [.ref a0, .int (mI x1), .int (mI x2), .int (mI (x3 + (-1)))] [] (uZ h a0 x3' (gZ h a0 (wr (x3 - 1)))) := by
  refine (tq_iload_n i_X12_keeps__6 rfl rfl).trans ?_
  refine (tq_if_le (pt := 24) i_X12_keeps__7 w3 (by decide) rfl).trans ?_
  refine ite_congr rfl (fun c1 => ?_) (fun c1 => ?_)
  · refine (tq_aload_n i_X12_keeps__24 rfl (isA_ref _) rfl).trans ?_
    refine (tq_iconst i_X12_keeps__25 rfl).trans ?_
    refine (tq_iload_n i_X12_keeps__26 rfl rfl).trans ?_
    refine (tq_iastore i_X12_keeps__27 s2 w_0 (g3 c1).1 (lt_gn n1 (g3 c1).2) rfl).trans ?_
    refine (tq_iconst i_X12_keeps__28 rfl).trans ?_
    refine (tq_iload_n i_X12_keeps__29 rfl rfl).trans ?_
    refine (tq_iconst i_X12_keeps__30 rfl).trans ?_
    refine (tq_iadd i_X12_keeps__31 rfl).trans ?_
    refine (tq_min i_X12_keeps__32 w_3 rfl (Nat.le_of_ble_eq_true rfl) rfl).trans ?_
    exact tq_ireturn i_X12_keeps__35 r_X12_keeps_ rfl
  · refine (tq_aload_n i_X12_keeps__10 rfl (isA_ref _) rfl).trans ?_
    refine (tq_iload_n i_X12_keeps__11 rfl rfl).trans ?_
    refine (tq_aload_n i_X12_keeps__12 rfl (isA_ref _) rfl).trans ?_
    refine (tq_iload_n i_X12_keeps__13 rfl rfl).trans ?_
    refine (tq_iconst i_X12_keeps__14 rfl).trans ?_
    refine (tq_isub i_X12_keeps__15 rfl).trans ?_
    refine (tq_iaload i_X12_keeps__16 s2 (by decide) rfl (g4 c1).1 (lt_gn n1 (g4 c1).2) rfl).trans ?_
    refine (tq_iastore i_X12_keeps__17 s2 w3 (g5 c1).1 (lt_gn n1 (g5 c1).2) rfl).trans ?_
    refine (tq_iinc (L' := [.ref a0, .int (mI x1), .int (mI x2), .int (mI (x3 + (-1)))]) i_X12_keeps__18 rfl rfl rfl).trans ?_
    refine (tq_goto (pc' := 6) i_X12_keeps__21 (by decide)).trans ?_
    rfl
theorem keeps2_ok {k8 n : Int} (s : sh h 68 = (1, 0)) (n1 : gn h 68 = 3) (h8 : 0 ≤ k8 ∧ k8 ≤ 3) (hn : 0 ≤ n ∧ n < 100) : ∃ h', rn m_X12_keeps_ 0 [.ref 68, .int (mI k8), .int (mI n), am_J] [] h = some (.inl (some (.int (mI (min (k8 + 1) 3)))), h') ∧ Md (fun a _ => a = 68) h h' ∧ ∀ j, 0 ≤ j → j < min (k8 + 1) 3 → gZ h' 68 j = if j = 0 then n else gZ h 68 (j - 1) := by
  rw [b_X12_keeps__0 (wr_id (z := k8) (by omega) (by omega))]
  obtain ⟨M, eM⟩ : ∃ M, M = min k8 2 := ⟨_, rfl⟩
  rw [← eM]
  have loop := lp (m := m_X12_keeps_) (pc := 6) (L := fun i (_ : Unit) => [.ref 68, .int (mI k8), .int (mI n), .int (mI (M - i))]) (N := M) (P := fun r => ∃ h', r = some (.inl (some (.int (mI (min (k8 + 1) 3)))), h') ∧ Md (fun a _ => a = 68) h h' ∧ ∀ j, 0 ≤ j → j < min (k8 + 1) 3 → gZ h' 68 j = if j = 0 then n else gZ h 68 (j - 1)) (fun i _ h' => 0 ≤ i ∧ Md (fun a _ => a = 68) h h' ∧ (∀ j, 0 ≤ j → j ≤ M - i → gZ h' 68 j = gZ h 68 j) ∧ ∀ j, M - i < j → j ≤ M → gZ h' 68 j = gZ h 68 (j - 1)) ?_ ?_ 0 () h (by omega) ⟨by omega, Md_rf _ _, fun _ _ _ => rfl, fun j j0 j1 => by omega⟩
  · rw [Int.sub_zero] at loop
    exact loop
  · intro i _ h' hi ⟨i0, md, lo, up⟩
    have wm : wr (M - i - 1) = M - i - 1 := wr_id (by omega) (by omega)
    have st := b_X12_keeps__6 (a0 := 68) (n_a0 := 3) (x1 := k8) (x2 := n) (x3 := M - i) (h := h') (wr_id (by omega) (by omega)) ((md_gn md _).trans n1) ((md_sh md _).trans s) (fun _ => by omega) (fun _ => by rw [wm]; omega) (fun _ => by omega)
    rw [if_neg (by omega), wm, lo (M - i - 1) (by omega) (by omega), show M - i + -1 = M - (i + 1) by omega] at st
    refine ⟨(), _, st, by omega, Md_tr md (Md_uZ _ _ _ _), fun j j0 j1 => ?_, fun j j0 j1 => ?_⟩
    · rw [gZ_uZ' (sh1 ((md_sh md _).trans s)), if_neg (by omega)]
      exact lo j j0 (by omega)
    · rw [gZ_uZ' (sh1 ((md_sh md _).trans s)), wr_gZ]
      by_cases e : j = M - i
      · rw [if_pos e, e]
      · rw [if_neg e]
        exact up j (by omega) j1
  · intro _ h' ⟨i0, md, lo, up⟩
    have st := b_X12_keeps__6 (a0 := 68) (n_a0 := 3) (x1 := k8) (x2 := n) (x3 := M - M) (h := h') (wr_id (by omega) (by omega)) ((md_gn md _).trans n1) ((md_sh md _).trans s) (fun _ => by omega) (fun w => absurd (by omega) w) (fun w => absurd (by omega) w)
    rw [if_pos (by omega), wr_id (z := k8 + 1) (by omega) (by omega), show min 3 (k8 + 1) = min (k8 + 1) 3 by omega] at st
    refine ⟨_, st, Md_tr md (Md_uZ _ _ _ _), fun j j0 j1 => ?_⟩
    rw [gZ_uZ' (sh1 ((md_sh md _).trans s)), wr_id (by omega) (by omega)]
    by_cases e : j = 0
    · rw [if_pos e, if_pos e]
    · rw [if_neg e, if_neg e]
      exact up j (by omega) (by omega)
end MK
