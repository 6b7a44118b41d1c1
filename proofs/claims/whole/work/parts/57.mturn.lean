/-! ===== the model's squares ===== -/
def sg (r c : Int) : Int := if (r = 1 ∧ (c = 2 ∨ c = 3)) ∨ (r = 2 ∧ (c = 1 ∨ c = 2)) ∨ (r = 3 ∧ (c = 1 ∨ c = 3)) then -1 else 1
theorem sg_b (r c : Int) : sg r c = 1 ∨ sg r c = -1 := by unfold sg; split <;> simp
theorem wr_sg (r c : Int) : wr (sg r c) = sg r c := by rcases sg_b r c with e | e <;> rw [e] <;> exact wr_id (by decide) (by decide)
theorem signOf_ok {x0 x1 x0' x1' : Int} {h : am_H} (w0 : wr x0 = x0') (w1 : wr x1 = x1') (g0 : 0 ≤ x0' ∧ x0' < 4) (g1 : 0 ≤ x1' ∧ x1' < 4) : rn m_X12_signOf 0 [.int (mI x0), .int (mI x1)] [] h = some (.inl (some (.int (mI (sg x0' x1')))), h) := by
  have e : wr (4 * x0 + x1) = ((4 * x0' + x1').toNat : Int) := by
    rw [wr_lin, w0, w1, wr_id (by omega) (by omega)]
    omega
  rw [b_X12_signOf_0 e (by omega)]
  have : (if ¬ ((wr (42688 / 2 ^ (4 * x0' + x1').toNat)) % 2 ^ 1) = 1 then (1 : Int) else (-1)) = sg x0' x1' := by
    have h0 : x0' = 0 ∨ x0' = 1 ∨ x0' = 2 ∨ x0' = 3 := by omega
    have h1 : x1' = 0 ∨ x1' = 1 ∨ x1' = 2 ∨ x1' = 3 := by omega
    rcases h0 with e | e | e | e <;> rcases h1 with f | f | f | f <;> (rw [e, f, wr_id (by decide) (by decide)]; decide)
  rw [this]
theorem turned_sum {s : Int → Int} {k : Int} (hk : 0 ≤ k ∧ k < 16) : sm 16 (fun j => sg (k / 4) (j / 4) * s j * sg (j % 4) (k % 4)) = hd s k := by
  have : k = 0 ∨ k = 1 ∨ k = 2 ∨ k = 3 ∨ k = 4 ∨ k = 5 ∨ k = 6 ∨ k = 7 ∨ k = 8 ∨ k = 9 ∨ k = 10 ∨ k = 11 ∨ k = 12 ∨ k = 13 ∨ k = 14 ∨ k = 15 := by omega
  rcases this with rfl | rfl | rfl | rfl | rfl | rfl | rfl | rfl | rfl | rfl | rfl | rfl | rfl | rfl | rfl | rfl <;> (simp [sm, hd, h4, sg]; omega)
theorem fr_new {h h' : am_H} {t n : Nat} (m : Md (fun c _ => c = hnx h) (aI t n h) h') : Fr (fun _ _ => False) 1 n h h' := by
  have := Fr_tr (U := fun _ _ => False) (Fr_alc h n (.inl (t, n, .inl fun _ => 0))) (md_fr m) (fun _ _ _ q => q) (fun a k ha q => by omega)
  exact this
theorem nx_new {h h' : am_H} {t n : Nat} {S : Nat → Nat → Prop} (m : Md S (aI t n h) h') : hnx h' = hnx h + 1 := (md_nx m).trans (hnx_aI _ _ _)
theorem i_X12_turned_0 : am_i m_X12_turned 0 = some (0, .bipush 16, 2, [], 16) := rfl
theorem i_X12_turned_2 : am_i m_X12_turned 2 = some (2, .newarray .int, 2, [], 0) := rfl
theorem b_X12_turned_0 {a0 : Nat} {h : am_H} : rn m_X12_turned 0 [.ref a0, am_J, am_J, am_J, am_J] [] h = rn m_X12_turned 4 [.ref a0, am_J, am_J, am_J, am_J] [.ref (hnx h)] (aI 0 16 h) := by
  refine (tq_bipush i_X12_turned_0 rfl).trans ?_
  exact tq_newI (n := 16) (t := 0) i_X12_turned_2 w_16 (by decide) rfl (by decide) rfl rfl
theorem i_X12_turned_4 : am_i m_X12_turned 4 = some (4, .astore_n 1, 1, [], 0) := rfl
theorem i_X12_turned_5 : am_i m_X12_turned 5 = some (5, .iconst 0, 1, [], 0) := rfl
theorem i_X12_turned_6 : am_i m_X12_turned 6 = some (6, .istore_n 2, 1, [], 0) := rfl
theorem b_X12_turned_4 {a0 as0 : Nat} {v1 v2 v3 v4 : Value} {h : am_H} : rn m_X12_turned 4 [.ref a0, v1, v2, v3, v4] [.ref as0] h = rn m_X12_turned 7 [.ref a0, .ref as0, .int (mI 0), v3, v4] [] h := by
  refine (tq_astore_n (L' := [.ref a0, .ref as0, v2, v3, v4]) i_X12_turned_4 (isA_ref _) rfl rfl).trans ?_
  refine (tq_iconst i_X12_turned_5 rfl).trans ?_
  refine (tq_istore_n (L' := [.ref a0, .ref as0, .int (mI 0), v3, v4]) i_X12_turned_6 rfl rfl).trans ?_
  rfl
theorem i_X12_turned_7 : am_i m_X12_turned 7 = some (7, .iload_n 2, 1, [], 0) := rfl
theorem i_X12_turned_8 : am_i m_X12_turned 8 = some (8, .bipush 16, 2, [], 16) := rfl
theorem i_X12_turned_10 : am_i m_X12_turned 10 = some (10, .if_icmp .ge 60, 3, [], 0) := rfl
theorem i_X12_turned_13 : am_i m_X12_turned 13 = some (13, .iconst 0, 1, [], 0) := rfl
theorem i_X12_turned_14 : am_i m_X12_turned 14 = some (14, .istore_n 3, 1, [], 0) := rfl
theorem i_X12_turned_15 : am_i m_X12_turned 15 = some (15, .iconst 0, 1, [], 0) := rfl
theorem i_X12_turned_16 : am_i m_X12_turned 16 = some (16, .istore 4, 2, [], 0) := rfl
theorem i_X12_turned_70 : am_i m_X12_turned 70 = some (70, .aload_n 1, 1, [], 0) := rfl
theorem i_X12_turned_71 : am_i m_X12_turned 71 = some (71, .areturn, 1, [], 0) := rfl
theorem b_X12_turned_7 {a0 a1 : Nat} {x2 x2' : Int} {v3 v4 : Value} {h : am_H} (w2 : wr x2 = x2') : rn m_X12_turned 7 [.ref a0, .ref a1, .int (mI x2), v3, v4] [] h = if 16 ≤ x2' then some (.inl (some (.ref a1)), h) else rn m_X12_turned 18 [.ref a0, .ref a1, .int (mI x2), .int (mI 0), .int (mI 0)] [] h := by
  refine (tq_iload_n i_X12_turned_7 rfl rfl).trans ?_
  refine (tq_bipush i_X12_turned_8 rfl).trans ?_
  refine (tq_icmp_ge (pt := 70) i_X12_turned_10 w2 w_16 (by decide) rfl).trans ?_
  refine ite_congr rfl (fun c1 => ?_) (fun c1 => ?_)
  · refine (tq_aload_n i_X12_turned_70 rfl (isA_ref _) rfl).trans ?_
    exact tq_areturn i_X12_turned_71 (isA_ref _) r_X12_turned rfl
  · refine (tq_iconst i_X12_turned_13 rfl).trans ?_
    refine (tq_istore_n (L' := [.ref a0, .ref a1, .int (mI x2), .int (mI 0), v4]) i_X12_turned_14 rfl rfl).trans ?_
    refine (tq_iconst i_X12_turned_15 rfl).trans ?_
    refine (tq_istore (L' := [.ref a0, .ref a1, .int (mI x2), .int (mI 0), .int (mI 0)]) i_X12_turned_16 rfl rfl).trans ?_
    rfl
theorem i_X12_turned_18 : am_i m_X12_turned 18 = some (18, .iload 4, 2, [], 0) := rfl
theorem i_X12_turned_20 : am_i m_X12_turned 20 = some (20, .bipush 16, 2, [], 16) := rfl
theorem i_X12_turned_22 : am_i m_X12_turned 22 = some (22, .if_icmp .ge 38, 3, [], 0) := rfl
theorem i_X12_turned_25 : am_i m_X12_turned 25 = some (25, .iload_n 3, 1, [], 0) := rfl
theorem i_X12_turned_26 : am_i m_X12_turned 26 = some (26, .iload_n 2, 1, [], 0) := rfl
theorem i_X12_turned_27 : am_i m_X12_turned 27 = some (27, .iconst 4, 1, [], 4) := rfl
theorem i_X12_turned_28 : am_i m_X12_turned 28 = some (28, .idiv, 1, [], 0) := rfl
theorem i_X12_turned_29 : am_i m_X12_turned 29 = some (29, .iload 4, 2, [], 0) := rfl
theorem i_X12_turned_31 : am_i m_X12_turned 31 = some (31, .iconst 4, 1, [], 4) := rfl
theorem i_X12_turned_32 : am_i m_X12_turned 32 = some (32, .idiv, 1, [], 0) := rfl
theorem i_X12_turned_33 : am_i m_X12_turned 33 = some (33, .invokestatic 198, 3, [37], 0) := rfl
theorem i_X12_turned_36 : am_i m_X12_turned 36 = some (36, .aload_n 0, 1, [], 0) := rfl
theorem i_X12_turned_37 : am_i m_X12_turned 37 = some (37, .iload 4, 2, [], 0) := rfl
theorem i_X12_turned_39 : am_i m_X12_turned 39 = some (39, .iaload, 1, [], 0) := rfl
theorem i_X12_turned_40 : am_i m_X12_turned 40 = some (40, .imul, 1, [], 0) := rfl
theorem i_X12_turned_41 : am_i m_X12_turned 41 = some (41, .iload 4, 2, [], 0) := rfl
theorem i_X12_turned_43 : am_i m_X12_turned 43 = some (43, .iconst 4, 1, [], 4) := rfl
theorem i_X12_turned_44 : am_i m_X12_turned 44 = some (44, .irem, 1, [], 0) := rfl
theorem i_X12_turned_45 : am_i m_X12_turned 45 = some (45, .iload_n 2, 1, [], 0) := rfl
theorem i_X12_turned_46 : am_i m_X12_turned 46 = some (46, .iconst 4, 1, [], 4) := rfl
theorem i_X12_turned_47 : am_i m_X12_turned 47 = some (47, .irem, 1, [], 0) := rfl
theorem i_X12_turned_48 : am_i m_X12_turned 48 = some (48, .invokestatic 198, 3, [37], 0) := rfl
theorem i_X12_turned_51 : am_i m_X12_turned 51 = some (51, .imul, 1, [], 0) := rfl
theorem i_X12_turned_52 : am_i m_X12_turned 52 = some (52, .iadd, 1, [], 0) := rfl
theorem i_X12_turned_53 : am_i m_X12_turned 53 = some (53, .istore_n 3, 1, [], 0) := rfl
theorem i_X12_turned_54 : am_i m_X12_turned 54 = some (54, .iinc 4 1, 3, [], 0) := rfl
theorem i_X12_turned_57 : am_i m_X12_turned 57 = some (57, .goto (-39), 3, [], 0) := rfl
theorem i_X12_turned_60 : am_i m_X12_turned 60 = some (60, .aload_n 1, 1, [], 0) := rfl
theorem i_X12_turned_61 : am_i m_X12_turned 61 = some (61, .iload_n 2, 1, [], 0) := rfl
theorem i_X12_turned_62 : am_i m_X12_turned 62 = some (62, .iload_n 3, 1, [], 0) := rfl
theorem i_X12_turned_63 : am_i m_X12_turned 63 = some (63, .iastore, 1, [], 0) := rfl
theorem i_X12_turned_64 : am_i m_X12_turned 64 = some (64, .iinc 2 1, 3, [], 0) := rfl
theorem i_X12_turned_67 : am_i m_X12_turned 67 = some (67, .goto (-60), 3, [], 0) := rfl
theorem b_X12_turned_18 {a0 a1 n_a1 n_a0 : Nat} {x2 x3 x4 x2' x4' : Int} {h : am_H} (w2 : wr x2 = x2') (w4 : wr x4 = x4') (n1 : gn h a1 = n_a1) (s2 : sh h a1 = (1, 0)) (g3 : (16 ≤ x4') → (0 ≤ x2' ∧ x2' < (n_a1 : Int))) (g4 : (¬ (16 ≤ x4')) → (0 ≤ (wr (Int.tdiv x2' 4)) ∧ (wr (Int.tdiv x2' 4)) < 4)) (g5 : (¬ (16 ≤ x4')) → (0 ≤ (wr (Int.tdiv x4' 4)) ∧ (wr (Int.tdiv x4' 4)) < 4)) (n6 : gn h a0 = n_a0) (s7 : sh h a0 = (1, 0)) (g8 : (¬ (16 ≤ x4')) → (0 ≤ x4' ∧ x4' < (n_a0 : Int))) (g9 : (¬ (16 ≤ x4')) → (0 ≤ (wr (Int.tmod x4' 4)) ∧ (wr (Int.tmod x4' 4)) < 4)) (g10 : (¬ (16 ≤ x4')) → (0 ≤ (wr (Int.tmod x2' 4)) ∧ (wr (Int.tmod x2' 4)) < 4)) : rn m_X12_turned 18 [.ref a0, .ref a1, .int (mI x2), .int (mI x3), .int (mI x4)] [] h = if 16 ≤ x4' then rn m_X12_turned 7 [.ref a0, .ref a1, .int (mI (x2 + 1)), .int (mI x3), .int (mI x4)] [] (uZ h a1 x2' x3) else rn m_X12_turned 18 [.ref a0, .ref a1, .int (mI x2), .int (mI (x3 + (((sg (wr (Int.tdiv x2' 4)) (wr (Int.tdiv x4' 4))) * (gZ h a0 x4')) * (sg (wr (Int.tmod x4' 4)) (wr (Int.tmod x2' 4)))))), .int (mI (x4 + 1))] [] h := by
  refine (tq_iload i_X12_turned_18 rfl rfl).trans ?_
  refine (tq_bipush i_X12_turned_20 rfl).trans ?_
  refine (tq_icmp_ge (pt := 60) i_X12_turned_22 w4 w_16 (by decide) rfl).trans ?_
  refine ite_congr rfl (fun c1 => ?_) (fun c1 => ?_)
  · refine (tq_aload_n i_X12_turned_60 rfl (isA_ref _) rfl).trans ?_
    refine (tq_iload_n i_X12_turned_61 rfl rfl).trans ?_
    refine (tq_iload_n i_X12_turned_62 rfl rfl).trans ?_
    refine (tq_iastore i_X12_turned_63 s2 w2 (g3 c1).1 (lt_gn n1 (g3 c1).2) rfl).trans ?_
    refine (tq_iinc (L' := [.ref a0, .ref a1, .int (mI (x2 + 1)), .int (mI x3), .int (mI x4)]) i_X12_turned_64 rfl rfl rfl).trans ?_
    refine (tq_goto (pc' := 7) i_X12_turned_67 (by decide)).trans ?_
    rfl
  · refine (tq_iload_n i_X12_turned_25 rfl rfl).trans ?_
    refine (tq_iload_n i_X12_turned_26 rfl rfl).trans ?_
    refine (tq_iconst i_X12_turned_27 rfl).trans ?_
    refine (tq_idiv i_X12_turned_28 w2 w_4 (by decide) rfl).trans ?_
    refine (tq_iload i_X12_turned_29 rfl rfl).trans ?_
    refine (tq_iconst i_X12_turned_31 rfl).trans ?_
    refine (tq_idiv i_X12_turned_32 w4 w_4 (by decide) rfl).trans ?_
    refine (c_X12_signOf i_X12_turned_33 (ltd d_X12_turned (by decide)) (stOk_1 _) rfl).trans ?_
    refine (congrArg (cl _ _ _ _) (signOf_ok rfl rfl (g4 c1) (g5 c1))).trans ?_
    refine (cl_v _ _ _ _ _ _).trans ?_
    refine (tq_aload_n i_X12_turned_36 rfl (isA_ref _) rfl).trans ?_
    refine (tq_iload i_X12_turned_37 rfl rfl).trans ?_
    refine (tq_iaload i_X12_turned_39 s7 (by decide) w4 (g8 c1).1 (lt_gn n6 (g8 c1).2) rfl).trans ?_
    refine (tq_imul i_X12_turned_40 rfl).trans ?_
    refine (tq_iload i_X12_turned_41 rfl rfl).trans ?_
    refine (tq_iconst i_X12_turned_43 rfl).trans ?_
    refine (tq_irem i_X12_turned_44 w4 w_4 (by decide) rfl).trans ?_
    refine (tq_iload_n i_X12_turned_45 rfl rfl).trans ?_
    refine (tq_iconst i_X12_turned_46 rfl).trans ?_
    refine (tq_irem i_X12_turned_47 w2 w_4 (by decide) rfl).trans ?_
    refine (c_X12_signOf i_X12_turned_48 (ltd d_X12_turned (by decide)) (stOk_2 _ _) rfl).trans ?_
    refine (congrArg (cl _ _ _ _) (signOf_ok rfl rfl (g9 c1) (g10 c1))).trans ?_
    refine (cl_v _ _ _ _ _ _).trans ?_
    refine (tq_imul i_X12_turned_51 rfl).trans ?_
    refine (tq_iadd i_X12_turned_52 rfl).trans ?_
    refine (tq_istore_n (L' := [.ref a0, .ref a1, .int (mI x2), .int (mI (x3 + (((sg (wr (Int.tdiv x2' 4)) (wr (Int.tdiv x4' 4))) * (gZ h a0 x4')) * (sg (wr (Int.tmod x4' 4)) (wr (Int.tmod x2' 4)))))), .int (mI x4)]) i_X12_turned_53 rfl rfl).trans ?_
    refine (tq_iinc (L' := [.ref a0, .ref a1, .int (mI x2), .int (mI (x3 + (((sg (wr (Int.tdiv x2' 4)) (wr (Int.tdiv x4' 4))) * (gZ h a0 x4')) * (sg (wr (Int.tmod x4' 4)) (wr (Int.tmod x2' 4)))))), .int (mI (x4 + 1))]) i_X12_turned_54 rfl rfl rfl).trans ?_
    refine (tq_goto (pc' := 18) i_X12_turned_57 (by decide)).trans ?_
    rfl
theorem sm_b1 {f : Int → Int} {b : Int} (hf : ∀ i, 0 ≤ i → i < 16 → -b ≤ f i ∧ f i ≤ b) : ∀ n : Nat, n ≤ 16 → -(n * b) ≤ sm n f ∧ sm n f ≤ n * b
  | 0, _ => by unfold sm; omega
  | n + 1, h => by
    have h1 := sm_b1 hf n (by omega)
    have h2 := hf n (by omega) (by omega)
    have : ((n + 1 : Nat) : Int) * b = n * b + b := by rw [Int.natCast_add, Int.add_mul]; omega
    unfold sm
    rw [this]
    omega
theorem sg_mul {a b z m : Int} (ha : a = 1 ∨ a = -1) (hb : b = 1 ∨ b = -1) (hz : -m ≤ z ∧ z ≤ m) : -m ≤ a * z * b ∧ a * z * b ≤ m := by
  rcases ha with rfl | rfl <;> rcases hb with rfl | rfl <;> omega
theorem turned_ok {h : am_H} {a : Nat} {s : Int → Int} (sa : sh h a = (1, 0)) (na : gn h a = 16) (al : a < hnx h) (hs : ∀ j, 0 ≤ j → j < 16 → gZ h a j = s j) (hb : ∀ j, 0 ≤ j → j < 16 → -100000 ≤ s j ∧ s j ≤ 100000) : ∃ h', rn m_X12_turned 0 [.ref a, am_J, am_J, am_J, am_J] [] h = some (.inl (some (.ref (hnx h))), h') ∧ Fr (fun _ _ => False) 1 16 h h' ∧ hnx h' = hnx h + 1 ∧ sh h' (hnx h) = (1, 0) ∧ gn h' (hnx h) = 16 ∧ ∀ k, 0 ≤ k → k < 16 → gZ h' (hnx h) k = hd s k := by
  rw [b_X12_turned_0, b_X12_turned_4]
  have sA : sh (aI 0 16 h) (hnx h) = (1, 0) := sh_aI (by decide)
  have nA : gn (aI 0 16 h) (hnx h) = 16 := gn_aI _ _ _
  have sa1 : sh (aI 0 16 h) a = (1, 0) := (sh_aI_ne _ _ _ (by omega)).trans sa
  have na1 : gn (aI 0 16 h) a = 16 := (gn_aI_ne _ _ _ (by omega)).trans na
  have hs1 : ∀ j, 0 ≤ j → j < 16 → gZ (aI 0 16 h) a j = s j := fun j j0 j1 => (gZ_aI_ne _ _ _ _ (by omega)).trans (hs j j0 j1)
  have hdb := hd_b hb
  refine lp (m := m_X12_turned) (pc := 7) (L := fun k (z : Value × Value) => [.ref a, .ref (hnx h), .int (mI k), z.1, z.2]) (N := 16) (P := fun r => ∃ h', r = some (.inl (some (.ref (hnx h))), h') ∧ Fr (fun _ _ => False) 1 16 h h' ∧ hnx h' = hnx h + 1 ∧ sh h' (hnx h) = (1, 0) ∧ gn h' (hnx h) = 16 ∧ ∀ k, 0 ≤ k → k < 16 → gZ h' (hnx h) k = hd s k) (fun k z h' => 0 ≤ k ∧ Md (fun c _ => c = hnx h) (aI 0 16 h) h' ∧ ∀ j, 0 ≤ j → j < k → gZ h' (hnx h) j = hd s j) ?_ ?_ 0 (am_J, am_J) (aI 0 16 h) (by omega) ⟨by omega, Md_rf _ _, fun j j0 j1 => by omega⟩
  · intro k z h' hk ⟨k0, md, hh⟩
    obtain ⟨z1, z2⟩ := z
    rw [b_X12_turned_7 (wr_id (z := k) (by omega) (by omega)), if_neg (by omega)]
    have sa' := (md_sh md a).trans sa1
    have na' := (md_gn md a).trans na1
    have sA' := (md_sh md _).trans sA
    have nA' := (md_gn md _).trans nA
    have blk : ∀ (u j : Int), 0 ≤ j → j ≤ 16 → rn m_X12_turned 18 [.ref a, .ref (hnx h), .int (mI k), .int (mI u), .int (mI j)] [] h' = if 16 ≤ j then rn m_X12_turned 7 [.ref a, .ref (hnx h), .int (mI (k + 1)), .int (mI u), .int (mI j)] [] (uZ h' (hnx h) k u) else rn m_X12_turned 18 [.ref a, .ref (hnx h), .int (mI k), .int (mI (u + sg (k / 4) (j / 4) * gZ h' a j * sg (j % 4) (k % 4))), .int (mI (j + 1))] [] h' := by
      intro u j j0 j1
      have st := b_X12_turned_18 (a0 := a) (a1 := hnx h) (n_a1 := 16) (n_a0 := 16) (x3 := u) (h := h') (wr_id (z := k) (by omega) (by omega)) (wr_id (z := j) (by omega) (by omega))
      rw [tdv k0, tdv j0, tmd k0, tmd j0, wr_id (z := k / 4) (by omega) (by omega), wr_id (z := j / 4) (by omega) (by omega), wr_id (z := j % 4) (by omega) (by omega), wr_id (z := k % 4) (by omega) (by omega)] at st
      exact st nA' sA' (fun _ => by omega) (fun _ => by omega) (fun _ => by omega) na' sa' (fun _ => by omega) (fun _ => by omega) (fun _ => by omega)
    refine lp (m := m_X12_turned) (pc := 18) (L := fun j (u : Int) => [.ref a, .ref (hnx h), .int (mI k), .int (mI u), .int (mI j)]) (N := 16) (P := fun r => ∃ (s' : Value × Value) (h'' : am_H), r = rn m_X12_turned 7 [.ref a, .ref (hnx h), .int (mI (k + 1)), s'.1, s'.2] [] h'' ∧ (0 ≤ k + 1 ∧ Md (fun c _ => c = hnx h) (aI 0 16 h) h'' ∧ ∀ j, 0 ≤ j → j < k + 1 → gZ h'' (hnx h) j = hd s j)) (fun j u h2 => 0 ≤ j ∧ h2 = h' ∧ u = sm j.toNat (fun j => sg (k / 4) (j / 4) * s j * sg (j % 4) (k % 4))) ?_ ?_ 0 0 h' (by omega) ⟨by omega, rfl, rfl⟩
    · intro j u h2 hj ⟨j0, e, eu⟩
      subst e
      refine ⟨_, h2, (blk u j j0 (by omega)).trans (if_neg (by omega)), by omega, rfl, ?_⟩
      rw [sm_succ j0, eu, md_gZ md (by omega), hs1 j j0 hj]
    · intro u h2 ⟨j0, e, eu⟩
      subst e
      refine ⟨(_, _), _, (blk u 16 j0 (by omega)).trans (if_pos (by omega)), by omega, Md_tr md (Md_uZ _ _ _ _), fun j j0 j1 => ?_⟩
      rw [gZ_uZ' (sh1 sA')]
      by_cases q : j = k
      · have eu2 : u = hd s k := by rw [eu]; exact turned_sum ⟨k0, hk⟩
        have := hdb k
        rw [if_pos q, q, eu2, wr_id (by omega) (by omega)]
      · rw [if_neg q]
        exact hh j j0 (by omega)
  · intro z h' ⟨k0, md, hh⟩
    rw [b_X12_turned_7 (wr_id (z := 16) (by omega) (by omega)), if_pos (by omega)]
    exact ⟨h', rfl, fr_new md, nx_new md, (md_sh md _).trans sA, (md_gn md _).trans nA, hh⟩
theorem picR_fr {S : Nat → Nat → Prop} {c s : Nat} {h h' : am_H} {M N : Nat} {r : Option Nat} {f : Int → Int} (F : Fr S c s h h') (hS : ∀ c k, c < N → ¬ S c k) (nN : N ≤ hnx h) (p : picR h M N r f) : picR h' M N r f := by
  obtain ⟨G, e, b, sG, nG, g, pf⟩ := p
  exact ⟨G, e, b, (F.1.sh1 (by omega)).trans sG, (F.1.gn1 (by omega)).trans nG, (funext fun i => F.1.gZ1 i (by omega) (hS _ _ b.2)).trans g, pf⟩
theorem vecAt_fr {S : Nat → Nat → Prop} {c s : Nat} {h h' : am_H} {V : Nat} {r m v1 v2 : Int} (F : Fr S c s h h') (hS : ¬ S V 0) (nV : V < hnx h) (p : vecAt h V r m v1 v2) : vecAt h' V r m v1 v2 := by
  unfold vecAt at *
  rw [F.1.gZ1 _ nV hS, F.1.gZ1 _ nV hS, F.1.gZ1 _ nV hS, F.1.gZ1 _ nV hS]
  exact p
theorem frZ {S : Nat → Nat → Prop} {c s : Nat} {h h' : am_H} {a : Nat} (F : Fr S c s h h') (ha : a < hnx h) (n : ¬ S a 0) : gZ h' a = gZ h a := funext fun i => F.1.gZ1 i ha n
theorem i_X12_guesses_0 : am_i m_X12_guesses 0 = some (0, .sipush 256, 3, [], 256) := rfl
theorem i_X12_guesses_3 : am_i m_X12_guesses 3 = some (3, .newarray .int, 2, [], 0) := rfl
theorem b_X12_guesses_0 {a0 a7 : Nat} {r1 r2 : Option Nat} {x3 x4 x5 x6 x8 : Int} {h : am_H} : rn m_X12_guesses 0 [.ref a0, am_rv r1, am_rv r2, .int (mI x3), .int (mI x4), .int (mI x5), .int (mI x6), .ref a7, .int (mI x8), am_J, am_J, am_J, am_J] [] h = rn m_X12_guesses 5 [.ref a0, am_rv r1, am_rv r2, .int (mI x3), .int (mI x4), .int (mI x5), .int (mI x6), .ref a7, .int (mI x8), am_J, am_J, am_J, am_J] [.ref (hnx h)] (aI 0 256 h) := by
  refine (tq_sipush i_X12_guesses_0 rfl).trans ?_
  exact tq_newI (n := 256) (t := 0) i_X12_guesses_3 w_256 (by decide) rfl (by decide) rfl rfl
theorem i_X12_guesses_5 : am_i m_X12_guesses 5 = some (5, .astore 9, 2, [], 0) := rfl
theorem i_X12_guesses_7 : am_i m_X12_guesses 7 = some (7, .iconst 0, 1, [], 0) := rfl
theorem i_X12_guesses_8 : am_i m_X12_guesses 8 = some (8, .istore 10, 2, [], 0) := rfl
theorem b_X12_guesses_5 {a0 a7 as0 : Nat} {r1 r2 : Option Nat} {x3 x4 x5 x6 x8 : Int} {v9 v10 v11 v12 : Value} {h : am_H} : rn m_X12_guesses 5 [.ref a0, am_rv r1, am_rv r2, .int (mI x3), .int (mI x4), .int (mI x5), .int (mI x6), .ref a7, .int (mI x8), v9, v10, v11, v12] [.ref as0] h = rn m_X12_guesses 10 [.ref a0, am_rv r1, am_rv r2, .int (mI x3), .int (mI x4), .int (mI x5), .int (mI x6), .ref a7, .int (mI x8), .ref as0, .int (mI 0), v11, v12] [] h := by
  refine (tq_astore (L' := [.ref a0, am_rv r1, am_rv r2, .int (mI x3), .int (mI x4), .int (mI x5), .int (mI x6), .ref a7, .int (mI x8), .ref as0, v10, v11, v12]) i_X12_guesses_5 (isA_ref _) rfl rfl).trans ?_
  refine (tq_iconst i_X12_guesses_7 rfl).trans ?_
  refine (tq_istore (L' := [.ref a0, am_rv r1, am_rv r2, .int (mI x3), .int (mI x4), .int (mI x5), .int (mI x6), .ref a7, .int (mI x8), .ref as0, .int (mI 0), v11, v12]) i_X12_guesses_8 rfl rfl).trans ?_
  rfl
theorem i_X12_guesses_10 : am_i m_X12_guesses 10 = some (10, .iload 10, 2, [], 0) := rfl
theorem i_X12_guesses_12 : am_i m_X12_guesses 12 = some (12, .iload 5, 2, [], 0) := rfl
theorem i_X12_guesses_14 : am_i m_X12_guesses 14 = some (14, .iload 5, 2, [], 0) := rfl
theorem i_X12_guesses_16 : am_i m_X12_guesses 16 = some (16, .imul, 1, [], 0) := rfl
theorem i_X12_guesses_17 : am_i m_X12_guesses 17 = some (17, .if_icmp .ge 75, 3, [], 0) := rfl
theorem i_X12_guesses_20 : am_i m_X12_guesses 20 = some (20, .iload_n 3, 1, [], 0) := rfl
theorem i_X12_guesses_21 : am_i m_X12_guesses 21 = some (21, .iload 10, 2, [], 0) := rfl
theorem i_X12_guesses_23 : am_i m_X12_guesses 23 = some (23, .iload 5, 2, [], 0) := rfl
theorem i_X12_guesses_25 : am_i m_X12_guesses 25 = some (25, .irem, 1, [], 0) := rfl
theorem i_X12_guesses_26 : am_i m_X12_guesses 26 = some (26, .iadd, 1, [], 0) := rfl
theorem i_X12_guesses_27 : am_i m_X12_guesses 27 = some (27, .istore 11, 2, [], 0) := rfl
theorem i_X12_guesses_29 : am_i m_X12_guesses 29 = some (29, .iload 4, 2, [], 0) := rfl
theorem i_X12_guesses_31 : am_i m_X12_guesses 31 = some (31, .iload 10, 2, [], 0) := rfl
theorem i_X12_guesses_33 : am_i m_X12_guesses 33 = some (33, .iload 5, 2, [], 0) := rfl
theorem i_X12_guesses_35 : am_i m_X12_guesses 35 = some (35, .idiv, 1, [], 0) := rfl
theorem i_X12_guesses_36 : am_i m_X12_guesses 36 = some (36, .iadd, 1, [], 0) := rfl
theorem i_X12_guesses_37 : am_i m_X12_guesses 37 = some (37, .istore 12, 2, [], 0) := rfl
theorem i_X12_guesses_39 : am_i m_X12_guesses 39 = some (39, .aload 9, 2, [], 0) := rfl
theorem i_X12_guesses_41 : am_i m_X12_guesses 41 = some (41, .bipush 16, 2, [], 16) := rfl
theorem i_X12_guesses_43 : am_i m_X12_guesses 43 = some (43, .iload 12, 2, [], 0) := rfl
theorem i_X12_guesses_45 : am_i m_X12_guesses 45 = some (45, .imul, 1, [], 0) := rfl
theorem i_X12_guesses_46 : am_i m_X12_guesses 46 = some (46, .iload 11, 2, [], 0) := rfl
theorem i_X12_guesses_48 : am_i m_X12_guesses 48 = some (48, .iadd, 1, [], 0) := rfl
theorem i_X12_guesses_49 : am_i m_X12_guesses 49 = some (49, .iload 6, 2, [], 0) := rfl
theorem i_X12_guesses_51 : am_i m_X12_guesses 51 = some (51, .iconst 4, 1, [], 4) := rfl
theorem i_X12_guesses_52 : am_i m_X12_guesses 52 = some (52, .if_icmp .ge 20, 3, [], 0) := rfl
theorem i_X12_guesses_55 : am_i m_X12_guesses 55 = some (55, .aload_n 0, 1, [], 0) := rfl
theorem i_X12_guesses_56 : am_i m_X12_guesses 56 = some (56, .iload 11, 2, [], 0) := rfl
theorem i_X12_guesses_58 : am_i m_X12_guesses 58 = some (58, .iload 12, 2, [], 0) := rfl
theorem i_X12_guesses_60 : am_i m_X12_guesses 60 = some (60, .iload 5, 2, [], 0) := rfl
theorem i_X12_guesses_62 : am_i m_X12_guesses 62 = some (62, .iload 6, 2, [], 0) := rfl
theorem i_X12_guesses_64 : am_i m_X12_guesses 64 = some (64, .iload 8, 2, [], 0) := rfl
theorem i_X12_guesses_66 : am_i m_X12_guesses 66 = some (66, .invokestatic 158, 3, [127], 0) := rfl
theorem i_X12_guesses_72 : am_i m_X12_guesses 72 = some (72, .aload_n 1, 1, [], 0) := rfl
theorem i_X12_guesses_73 : am_i m_X12_guesses 73 = some (73, .aload_n 2, 1, [], 0) := rfl
theorem i_X12_guesses_74 : am_i m_X12_guesses 74 = some (74, .iload 11, 2, [], 0) := rfl
theorem i_X12_guesses_76 : am_i m_X12_guesses 76 = some (76, .iload 12, 2, [], 0) := rfl
theorem i_X12_guesses_78 : am_i m_X12_guesses 78 = some (78, .iload 6, 2, [], 0) := rfl
theorem i_X12_guesses_80 : am_i m_X12_guesses 80 = some (80, .aload 7, 2, [], 0) := rfl
theorem i_X12_guesses_82 : am_i m_X12_guesses 82 = some (82, .invokestatic 171, 3, [173], 0) := rfl
theorem i_X12_guesses_92 : am_i m_X12_guesses 92 = some (92, .aload 9, 2, [], 0) := rfl
theorem i_X12_guesses_94 : am_i m_X12_guesses 94 = some (94, .areturn, 1, [], 0) := rfl
theorem b_X12_guesses_10 {a0 a7 a9 : Nat} {r1 r2 : Option Nat} {x3 x4 x5 x6 x8 x10 x5' x6' x10' : Int} {v11 v12 : Value} {h : am_H} (w5 : wr x5 = x5') (w6 : wr x6 = x6') (w10 : wr x10 = x10') (g1 : (¬ ((wr (x5 * x5)) ≤ x10')) → (x5' ≠ 0)) : rn m_X12_guesses 10 [.ref a0, am_rv r1, am_rv r2, .int (mI x3), .int (mI x4), .int (mI x5), .int (mI x6), .ref a7, .int (mI x8), .ref a9, .int (mI x10), v11, v12] [] h = if (wr (x5 * x5)) ≤ x10' then some (.inl (some (.ref a9)), h) else if 4 ≤ x6' then cl m_X12_guesses 85 [.ref a0, am_rv r1, am_rv r2, .int (mI x3), .int (mI x4), .int (mI x5), .int (mI x6), .ref a7, .int (mI x8), .ref a9, .int (mI x10), .int (mI (x3 + (Int.tmod x10' x5'))), .int (mI (x4 + (Int.tdiv x10' x5')))] [.int (mI ((16 * (x4 + (Int.tdiv x10' x5'))) + (x3 + (Int.tmod x10' x5')))), .ref a9] (rn m_X12_byPictures 0 [am_rv r1, am_rv r2, .int (mI (x3 + (Int.tmod x10' x5'))), .int (mI (x4 + (Int.tdiv x10' x5'))), .int (mI x6), .ref a7, am_J, am_J, am_J] [] h) else cl m_X12_guesses 69 [.ref a0, am_rv r1, am_rv r2, .int (mI x3), .int (mI x4), .int (mI x5), .int (mI x6), .ref a7, .int (mI x8), .ref a9, .int (mI x10), .int (mI (x3 + (Int.tmod x10' x5'))), .int (mI (x4 + (Int.tdiv x10' x5')))] [.int (mI ((16 * (x4 + (Int.tdiv x10' x5'))) + (x3 + (Int.tmod x10' x5')))), .ref a9] (rn m_X12_byBorder 0 [.ref a0, .int (mI (x3 + (Int.tmod x10' x5'))), .int (mI (x4 + (Int.tdiv x10' x5'))), .int (mI x5), .int (mI x6), .int (mI x8), am_J, am_J, am_J, am_J, am_J, am_J, am_J] [] h) := by
  refine (tq_iload i_X12_guesses_10 rfl rfl).trans ?_
  refine (tq_iload i_X12_guesses_12 rfl rfl).trans ?_
  refine (tq_iload i_X12_guesses_14 rfl rfl).trans ?_
  refine (tq_imul i_X12_guesses_16 rfl).trans ?_
  refine (tq_icmp_ge (pt := 92) i_X12_guesses_17 w10 rfl (by decide) rfl).trans ?_
  refine ite_congr rfl (fun c1 => ?_) (fun c1 => ?_)
  · refine (tq_aload i_X12_guesses_92 rfl (isA_ref _) rfl).trans ?_
    exact tq_areturn i_X12_guesses_94 (isA_ref _) r_X12_guesses rfl
  · refine (tq_iload_n i_X12_guesses_20 rfl rfl).trans ?_
    refine (tq_iload i_X12_guesses_21 rfl rfl).trans ?_
    refine (tq_iload i_X12_guesses_23 rfl rfl).trans ?_
    refine (tq_irem i_X12_guesses_25 w10 w5 (g1 c1) rfl).trans ?_
    refine (tq_iadd i_X12_guesses_26 rfl).trans ?_
    refine (tq_istore (L' := [.ref a0, am_rv r1, am_rv r2, .int (mI x3), .int (mI x4), .int (mI x5), .int (mI x6), .ref a7, .int (mI x8), .ref a9, .int (mI x10), .int (mI (x3 + (Int.tmod x10' x5'))), v12]) i_X12_guesses_27 rfl rfl).trans ?_
    refine (tq_iload i_X12_guesses_29 rfl rfl).trans ?_
    refine (tq_iload i_X12_guesses_31 rfl rfl).trans ?_
    refine (tq_iload i_X12_guesses_33 rfl rfl).trans ?_
    refine (tq_idiv i_X12_guesses_35 w10 w5 (g1 c1) rfl).trans ?_
    refine (tq_iadd i_X12_guesses_36 rfl).trans ?_
    refine (tq_istore (L' := [.ref a0, am_rv r1, am_rv r2, .int (mI x3), .int (mI x4), .int (mI x5), .int (mI x6), .ref a7, .int (mI x8), .ref a9, .int (mI x10), .int (mI (x3 + (Int.tmod x10' x5'))), .int (mI (x4 + (Int.tdiv x10' x5')))]) i_X12_guesses_37 rfl rfl).trans ?_
    refine (tq_aload i_X12_guesses_39 rfl (isA_ref _) rfl).trans ?_
    refine (tq_bipush i_X12_guesses_41 rfl).trans ?_
    refine (tq_iload i_X12_guesses_43 rfl rfl).trans ?_
    refine (tq_imul i_X12_guesses_45 rfl).trans ?_
    refine (tq_iload i_X12_guesses_46 rfl rfl).trans ?_
    refine (tq_iadd i_X12_guesses_48 rfl).trans ?_
    refine (tq_iload i_X12_guesses_49 rfl rfl).trans ?_
    refine (tq_iconst i_X12_guesses_51 rfl).trans ?_
    refine (tq_icmp_ge (pt := 72) i_X12_guesses_52 w6 w_4 (by decide) rfl).trans ?_
    refine ite_congr rfl (fun c2 => ?_) (fun c2 => ?_)
    · refine (tq_aload_n i_X12_guesses_72 rfl (isA_rv _) rfl).trans ?_
      refine (tq_aload_n i_X12_guesses_73 rfl (isA_rv _) rfl).trans ?_
      refine (tq_iload i_X12_guesses_74 rfl rfl).trans ?_
      refine (tq_iload i_X12_guesses_76 rfl rfl).trans ?_
      refine (tq_iload i_X12_guesses_78 rfl rfl).trans ?_
      refine (tq_aload i_X12_guesses_80 rfl (isA_ref _) rfl).trans ?_
      exact c_X12_byPictures i_X12_guesses_82 (ltd d_X12_guesses (by decide)) (isA_rv _) (isA_rv _) (isA_ref _) (stOk_2 _ _) rfl
    · refine (tq_aload_n i_X12_guesses_55 rfl (isA_ref _) rfl).trans ?_
      refine (tq_iload i_X12_guesses_56 rfl rfl).trans ?_
      refine (tq_iload i_X12_guesses_58 rfl rfl).trans ?_
      refine (tq_iload i_X12_guesses_60 rfl rfl).trans ?_
      refine (tq_iload i_X12_guesses_62 rfl rfl).trans ?_
      refine (tq_iload i_X12_guesses_64 rfl rfl).trans ?_
      exact c_X12_byBorder i_X12_guesses_66 (ltd d_X12_guesses (by decide)) (isA_ref _) (stOk_2 _ _) rfl
theorem i_X12_guesses_69 : am_i m_X12_guesses 69 = some (69, .goto 16, 3, [], 0) := rfl
theorem b_X12_guesses_69 {a0 a7 a9 as2 : Nat} {r1 r2 : Option Nat} {x3 x4 x5 x6 x8 x10 xs0 xs1 : Int} {v11 v12 : Value} {h : am_H} : rn m_X12_guesses 69 [.ref a0, am_rv r1, am_rv r2, .int (mI x3), .int (mI x4), .int (mI x5), .int (mI x6), .ref a7, .int (mI x8), .ref a9, .int (mI x10), v11, v12] [.int (mI xs0), .int (mI xs1), .ref as2] h = rn m_X12_guesses 85 [.ref a0, am_rv r1, am_rv r2, .int (mI x3), .int (mI x4), .int (mI x5), .int (mI x6), .ref a7, .int (mI x8), .ref a9, .int (mI x10), v11, v12] [.int (mI xs0), .int (mI xs1), .ref as2] h := by
  refine (tq_goto (pc' := 85) i_X12_guesses_69 (by decide)).trans ?_
  rfl
theorem i_X12_guesses_85 : am_i m_X12_guesses 85 = some (85, .iastore, 1, [], 0) := rfl
theorem i_X12_guesses_86 : am_i m_X12_guesses 86 = some (86, .iinc 10 1, 3, [], 0) := rfl
theorem i_X12_guesses_89 : am_i m_X12_guesses 89 = some (89, .goto (-79), 3, [], 0) := rfl
theorem b_X12_guesses_85 {a0 a7 a9 as2 n_as2 : Nat} {r1 r2 : Option Nat} {x3 x4 x5 x6 x8 x10 xs0 xs1 xs1' : Int} {v11 v12 : Value} {h : am_H} (ws1 : wr xs1 = xs1') (n1 : gn h as2 = n_as2) (s2 : sh h as2 = (1, 0)) (g3 : 0 ≤ xs1' ∧ xs1' < (n_as2 : Int)) : rn m_X12_guesses 85 [.ref a0, am_rv r1, am_rv r2, .int (mI x3), .int (mI x4), .int (mI x5), .int (mI x6), .ref a7, .int (mI x8), .ref a9, .int (mI x10), v11, v12] [.int (mI xs0), .int (mI xs1), .ref as2] h = rn m_X12_guesses 10 [.ref a0, am_rv r1, am_rv r2, .int (mI x3), .int (mI x4), .int (mI x5), .int (mI x6), .ref a7, .int (mI x8), .ref a9, .int (mI (x10 + 1)), v11, v12] [] (uZ h as2 xs1' xs0) := by
  refine (tq_iastore i_X12_guesses_85 s2 ws1 g3.1 (lt_gn n1 g3.2) rfl).trans ?_
  refine (tq_iinc (L' := [.ref a0, am_rv r1, am_rv r2, .int (mI x3), .int (mI x4), .int (mI x5), .int (mI x6), .ref a7, .int (mI x8), .ref a9, .int (mI (x10 + 1)), v11, v12]) i_X12_guesses_86 rfl rfl rfl).trans ?_
  refine (tq_goto (pc' := 10) i_X12_guesses_89 (by decide)).trans ?_
  rfl
/-- what a guess wants of the model's heap -/
def gOk (h : am_H) (M N P V : Nat) (r1 r2 : Option Nat) (p f1 f2 : Int → Int) (X Y Z T m v1 v2 : Int) : Prop := (sh h P = (1, 0) ∧ gn h P = 256 ∧ gZ h P = p ∧ pixels p) ∧ (sh h V = (1, 0) ∧ gn h V = 64) ∧ (0 ≤ m ∧ m ≤ 6) ∧ (4 ≤ m → (m ≠ 5 → picR h M N r1 f1) ∧ (m ≠ 4 → picR h M N r2 f2) ∧ ∀ a b, X ≤ a → a < X + Z → Y ≤ b → b < Y + Z → vecAt h V (4 * (b / 4) + a / 4) m v1 v2)
theorem gOk_fr {S : Nat → Nat → Prop} {c s : Nat} {h h' : am_H} {M N P V : Nat} {r1 r2 : Option Nat} {p f1 f2 : Int → Int} {X Y Z T m v1 v2 : Int} (F : Fr S c s h h') (hS : ∀ c k, c < N → ¬ S c k) (nN : N ≤ hnx h) (sP : ¬ S P 0) (nP : P < hnx h) (sV : ¬ S V 0) (nV : V < hnx h) (g : gOk h M N P V r1 r2 p f1 f2 X Y Z T m v1 v2) : gOk h' M N P V r1 r2 p f1 f2 X Y Z T m v1 v2 := by
  obtain ⟨⟨g1, g2, g3, g4⟩, ⟨g5, g6⟩, g7, g8⟩ := g
  exact ⟨⟨(F.1.sh1 nP).trans g1, (F.1.gn1 nP).trans g2, (frZ F nP sP).trans g3, g4⟩, ⟨(F.1.sh1 nV).trans g5, (F.1.gn1 nV).trans g6⟩, g7, fun c4 => ⟨fun e => picR_fr F hS nN ((g8 c4).1 e), fun e => picR_fr F hS nN ((g8 c4).2.1 e), fun a b a0 a1 b0 b1 => vecAt_fr F sV nV ((g8 c4).2.2 a b a0 a1 b0 b1)⟩⟩
theorem gOk_b {h : am_H} {M N P V : Nat} {r1 r2 : Option Nat} {p f1 f2 : Int → Int} {X Y Z T m v1 v2 a b : Int} (g : gOk h M N P V r1 r2 p f1 f2 X Y Z T m v1 v2) (ip : isPart X Y Z T) (ha : X ≤ a ∧ a < X + Z) (hb : Y ≤ b ∧ b < Y + Z) : 0 ≤ gss p f1 f2 X Y Z T m v1 v2 a b ∧ gss p f1 f2 X Y Z T m v1 v2 a b ≤ 255 := by
  obtain ⟨⟨g1, g2, g3, g4⟩, ⟨g5, g6⟩, g7, g8⟩ := g
  exact gss_pb g4 (fun e => by obtain ⟨F, -, -, -, -, -, pf⟩ := (g8 (by omega)).1 (by omega); exact pf) (fun e => by obtain ⟨F, -, -, -, -, -, pf⟩ := (g8 (by omega)).2.1 (by omega); exact pf) g7.2 ip ha hb
theorem guesses_ok {h : am_H} {M N P V : Nat} {r1 r2 : Option Nat} {p f1 f2 : Int → Int} {X Y Z sl m v1 v2 : Int} (g : gOk h M N P V r1 r2 p f1 f2 X Y Z (tp sl Y) m v1 v2) (nN : N ≤ hnx h) (nP : P < hnx h) (nV : V < hnx h) (li : lies X Y Z (tp sl Y)) (hsl : sl = 1 ∨ sl = 2) : ∃ h', rn m_X12_guesses 0 [.ref P, am_rv r1, am_rv r2, .int (mI X), .int (mI Y), .int (mI Z), .int (mI m), .ref V, .int (mI sl), am_J, am_J, am_J, am_J] [] h = some (.inl (some (.ref (hnx h))), h') ∧ Fr (fun _ _ => False) 1 256 h h' ∧ hnx h' = hnx h + 1 ∧ sh h' (hnx h) = (1, 0) ∧ gn h' (hnx h) = 256 ∧ ∀ a b, X ≤ a → a < X + Z → Y ≤ b → b < Y + Z → gZ h' (hnx h) (16 * b + a) = gss p f1 f2 X Y Z (tp sl Y) m v1 v2 a b := by
  have tb := tp_b sl Y
  obtain ⟨ip, mm⟩ := lies_part li tb.2
  have gb := fun a b (ha : X ≤ a ∧ a < X + Z) (hb : Y ≤ b ∧ b < Y + Z) => gOk_b g ip ha hb
  have ip0 := ip
  obtain ⟨hz, hX, hY, hT⟩ := ip
  have zz : Z * Z = 16 ∨ Z * Z = 64 := by rcases hz with e | e <;> rw [e] <;> omega
  have hm := g.2.2.1
  rw [b_X12_guesses_0, b_X12_guesses_5]
  have sA : sh (aI 0 256 h) (hnx h) = (1, 0) := sh_aI (by decide)
  have nA : gn (aI 0 256 h) (hnx h) = 256 := gn_aI _ _ _
  refine lp (m := m_X12_guesses) (pc := 10) (L := fun k (z : Value × Value) => [.ref P, am_rv r1, am_rv r2, .int (mI X), .int (mI Y), .int (mI Z), .int (mI m), .ref V, .int (mI sl), .ref (hnx h), .int (mI k), z.1, z.2]) (N := Z * Z) (P := fun r => ∃ h', r = some (.inl (some (.ref (hnx h))), h') ∧ Fr (fun _ _ => False) 1 256 h h' ∧ hnx h' = hnx h + 1 ∧ sh h' (hnx h) = (1, 0) ∧ gn h' (hnx h) = 256 ∧ ∀ a b, X ≤ a → a < X + Z → Y ≤ b → b < Y + Z → gZ h' (hnx h) (16 * b + a) = gss p f1 f2 X Y Z (tp sl Y) m v1 v2 a b) (fun k z h' => 0 ≤ k ∧ Md (fun c _ => c = hnx h) (aI 0 256 h) h' ∧ ∀ j, 0 ≤ j → j < k → gZ h' (hnx h) (16 * (Y + j / Z) + (X + j % Z)) = gss p f1 f2 X Y Z (tp sl Y) m v1 v2 (X + j % Z) (Y + j / Z)) ?_ ?_ 0 (am_J, am_J) (aI 0 256 h) (by omega) ⟨by omega, Md_rf _ _, fun j j0 j1 => by omega⟩
  · intro k z h' hk ⟨k0, md, hh⟩
    obtain ⟨z1, z2⟩ := z
    have kk : 0 ≤ k % Z ∧ k % Z < Z ∧ 0 ≤ k / Z ∧ k / Z < Z := by rcases hz with rfl | rfl <;> omega
    have g' := gOk_fr (fr_new md) (fun _ _ _ q => q) nN (fun q => q) nP (fun q => q) nV g
    obtain ⟨⟨g1, g2, g3, g4⟩, ⟨g5, g6⟩, g7, g8⟩ := id g'
    have st := b_X12_guesses_10 (a0 := P) (a7 := V) (a9 := hnx h) (r1 := r1) (r2 := r2) (x3 := X) (x4 := Y) (x8 := sl) (v11 := z1) (v12 := z2) (h := h') (wr_id (z := Z) (by omega) (by omega)) (wr_id (z := m) (by omega) (by omega)) (wr_id (z := k) (by omega) (by omega)) (fun _ => by omega)
    rw [wr_id (z := Z * Z) (by omega) (by omega), if_neg (by omega), tmd k0, tdv k0] at st
    have c2 := gb (X + k % Z) (Y + k / Z) ⟨by omega, by omega⟩ ⟨by omega, by omega⟩
    have fin := b_X12_guesses_85 (a0 := P) (a7 := V) (a9 := hnx h) (as2 := hnx h) (n_as2 := 256) (r1 := r1) (r2 := r2) (x3 := X) (x4 := Y) (x5 := Z) (x6 := m) (x8 := sl) (x10 := k) (v11 := .int (mI (X + k % Z))) (v12 := .int (mI (Y + k / Z))) (xs0 := gss p f1 f2 X Y Z (tp sl Y) m v1 v2 (X + k % Z) (Y + k / Z)) (h := h') (wr_id (z := 16 * (Y + k / Z) + (X + k % Z)) (by omega) (by omega)) ((md_gn md _).trans nA) ((md_sh md _).trans sA) (by omega)
    refine ⟨(_, _), _, st.trans (Eq.trans ?_ fin), by omega, Md_tr md (Md_uZ _ _ _ _), fun j j0 j1 => ?_⟩
    · by_cases c4 : 4 ≤ m
      · rw [if_pos c4, byPictures_ok g5 g6 ⟨by omega, by omega⟩ ⟨by omega, by omega⟩ ⟨c4, g7.2⟩ (g8 c4).1 (g8 c4).2.1 ((g8 c4).2.2 _ _ (by omega) (by omega) (by omega) (by omega)), cl_v, show gsK f1 f2 m v1 v2 (X + k % Z) (Y + k / Z) = gss p f1 f2 X Y Z (tp sl Y) m v1 v2 (X + k % Z) (Y + k / Z) by unfold gss; rw [if_neg (by omega)]]
      · rw [if_neg c4, byBorder_ok g1 g2 (by decide) (by rw [g3]; exact g4) li hsl ⟨g7.1, by omega⟩ ⟨by omega, by omega⟩ ⟨by omega, by omega⟩, cl_v, b_X12_guesses_69, g3, show gsB p X Y Z (tp sl Y) m (X + k % Z) (Y + k / Z) = gss p f1 f2 X Y Z (tp sl Y) m v1 v2 (X + k % Z) (Y + k / Z) by unfold gss; rw [if_pos (by omega)]]
    · have jj : 0 ≤ j % Z ∧ j % Z < Z ∧ 0 ≤ j / Z ∧ j / Z < Z := by rcases hz with rfl | rfl <;> omega
      rw [gZ_uZ' (sh1 ((md_sh md _).trans sA))]
      by_cases q : j = k
      · rw [if_pos (by rw [q]), q, wr_255 c2]
      · have : ¬ (j % Z = k % Z ∧ j / Z = k / Z) := by rcases hz with rfl | rfl <;> omega
        rw [if_neg (by omega)]
        exact hh j j0 (by omega)
  · intro z h' ⟨k0, md, hh⟩
    obtain ⟨z1, z2⟩ := z
    have st := b_X12_guesses_10 (a0 := P) (a7 := V) (a9 := hnx h) (r1 := r1) (r2 := r2) (x3 := X) (x4 := Y) (x8 := sl) (v11 := z1) (v12 := z2) (h := h') (wr_id (z := Z) (by omega) (by omega)) (wr_id (z := m) (by omega) (by omega)) (wr_id (z := Z * Z) (by omega) (by omega)) (fun _ => by omega)
    rw [wr_id (z := Z * Z) (by omega) (by omega), if_pos (by omega)] at st
    refine ⟨h', st, fr_new md, nx_new md, (md_sh md _).trans sA, (md_gn md _).trans nA, fun a b a0 a1 b0 b1 => ?_⟩
    have := hh (Z * (b - Y) + (a - X)) (by rcases hz with rfl | rfl <;> omega) (by rcases hz with rfl | rfl <;> omega)
    have e1 : (Z * (b - Y) + (a - X)) / Z = b - Y := by rcases hz with rfl | rfl <;> omega
    have e2 : (Z * (b - Y) + (a - X)) % Z = a - X := by rcases hz with rfl | rfl <;> omega
    rw [e1, e2, show Y + (b - Y) = b by omega, show X + (a - X) = a by omega] at this
    exact this
