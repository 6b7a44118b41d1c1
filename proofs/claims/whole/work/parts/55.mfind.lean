/-! ===== the model's search ===== -/
def inR (X Y Z r : Int) : Prop := (X ≤ 4 * (r % 4) ∧ 4 * (r % 4) < X + Z) ∧ Y ≤ 4 * (r / 4) ∧ 4 * (r / 4) < Y + Z
theorem i_X12_setsVector_0 : am_i m_X12_setsVector 0 = some (0, .iconst 0, 1, [], 0) := rfl
theorem i_X12_setsVector_1 : am_i m_X12_setsVector 1 = some (1, .istore 7, 2, [], 0) := rfl
theorem b_X12_setsVector_0 {a0 : Nat} {x1 x2 x3 x4 x5 x6 : Int} {h : am_H} : rn m_X12_setsVector 0 [.ref a0, .int (mI x1), .int (mI x2), .int (mI x3), .int (mI x4), .int (mI x5), .int (mI x6), am_J, am_J] [] h = rn m_X12_setsVector 3 [.ref a0, .int (mI x1), .int (mI x2), .int (mI x3), .int (mI x4), .int (mI x5), .int (mI x6), .int (mI 0), am_J] [] h := by
  refine (tq_iconst i_X12_setsVector_0 rfl).trans ?_
  refine (tq_istore (L' := [.ref a0, .int (mI x1), .int (mI x2), .int (mI x3), .int (mI x4), .int (mI x5), .int (mI x6), .int (mI 0), am_J]) i_X12_setsVector_1 rfl rfl).trans ?_
  rfl
theorem i_X12_setsVector_3 : am_i m_X12_setsVector 3 = some (3, .iload 7, 2, [], 0) := rfl
theorem i_X12_setsVector_5 : am_i m_X12_setsVector 5 = some (5, .iload_n 3, 1, [], 0) := rfl
theorem i_X12_setsVector_6 : am_i m_X12_setsVector 6 = some (6, .iload_n 3, 1, [], 0) := rfl
theorem i_X12_setsVector_7 : am_i m_X12_setsVector 7 = some (7, .imul, 1, [], 0) := rfl
theorem i_X12_setsVector_8 : am_i m_X12_setsVector 8 = some (8, .if_icmp .ge 55, 3, [], 0) := rfl
theorem i_X12_setsVector_11 : am_i m_X12_setsVector 11 = some (11, .iconst 4, 1, [], 4) := rfl
theorem i_X12_setsVector_12 : am_i m_X12_setsVector 12 = some (12, .iconst 4, 1, [], 4) := rfl
theorem i_X12_setsVector_13 : am_i m_X12_setsVector 13 = some (13, .iload_n 2, 1, [], 0) := rfl
theorem i_X12_setsVector_14 : am_i m_X12_setsVector 14 = some (14, .iload 7, 2, [], 0) := rfl
theorem i_X12_setsVector_16 : am_i m_X12_setsVector 16 = some (16, .iload_n 3, 1, [], 0) := rfl
theorem i_X12_setsVector_17 : am_i m_X12_setsVector 17 = some (17, .idiv, 1, [], 0) := rfl
theorem i_X12_setsVector_18 : am_i m_X12_setsVector 18 = some (18, .iadd, 1, [], 0) := rfl
theorem i_X12_setsVector_19 : am_i m_X12_setsVector 19 = some (19, .iconst 4, 1, [], 4) := rfl
theorem i_X12_setsVector_20 : am_i m_X12_setsVector 20 = some (20, .idiv, 1, [], 0) := rfl
theorem i_X12_setsVector_21 : am_i m_X12_setsVector 21 = some (21, .imul, 1, [], 0) := rfl
theorem i_X12_setsVector_22 : am_i m_X12_setsVector 22 = some (22, .iload_n 1, 1, [], 0) := rfl
theorem i_X12_setsVector_23 : am_i m_X12_setsVector 23 = some (23, .iload 7, 2, [], 0) := rfl
theorem i_X12_setsVector_25 : am_i m_X12_setsVector 25 = some (25, .iload_n 3, 1, [], 0) := rfl
theorem i_X12_setsVector_26 : am_i m_X12_setsVector 26 = some (26, .irem, 1, [], 0) := rfl
theorem i_X12_setsVector_27 : am_i m_X12_setsVector 27 = some (27, .iadd, 1, [], 0) := rfl
theorem i_X12_setsVector_28 : am_i m_X12_setsVector 28 = some (28, .iconst 4, 1, [], 4) := rfl
theorem i_X12_setsVector_29 : am_i m_X12_setsVector 29 = some (29, .idiv, 1, [], 0) := rfl
theorem i_X12_setsVector_30 : am_i m_X12_setsVector 30 = some (30, .iadd, 1, [], 0) := rfl
theorem i_X12_setsVector_31 : am_i m_X12_setsVector 31 = some (31, .imul, 1, [], 0) := rfl
theorem i_X12_setsVector_32 : am_i m_X12_setsVector 32 = some (32, .iload 4, 2, [], 0) := rfl
theorem i_X12_setsVector_34 : am_i m_X12_setsVector 34 = some (34, .iadd, 1, [], 0) := rfl
theorem i_X12_setsVector_35 : am_i m_X12_setsVector 35 = some (35, .istore 8, 2, [], 0) := rfl
theorem i_X12_setsVector_37 : am_i m_X12_setsVector 37 = some (37, .aload_n 0, 1, [], 0) := rfl
theorem i_X12_setsVector_38 : am_i m_X12_setsVector 38 = some (38, .getfield 168, 3, [10, 31, 0], 0) := rfl
theorem i_X12_setsVector_41 : am_i m_X12_setsVector 41 = some (41, .iload 8, 2, [], 0) := rfl
theorem i_X12_setsVector_43 : am_i m_X12_setsVector 43 = some (43, .iload 5, 2, [], 0) := rfl
theorem i_X12_setsVector_45 : am_i m_X12_setsVector 45 = some (45, .iastore, 1, [], 0) := rfl
theorem i_X12_setsVector_46 : am_i m_X12_setsVector 46 = some (46, .aload_n 0, 1, [], 0) := rfl
theorem i_X12_setsVector_47 : am_i m_X12_setsVector 47 = some (47, .getfield 168, 3, [10, 31, 0], 0) := rfl
theorem i_X12_setsVector_50 : am_i m_X12_setsVector 50 = some (50, .iload 8, 2, [], 0) := rfl
theorem i_X12_setsVector_52 : am_i m_X12_setsVector 52 = some (52, .iconst 1, 1, [], 1) := rfl
theorem i_X12_setsVector_53 : am_i m_X12_setsVector 53 = some (53, .iadd, 1, [], 0) := rfl
theorem i_X12_setsVector_54 : am_i m_X12_setsVector 54 = some (54, .iload 6, 2, [], 0) := rfl
theorem i_X12_setsVector_56 : am_i m_X12_setsVector 56 = some (56, .iastore, 1, [], 0) := rfl
theorem i_X12_setsVector_57 : am_i m_X12_setsVector 57 = some (57, .iinc 7 1, 3, [], 0) := rfl
theorem i_X12_setsVector_60 : am_i m_X12_setsVector 60 = some (60, .goto (-57), 3, [], 0) := rfl
theorem i_X12_setsVector_63 : am_i m_X12_setsVector 63 = some (63, .return_, 1, [], 0) := rfl
theorem b_X12_setsVector_3 {a0 a0_vector n_a0_vector : Nat} {x1 x2 x3 x4 x5 x6 x7 x3' x7' : Int} {v8 : Value} {h : am_H} (w3 : wr x3 = x3') (w7 : wr x7 = x7') (g1 : (¬ ((wr (x3 * x3)) ≤ x7')) → (x3' ≠ 0)) (k2 : K10 h a0) (e3 : fA h a0 31 = some a0_vector) (n4 : gn h a0_vector = n_a0_vector) (s5 : sh h a0_vector = (1, 0)) (g6 : (¬ ((wr (x3 * x3)) ≤ x7')) → (0 ≤ wr ((4 * ((4 * (Int.tdiv (wr (x2 + (Int.tdiv x7' x3'))) 4)) + (Int.tdiv (wr (x1 + (Int.tmod x7' x3'))) 4))) + x4) ∧ wr ((4 * ((4 * (Int.tdiv (wr (x2 + (Int.tdiv x7' x3'))) 4)) + (Int.tdiv (wr (x1 + (Int.tmod x7' x3'))) 4))) + x4) < (n_a0_vector : Int))) (g7 : (¬ ((wr (x3 * x3)) ≤ x7')) → (0 ≤ wr (((4 * ((4 * (Int.tdiv (wr (x2 + (Int.tdiv x7' x3'))) 4)) + (Int.tdiv (wr (x1 + (Int.tmod x7' x3'))) 4))) + x4) + 1) ∧ wr (((4 * ((4 * (Int.tdiv (wr (x2 + (Int.tdiv x7' x3'))) 4)) + (Int.tdiv (wr (x1 + (Int.tmod x7' x3'))) 4))) + x4) + 1) < (n_a0_vector : Int))) : rn m_X12_setsVector 3 [.ref a0, .int (mI x1), .int (mI x2), .int (mI x3), .int (mI x4), .int (mI x5), .int (mI x6), .int (mI x7), v8] [] h = if (wr (x3 * x3)) ≤ x7' then some (.inl none, h) else rn m_X12_setsVector 3 [.ref a0, .int (mI x1), .int (mI x2), .int (mI x3), .int (mI x4), .int (mI x5), .int (mI x6), .int (mI (x7 + 1)), .int (mI ((4 * ((4 * (Int.tdiv (wr (x2 + (Int.tdiv x7' x3'))) 4)) + (Int.tdiv (wr (x1 + (Int.tmod x7' x3'))) 4))) + x4))] [] (uZ (uZ h a0_vector (wr ((4 * ((4 * (Int.tdiv (wr (x2 + (Int.tdiv x7' x3'))) 4)) + (Int.tdiv (wr (x1 + (Int.tmod x7' x3'))) 4))) + x4)) x5) a0_vector (wr (((4 * ((4 * (Int.tdiv (wr (x2 + (Int.tdiv x7' x3'))) 4)) + (Int.tdiv (wr (x1 + (Int.tmod x7' x3'))) 4))) + x4) + 1)) x6) := by
  refine (tq_iload i_X12_setsVector_3 rfl rfl).trans ?_
  refine (tq_iload_n i_X12_setsVector_5 rfl rfl).trans ?_
  refine (tq_iload_n i_X12_setsVector_6 rfl rfl).trans ?_
  refine (tq_imul i_X12_setsVector_7 rfl).trans ?_
  refine (tq_icmp_ge (pt := 63) i_X12_setsVector_8 w7 rfl (by decide) rfl).trans ?_
  refine ite_congr rfl (fun c1 => ?_) (fun c1 => ?_)
  · exact tq_return i_X12_setsVector_63 r_X12_setsVector
  · refine (tq_iconst i_X12_setsVector_11 rfl).trans ?_
    refine (tq_iconst i_X12_setsVector_12 rfl).trans ?_
    refine (tq_iload_n i_X12_setsVector_13 rfl rfl).trans ?_
    refine (tq_iload i_X12_setsVector_14 rfl rfl).trans ?_
    refine (tq_iload_n i_X12_setsVector_16 rfl rfl).trans ?_
    refine (tq_idiv i_X12_setsVector_17 w7 w3 (g1 c1) rfl).trans ?_
    refine (tq_iadd i_X12_setsVector_18 rfl).trans ?_
    refine (tq_iconst i_X12_setsVector_19 rfl).trans ?_
    refine (tq_idiv i_X12_setsVector_20 rfl w_4 (by decide) rfl).trans ?_
    refine (tq_imul i_X12_setsVector_21 rfl).trans ?_
    refine (tq_iload_n i_X12_setsVector_22 rfl rfl).trans ?_
    refine (tq_iload i_X12_setsVector_23 rfl rfl).trans ?_
    refine (tq_iload_n i_X12_setsVector_25 rfl rfl).trans ?_
    refine (tq_irem i_X12_setsVector_26 w7 w3 (g1 c1) rfl).trans ?_
    refine (tq_iadd i_X12_setsVector_27 rfl).trans ?_
    refine (tq_iconst i_X12_setsVector_28 rfl).trans ?_
    refine (tq_idiv i_X12_setsVector_29 rfl w_4 (by decide) rfl).trans ?_
    refine (tq_iadd i_X12_setsVector_30 rfl).trans ?_
    refine (tq_imul i_X12_setsVector_31 rfl).trans ?_
    refine (tq_iload i_X12_setsVector_32 rfl rfl).trans ?_
    refine (tq_iadd i_X12_setsVector_34 rfl).trans ?_
    refine (tq_istore (L' := [.ref a0, .int (mI x1), .int (mI x2), .int (mI x3), .int (mI x4), .int (mI x5), .int (mI x6), .int (mI x7), .int (mI ((4 * ((4 * (Int.tdiv (wr (x2 + (Int.tdiv x7' x3'))) 4)) + (Int.tdiv (wr (x1 + (Int.tmod x7' x3'))) 4))) + x4))]) i_X12_setsVector_35 rfl rfl).trans ?_
    refine (tq_aload_n i_X12_setsVector_37 rfl (isA_ref _) rfl).trans ?_
    refine (tq_getfield i_X12_setsVector_38 (K10_s k2) (gR (g_10_31 (K10_s k2)) e3) (isV_ref _) rfl).trans ?_
    refine (tq_iload i_X12_setsVector_41 rfl rfl).trans ?_
    refine (tq_iload i_X12_setsVector_43 rfl rfl).trans ?_
    refine (tq_iastore i_X12_setsVector_45 s5 rfl (g6 c1).1 (lt_gn n4 (g6 c1).2) rfl).trans ?_
    refine (tq_aload_n i_X12_setsVector_46 rfl (isA_ref _) rfl).trans ?_
    refine (tq_getfield i_X12_setsVector_47 ((sh_uZ _ _ _ _ _).trans (K10_s k2)) (gR ((g_10_31 ((sh_uZ _ _ _ _ _).trans (K10_s k2))).trans (congrArg am_rv (fA_uZ _ _ _ _ _ _))) e3) (isV_ref _) rfl).trans ?_
    refine (tq_iload i_X12_setsVector_50 rfl rfl).trans ?_
    refine (tq_iconst i_X12_setsVector_52 rfl).trans ?_
    refine (tq_iadd i_X12_setsVector_53 rfl).trans ?_
    refine (tq_iload i_X12_setsVector_54 rfl rfl).trans ?_
    refine (tq_iastore i_X12_setsVector_56 ((sh_uZ _ _ _ _ _).trans s5) rfl (g7 c1).1 (lt_gn ((gn_uZ _ _ _ _ _).trans n4) (g7 c1).2) rfl).trans ?_
    refine (tq_iinc (L' := [.ref a0, .int (mI x1), .int (mI x2), .int (mI x3), .int (mI x4), .int (mI x5), .int (mI x6), .int (mI (x7 + 1)), .int (mI ((4 * ((4 * (Int.tdiv (wr (x2 + (Int.tdiv x7' x3'))) 4)) + (Int.tdiv (wr (x1 + (Int.tmod x7' x3'))) 4))) + x4))]) i_X12_setsVector_57 rfl rfl rfl).trans ?_
    refine (tq_goto (pc' := 3) i_X12_setsVector_60 (by decide)).trans ?_
    rfl
theorem setsVector_ok {h : am_H} {M V : Nat} {X Y Z T w u d : Int} (k : K10 h M) (e : fA h M 31 = some V) (s : sh h V = (1, 0)) (n1 : gn h V = 64) (MV : M + 22 < V) (li : lies X Y Z T) (hT : T ≤ 8) (hw : w = 0 ∨ w = 2) (hu : -8 ≤ u ∧ u ≤ 8) (hd : -8 ≤ d ∧ d ≤ 8) : ∃ h', rn m_X12_setsVector 0 [.ref M, .int (mI X), .int (mI Y), .int (mI Z), .int (mI w), .int (mI u), .int (mI d), am_J, am_J] [] h = some (.inl none, h') ∧ Md (fun c _ => c = V) h h' ∧ (∀ a b, X ≤ a → a < X + Z → Y ≤ b → b < Y + Z → gZ h' V (4 * (4 * (b / 4) + a / 4) + w) = u ∧ gZ h' V (4 * (4 * (b / 4) + a / 4) + w + 1) = d) ∧ (∀ i, (i % 4 ≠ w ∧ i % 4 ≠ w + 1) ∨ ¬ inR X Y Z (i / 4) → gZ h' V i = gZ h V i) := by
  obtain ⟨⟨hz, hX, hY, hT0⟩, mm⟩ := lies_part li hT
  have zz : Z * Z = 16 ∨ Z * Z = 64 := by rcases hz with e | e <;> rw [e] <;> omega
  rw [b_X12_setsVector_0]
  refine lp (m := m_X12_setsVector) (pc := 3) (L := fun k (z : Value) => [.ref M, .int (mI X), .int (mI Y), .int (mI Z), .int (mI w), .int (mI u), .int (mI d), .int (mI k), z]) (N := Z * Z) (P := fun r => ∃ h', r = some (.inl none, h') ∧ Md (fun c _ => c = V) h h' ∧ (∀ a b, X ≤ a → a < X + Z → Y ≤ b → b < Y + Z → gZ h' V (4 * (4 * (b / 4) + a / 4) + w) = u ∧ gZ h' V (4 * (4 * (b / 4) + a / 4) + w + 1) = d) ∧ (∀ i, (i % 4 ≠ w ∧ i % 4 ≠ w + 1) ∨ ¬ inR X Y Z (i / 4) → gZ h' V i = gZ h V i)) (fun k z h' => 0 ≤ k ∧ Md (fun c _ => c = V) h h' ∧ (∀ j, 0 ≤ j → j < k → gZ h' V (4 * (4 * ((Y + j / Z) / 4) + (X + j % Z) / 4) + w) = u ∧ gZ h' V (4 * (4 * ((Y + j / Z) / 4) + (X + j % Z) / 4) + w + 1) = d) ∧ (∀ i, (∀ j, 0 ≤ j → j < k → i ≠ 4 * (4 * ((Y + j / Z) / 4) + (X + j % Z) / 4) + w ∧ i ≠ 4 * (4 * ((Y + j / Z) / 4) + (X + j % Z) / 4) + w + 1) → gZ h' V i = gZ h V i)) ?_ ?_ 0 am_J h (by omega) ⟨by omega, Md_rf _ _, fun j _ _ => by omega, fun _ _ => rfl⟩
  · intro k z h' hk ⟨k0, md, h1, h2⟩
    have kk : 0 ≤ k % Z ∧ k % Z < Z ∧ 0 ≤ k / Z ∧ k / Z < Z := by rcases hz with rfl | rfl <;> omega
    have sV : sh h' V = (1, 0) := (md_sh md _).trans s
    have e1 : wr (4 * (4 * ((Y + k / Z) / 4) + (X + k % Z) / 4) + w) = 4 * (4 * ((Y + k / Z) / 4) + (X + k % Z) / 4) + w := wr_id (by omega) (by omega)
    have e2 : wr (4 * (4 * ((Y + k / Z) / 4) + (X + k % Z) / 4) + w + 1) = 4 * (4 * ((Y + k / Z) / 4) + (X + k % Z) / 4) + w + 1 := wr_id (by omega) (by omega)
    have st := b_X12_setsVector_3 (a0 := M) (a0_vector := V) (n_a0_vector := 64) (x1 := X) (x2 := Y) (x4 := w) (x5 := u) (x6 := d) (v8 := z) (h := h') (wr_id (z := Z) (by omega) (by omega)) (wr_id (z := k) (by omega) (by omega))
    rw [tdv (x := k) k0, tmd k0, wr_id (z := Y + k / Z) (by omega) (by omega), wr_id (z := X + k % Z) (by omega) (by omega), tdv (x := Y + k / Z) (by omega), tdv (x := X + k % Z) (by omega), e1, e2, wr_id (z := Z * Z) (by omega) (by omega)] at st
    have st := st (fun _ => by omega) (K10_sm md.1 ‹_›) ((md_fA md (by omega)).trans e) ((md_gn md _).trans n1) sV (fun _ => by omega) (fun _ => by omega)
    rw [if_neg (by omega)] at st
    have key : ∀ A B i, gZ (uZ (uZ h' V A u) V B d) V i = if i = B then d else if i = A then u else gZ h' V i := fun A B i => by
      rw [gZ_uZ' (by rw [sh_uZ]; exact sh1 sV), gZ_uZ' (sh1 sV), wr_id (z := u) (by omega) (by omega), wr_id (z := d) (by omega) (by omega)]
    refine ⟨_, _, st, by omega, Md_tr md (Md_tr (Md_uZ _ _ _ _) (Md_uZ _ _ _ _)), fun j j0 j1 => ?_, fun i hi => ?_⟩
    · rw [key, key, if_neg (by omega)]
      by_cases q : 4 * (4 * ((Y + j / Z) / 4) + (X + j % Z) / 4) + w = 4 * (4 * ((Y + k / Z) / 4) + (X + k % Z) / 4) + w
      · rw [if_pos q, if_pos (by omega)]
        exact ⟨rfl, rfl⟩
      · rw [if_neg q, if_neg (by omega), if_neg (by omega)]
        by_cases jk : j = k
        · exact absurd (by rw [jk]) q
        · exact h1 j j0 (by omega)
    · have := hi k k0 (by omega)
      rw [gZ_uZ_nj _ (by rw [sh_uZ]; exact sh1 sV) this.2, gZ_uZ_nj _ (sh1 sV) this.1]
      exact h2 i fun j j0 j1 => hi j j0 (by omega)
  · intro z h' ⟨k0, md, h1, h2⟩
    have st := b_X12_setsVector_3 (a0 := M) (a0_vector := V) (n_a0_vector := 64) (x1 := X) (x2 := Y) (x4 := w) (x5 := u) (x6 := d) (v8 := z) (h := h') (wr_id (z := Z) (by omega) (by omega)) (wr_id (z := Z * Z) (by omega) (by omega))
    rw [wr_id (z := Z * Z) (by omega) (by omega)] at st
    have st := st (fun _ => by omega) (K10_sm md.1 ‹_›) ((md_fA md (by omega)).trans e) ((md_gn md _).trans n1) ((md_sh md _).trans s) (fun _ => by omega) (fun _ => by omega)
    rw [if_pos (by omega)] at st
    refine ⟨h', st, md, fun a b a0 a1 b0 b1 => ?_, fun i hi => h2 i fun j j0 j1 => ?_⟩
    · have := h1 (Z * (b - Y) + (a - X)) (by rcases hz with rfl | rfl <;> omega) (by rcases hz with rfl | rfl <;> omega)
      have e1 : (Z * (b - Y) + (a - X)) / Z = b - Y := by rcases hz with rfl | rfl <;> omega
      have e2 : (Z * (b - Y) + (a - X)) % Z = a - X := by rcases hz with rfl | rfl <;> omega
      rw [e1, e2, show Y + (b - Y) = b by omega, show X + (a - X) = a by omega] at this
      exact this
    · have kk : 0 ≤ j % Z ∧ j % Z < Z ∧ 0 ≤ j / Z ∧ j / Z < Z := by rcases hz with rfl | rfl <;> omega
      have in1 : inR X Y Z (4 * ((Y + j / Z) / 4) + (X + j % Z) / 4) := by
        unfold inR
        rcases li.1 with ⟨rfl, _, _⟩ | ⟨rfl, _, _⟩ <;> omega
      refine ⟨fun q => ?_, fun q => ?_⟩
      · rcases hi with hi | hi
        · omega
        · rw [q, show (4 * (4 * ((Y + j / Z) / 4) + (X + j % Z) / 4) + w) / 4 = 4 * ((Y + j / Z) / 4) + (X + j % Z) / 4 by omega] at hi
          exact hi in1
      · rcases hi with hi | hi
        · omega
        · rw [q, show (4 * (4 * ((Y + j / Z) / 4) + (X + j % Z) / 4) + w + 1) / 4 = 4 * ((Y + j / Z) / 4) + (X + j % Z) / 4 by omega] at hi
          exact hi in1
theorem cost4 {c p f1 f2 : Int → Int} {X Y Z T v1 v2 : Int} (hz : Z = 4 ∨ Z = 8) : cost c p f1 f2 X Y Z T 4 v1 v2 = vcost c f1 X Y Z v1 := by
  unfold cost vcost
  rw [dsum_congr (g' := fun x y => hv f1 (2 * x + vX v1) (2 * y + vY v1)) hz fun x y _ _ _ _ => rfl]
  rfl
theorem cost5 {c p f1 f2 : Int → Int} {X Y Z T v1 v2 : Int} (hz : Z = 4 ∨ Z = 8) : cost c p f1 f2 X Y Z T 5 v1 v2 = vcost c f2 X Y Z v2 := by
  unfold cost vcost
  rw [dsum_congr (g' := fun x y => hv f2 (2 * x + vX v2) (2 * y + vY v2)) hz fun x y _ _ _ _ => rfl]
  rfl
theorem vcost_b {c f : Int → Int} {X Y Z T v : Int} (ip : isPart X Y Z T) (hc : pixels c) (hf : pixels f) (ov : okv v) : 0 ≤ vcost c f X Y Z v ∧ vcost c f X Y Z v ≤ 20000 := by
  have zz : Z * Z = 16 ∨ Z * Z = 64 := by rcases ip.1 with e | e <;> rw [e] <;> omega
  have d := dsum_b (n := (Z * Z).toNat) (c := c) (g := fun x y => hv f (2 * x + vX v) (2 * y + vY v)) ip.1 (by omega) ip.2.1 ip.2.2.1 hc (fun x y _ _ _ _ => hv_b hf _ _)
  have l := vlen_b ov.1 ov.2.1 ov.2.2
  unfold vcost
  omega
theorem cand_XY {st n k : Int} (hs : isStep st n) (k0 : 0 ≤ k) (k1 : k < n * n) : vX (cand st n k) = st * (k % n) - 8 ∧ vY (cand st n k) = st * (k / n) - 8 := by
  unfold cand vX vY
  rcases hs with ⟨rfl, rfl⟩ | ⟨rfl, rfl⟩
  · have h1 : 0 ≤ k % 17 ∧ k % 17 ≤ 16 := by omega
    have h2 : 0 ≤ k / 17 ∧ k / 17 ≤ 16 := by omega
    generalize k % 17 = u at *
    generalize k / 17 = w at *
    omega
  · have h1 : 0 ≤ k % 9 ∧ k % 9 ≤ 8 := by omega
    have h2 : 0 ≤ k / 9 ∧ k / 9 ≤ 8 := by omega
    generalize k % 9 = u at *
    generalize k / 9 = w at *
    omega
theorem i_X12_findsVector_0 : am_i m_X12_findsVector 0 = some (0, .aload_n 0, 1, [], 0) := rfl
theorem i_X12_findsVector_1 : am_i m_X12_findsVector 1 = some (1, .getfield 26, 3, [10, 3, 0], 0) := rfl
theorem i_X12_findsVector_4 : am_i m_X12_findsVector 4 = some (4, .iconst 4, 1, [], 4) := rfl
theorem i_X12_findsVector_5 : am_i m_X12_findsVector 5 = some (5, .iand, 1, [], 0) := rfl
theorem i_X12_findsVector_6 : am_i m_X12_findsVector 6 = some (6, .ifCond .ne 7, 3, [], 0) := rfl
theorem i_X12_findsVector_9 : am_i m_X12_findsVector 9 = some (9, .iconst 2, 1, [], 2) := rfl
theorem i_X12_findsVector_10 : am_i m_X12_findsVector 10 = some (10, .goto 4, 3, [], 0) := rfl
theorem i_X12_findsVector_13 : am_i m_X12_findsVector 13 = some (13, .iconst 1, 1, [], 1) := rfl
theorem i_X12_findsVector_14 : am_i m_X12_findsVector 14 = some (14, .istore 5, 2, [], 0) := rfl
theorem i_X12_findsVector_16 : am_i m_X12_findsVector 16 = some (16, .ldc 180, 2, [], 2147483647) := rfl
theorem i_X12_findsVector_18 : am_i m_X12_findsVector 18 = some (18, .istore 6, 2, [], 0) := rfl
theorem i_X12_findsVector_20 : am_i m_X12_findsVector 20 = some (20, .iconst 0, 1, [], 0) := rfl
theorem i_X12_findsVector_21 : am_i m_X12_findsVector 21 = some (21, .istore 7, 2, [], 0) := rfl
theorem i_X12_findsVector_23 : am_i m_X12_findsVector 23 = some (23, .iconst 0, 1, [], 0) := rfl
theorem i_X12_findsVector_24 : am_i m_X12_findsVector 24 = some (24, .istore 8, 2, [], 0) := rfl
theorem i_X12_findsVector_26 : am_i m_X12_findsVector 26 = some (26, .bipush (-8), 2, [], -8) := rfl
theorem i_X12_findsVector_28 : am_i m_X12_findsVector 28 = some (28, .istore 9, 2, [], 0) := rfl
theorem b_X12_findsVector_0 {a0 : Nat} {x1 x2 x3 x4 : Int} {h : am_H} (k1 : K10 h a0) : rn m_X12_findsVector 0 [.ref a0, .int (mI x1), .int (mI x2), .int (mI x3), .int (mI x4), am_J, am_J, am_J, am_J, am_J, am_J, am_J] [] h = rn m_X12_findsVector 30 [.ref a0, .int (mI x1), .int (mI x2), .int (mI x3), .int (mI x4), .int (mI (if ¬ (zand (fZ h a0 3) 4) = 0 then (1 : Int) else 2)), .int (mI 2147483647), .int (mI 0), .int (mI 0), .int (mI (-8)), am_J, am_J] [] h := by
  refine (tq_aload_n i_X12_findsVector_0 rfl (isA_ref _) rfl).trans ?_
  refine (tq_getfield i_X12_findsVector_1 (K10_s k1) (g_10_3 (K10_s k1)) (isV_I _) rfl).trans ?_
  refine (tq_iconst i_X12_findsVector_4 rfl).trans ?_
  refine (tq_iand i_X12_findsVector_5 rfl).trans ?_
  refine (tq_if_ne (pt := 13) i_X12_findsVector_6 (wr_zand _ _) (by decide) rfl).trans ?_
  refine Eq.trans (b := if ¬ (zand (fZ h a0 3) 4) = 0 then rn m_X12_findsVector 14 [.ref a0, .int (mI x1), .int (mI x2), .int (mI x3), .int (mI x4), am_J, am_J, am_J, am_J, am_J, am_J, am_J] [.int (mI 1)] h else rn m_X12_findsVector 14 [.ref a0, .int (mI x1), .int (mI x2), .int (mI x3), .int (mI x4), am_J, am_J, am_J, am_J, am_J, am_J, am_J] [.int (mI 2)] h) (ite_congr rfl (fun c1 => ?_) (fun c1 => ?_)) ?_
  · refine (tq_iconst i_X12_findsVector_13 rfl).trans ?_
    rfl
  · refine (tq_iconst i_X12_findsVector_9 rfl).trans ?_
    refine (tq_goto (pc' := 14) i_X12_findsVector_10 (by decide)).trans ?_
    rfl
  refine Eq.trans ite_I ?_
  refine (tq_istore (L' := [.ref a0, .int (mI x1), .int (mI x2), .int (mI x3), .int (mI x4), .int (mI (if ¬ (zand (fZ h a0 3) 4) = 0 then (1 : Int) else 2)), am_J, am_J, am_J, am_J, am_J, am_J]) i_X12_findsVector_14 rfl rfl).trans ?_
  refine (tq_ldc i_X12_findsVector_16 rfl).trans ?_
  refine (tq_istore (L' := [.ref a0, .int (mI x1), .int (mI x2), .int (mI x3), .int (mI x4), .int (mI (if ¬ (zand (fZ h a0 3) 4) = 0 then (1 : Int) else 2)), .int (mI 2147483647), am_J, am_J, am_J, am_J, am_J]) i_X12_findsVector_18 rfl rfl).trans ?_
  refine (tq_iconst i_X12_findsVector_20 rfl).trans ?_
  refine (tq_istore (L' := [.ref a0, .int (mI x1), .int (mI x2), .int (mI x3), .int (mI x4), .int (mI (if ¬ (zand (fZ h a0 3) 4) = 0 then (1 : Int) else 2)), .int (mI 2147483647), .int (mI 0), am_J, am_J, am_J, am_J]) i_X12_findsVector_21 rfl rfl).trans ?_
  refine (tq_iconst i_X12_findsVector_23 rfl).trans ?_
  refine (tq_istore (L' := [.ref a0, .int (mI x1), .int (mI x2), .int (mI x3), .int (mI x4), .int (mI (if ¬ (zand (fZ h a0 3) 4) = 0 then (1 : Int) else 2)), .int (mI 2147483647), .int (mI 0), .int (mI 0), am_J, am_J, am_J]) i_X12_findsVector_24 rfl rfl).trans ?_
  refine (tq_bipush i_X12_findsVector_26 rfl).trans ?_
  refine (tq_istore (L' := [.ref a0, .int (mI x1), .int (mI x2), .int (mI x3), .int (mI x4), .int (mI (if ¬ (zand (fZ h a0 3) 4) = 0 then (1 : Int) else 2)), .int (mI 2147483647), .int (mI 0), .int (mI 0), .int (mI (-8)), am_J, am_J]) i_X12_findsVector_28 rfl rfl).trans ?_
  rfl
theorem i_X12_findsVector_30 : am_i m_X12_findsVector 30 = some (30, .iload 9, 2, [], 0) := rfl
theorem i_X12_findsVector_32 : am_i m_X12_findsVector 32 = some (32, .bipush 8, 2, [], 8) := rfl
theorem i_X12_findsVector_34 : am_i m_X12_findsVector 34 = some (34, .if_icmp .gt 85, 3, [], 0) := rfl
theorem i_X12_findsVector_37 : am_i m_X12_findsVector 37 = some (37, .bipush (-8), 2, [], -8) := rfl
theorem i_X12_findsVector_39 : am_i m_X12_findsVector 39 = some (39, .istore 10, 2, [], 0) := rfl
theorem i_X12_findsVector_119 : am_i m_X12_findsVector 119 = some (119, .aload_n 0, 1, [], 0) := rfl
theorem i_X12_findsVector_120 : am_i m_X12_findsVector 120 = some (120, .iload_n 1, 1, [], 0) := rfl
theorem i_X12_findsVector_121 : am_i m_X12_findsVector 121 = some (121, .iload_n 2, 1, [], 0) := rfl
theorem i_X12_findsVector_122 : am_i m_X12_findsVector 122 = some (122, .iload_n 3, 1, [], 0) := rfl
theorem i_X12_findsVector_123 : am_i m_X12_findsVector 123 = some (123, .iload 4, 2, [], 0) := rfl
theorem i_X12_findsVector_125 : am_i m_X12_findsVector 125 = some (125, .iload 7, 2, [], 0) := rfl
theorem i_X12_findsVector_127 : am_i m_X12_findsVector 127 = some (127, .iload 8, 2, [], 0) := rfl
theorem i_X12_findsVector_129 : am_i m_X12_findsVector 129 = some (129, .invokevirtual 181, 3, [36, 10], 0) := rfl
theorem b_X12_findsVector_30 {a0 : Nat} {x1 x2 x3 x4 x5 x6 x7 x8 x9 x9' : Int} {v10 v11 : Value} {h : am_H} (w9 : wr x9 = x9') (k1 : K10 h a0) : rn m_X12_findsVector 30 [.ref a0, .int (mI x1), .int (mI x2), .int (mI x3), .int (mI x4), .int (mI x5), .int (mI x6), .int (mI x7), .int (mI x8), .int (mI x9), v10, v11] [] h = if 8 < x9' then cl m_X12_findsVector 132 [.ref a0, .int (mI x1), .int (mI x2), .int (mI x3), .int (mI x4), .int (mI x5), .int (mI x6), .int (mI x7), .int (mI x8), .int (mI x9), v10, v11] [] (rn m_X12_setsVector 0 [.ref a0, .int (mI x1), .int (mI x2), .int (mI x3), .int (mI x4), .int (mI x7), .int (mI x8), am_J, am_J] [] h) else rn m_X12_findsVector 41 [.ref a0, .int (mI x1), .int (mI x2), .int (mI x3), .int (mI x4), .int (mI x5), .int (mI x6), .int (mI x7), .int (mI x8), .int (mI x9), .int (mI (-8)), v11] [] h := by
  refine (tq_iload i_X12_findsVector_30 rfl rfl).trans ?_
  refine (tq_bipush i_X12_findsVector_32 rfl).trans ?_
  refine (tq_icmp_gt (pt := 119) i_X12_findsVector_34 w9 w_8 (by decide) rfl).trans ?_
  refine ite_congr rfl (fun c1 => ?_) (fun c1 => ?_)
  · refine (tq_aload_n i_X12_findsVector_119 rfl (isA_ref _) rfl).trans ?_
    refine (tq_iload_n i_X12_findsVector_120 rfl rfl).trans ?_
    refine (tq_iload_n i_X12_findsVector_121 rfl rfl).trans ?_
    refine (tq_iload_n i_X12_findsVector_122 rfl rfl).trans ?_
    refine (tq_iload i_X12_findsVector_123 rfl rfl).trans ?_
    refine (tq_iload i_X12_findsVector_125 rfl rfl).trans ?_
    refine (tq_iload i_X12_findsVector_127 rfl rfl).trans ?_
    exact c_X12_setsVector i_X12_findsVector_129 (K10_s k1) (ltd d_X12_findsVector (by decide)) stOk_0 rfl
  · refine (tq_bipush i_X12_findsVector_37 rfl).trans ?_
    refine (tq_istore (L' := [.ref a0, .int (mI x1), .int (mI x2), .int (mI x3), .int (mI x4), .int (mI x5), .int (mI x6), .int (mI x7), .int (mI x8), .int (mI x9), .int (mI (-8)), v11]) i_X12_findsVector_39 rfl rfl).trans ?_
    rfl
theorem i_X12_findsVector_41 : am_i m_X12_findsVector 41 = some (41, .iload 10, 2, [], 0) := rfl
theorem i_X12_findsVector_43 : am_i m_X12_findsVector 43 = some (43, .bipush 8, 2, [], 8) := rfl
theorem i_X12_findsVector_45 : am_i m_X12_findsVector 45 = some (45, .if_icmp .gt 64, 3, [], 0) := rfl
theorem i_X12_findsVector_48 : am_i m_X12_findsVector 48 = some (48, .aload_n 0, 1, [], 0) := rfl
theorem i_X12_findsVector_49 : am_i m_X12_findsVector 49 = some (49, .iload_n 1, 1, [], 0) := rfl
theorem i_X12_findsVector_50 : am_i m_X12_findsVector 50 = some (50, .iload_n 2, 1, [], 0) := rfl
theorem i_X12_findsVector_51 : am_i m_X12_findsVector 51 = some (51, .iload_n 3, 1, [], 0) := rfl
theorem i_X12_findsVector_52 : am_i m_X12_findsVector 52 = some (52, .iload 4, 2, [], 0) := rfl
theorem i_X12_findsVector_54 : am_i m_X12_findsVector 54 = some (54, .iload 10, 2, [], 0) := rfl
theorem i_X12_findsVector_56 : am_i m_X12_findsVector 56 = some (56, .iload 9, 2, [], 0) := rfl
theorem i_X12_findsVector_58 : am_i m_X12_findsVector 58 = some (58, .invokevirtual 181, 3, [36, 10], 0) := rfl
theorem i_X12_findsVector_109 : am_i m_X12_findsVector 109 = some (109, .iload 9, 2, [], 0) := rfl
theorem i_X12_findsVector_111 : am_i m_X12_findsVector 111 = some (111, .iload 5, 2, [], 0) := rfl
theorem i_X12_findsVector_113 : am_i m_X12_findsVector 113 = some (113, .iadd, 1, [], 0) := rfl
theorem i_X12_findsVector_114 : am_i m_X12_findsVector 114 = some (114, .istore 9, 2, [], 0) := rfl
theorem i_X12_findsVector_116 : am_i m_X12_findsVector 116 = some (116, .goto (-86), 3, [], 0) := rfl
theorem b_X12_findsVector_41 {a0 : Nat} {x1 x2 x3 x4 x5 x6 x7 x8 x9 x10 x10' : Int} {v11 : Value} {h : am_H} (w10 : wr x10 = x10') (k1 : K10 h a0) : rn m_X12_findsVector 41 [.ref a0, .int (mI x1), .int (mI x2), .int (mI x3), .int (mI x4), .int (mI x5), .int (mI x6), .int (mI x7), .int (mI x8), .int (mI x9), .int (mI x10), v11] [] h = if 8 < x10' then rn m_X12_findsVector 30 [.ref a0, .int (mI x1), .int (mI x2), .int (mI x3), .int (mI x4), .int (mI x5), .int (mI x6), .int (mI x7), .int (mI x8), .int (mI (x9 + x5)), .int (mI x10), v11] [] h else cl m_X12_findsVector 61 [.ref a0, .int (mI x1), .int (mI x2), .int (mI x3), .int (mI x4), .int (mI x5), .int (mI x6), .int (mI x7), .int (mI x8), .int (mI x9), .int (mI x10), v11] [] (rn m_X12_setsVector 0 [.ref a0, .int (mI x1), .int (mI x2), .int (mI x3), .int (mI x4), .int (mI x10), .int (mI x9), am_J, am_J] [] h) := by
  refine (tq_iload i_X12_findsVector_41 rfl rfl).trans ?_
  refine (tq_bipush i_X12_findsVector_43 rfl).trans ?_
  refine (tq_icmp_gt (pt := 109) i_X12_findsVector_45 w10 w_8 (by decide) rfl).trans ?_
  refine ite_congr rfl (fun c1 => ?_) (fun c1 => ?_)
  · refine (tq_iload i_X12_findsVector_109 rfl rfl).trans ?_
    refine (tq_iload i_X12_findsVector_111 rfl rfl).trans ?_
    refine (tq_iadd i_X12_findsVector_113 rfl).trans ?_
    refine (tq_istore (L' := [.ref a0, .int (mI x1), .int (mI x2), .int (mI x3), .int (mI x4), .int (mI x5), .int (mI x6), .int (mI x7), .int (mI x8), .int (mI (x9 + x5)), .int (mI x10), v11]) i_X12_findsVector_114 rfl rfl).trans ?_
    refine (tq_goto (pc' := 30) i_X12_findsVector_116 (by decide)).trans ?_
    rfl
  · refine (tq_aload_n i_X12_findsVector_48 rfl (isA_ref _) rfl).trans ?_
    refine (tq_iload_n i_X12_findsVector_49 rfl rfl).trans ?_
    refine (tq_iload_n i_X12_findsVector_50 rfl rfl).trans ?_
    refine (tq_iload_n i_X12_findsVector_51 rfl rfl).trans ?_
    refine (tq_iload i_X12_findsVector_52 rfl rfl).trans ?_
    refine (tq_iload i_X12_findsVector_54 rfl rfl).trans ?_
    refine (tq_iload i_X12_findsVector_56 rfl rfl).trans ?_
    exact c_X12_setsVector i_X12_findsVector_58 (K10_s k1) (ltd d_X12_findsVector (by decide)) stOk_0 rfl
theorem i_X12_findsVector_61 : am_i m_X12_findsVector 61 = some (61, .aload_n 0, 1, [], 0) := rfl
theorem i_X12_findsVector_62 : am_i m_X12_findsVector 62 = some (62, .iload_n 1, 1, [], 0) := rfl
theorem i_X12_findsVector_63 : am_i m_X12_findsVector 63 = some (63, .iload_n 2, 1, [], 0) := rfl
theorem i_X12_findsVector_64 : am_i m_X12_findsVector 64 = some (64, .iload_n 3, 1, [], 0) := rfl
theorem i_X12_findsVector_65 : am_i m_X12_findsVector 65 = some (65, .iload 4, 2, [], 0) := rfl
theorem i_X12_findsVector_67 : am_i m_X12_findsVector 67 = some (67, .ifCond .ne 7, 3, [], 0) := rfl
theorem i_X12_findsVector_70 : am_i m_X12_findsVector 70 = some (70, .iconst 4, 1, [], 4) := rfl
theorem i_X12_findsVector_71 : am_i m_X12_findsVector 71 = some (71, .goto 4, 3, [], 0) := rfl
theorem i_X12_findsVector_74 : am_i m_X12_findsVector 74 = some (74, .iconst 5, 1, [], 5) := rfl
theorem i_X12_findsVector_75 : am_i m_X12_findsVector 75 = some (75, .invokevirtual 185, 3, [179, 10], 0) := rfl
theorem b_X12_findsVector_61 {a0 : Nat} {x1 x2 x3 x4 x5 x6 x7 x8 x9 x10 x4' : Int} {v11 : Value} {h : am_H} (w4 : wr x4 = x4') (k1 : K10 h a0) : rn m_X12_findsVector 61 [.ref a0, .int (mI x1), .int (mI x2), .int (mI x3), .int (mI x4), .int (mI x5), .int (mI x6), .int (mI x7), .int (mI x8), .int (mI x9), .int (mI x10), v11] [] h = cl m_X12_findsVector 78 [.ref a0, .int (mI x1), .int (mI x2), .int (mI x3), .int (mI x4), .int (mI x5), .int (mI x6), .int (mI x7), .int (mI x8), .int (mI x9), .int (mI x10), v11] [] (rn m_X12_costOf 0 [.ref a0, .int (mI x1), .int (mI x2), .int (mI x3), .int (mI (if ¬ x4' = 0 then (5 : Int) else 4)), am_J, am_J, am_J, am_J, am_J] [] h) := by
  refine (tq_aload_n i_X12_findsVector_61 rfl (isA_ref _) rfl).trans ?_
  refine (tq_iload_n i_X12_findsVector_62 rfl rfl).trans ?_
  refine (tq_iload_n i_X12_findsVector_63 rfl rfl).trans ?_
  refine (tq_iload_n i_X12_findsVector_64 rfl rfl).trans ?_
  refine (tq_iload i_X12_findsVector_65 rfl rfl).trans ?_
  refine (tq_if_ne (pt := 74) i_X12_findsVector_67 w4 (by decide) rfl).trans ?_
  refine Eq.trans (b := if ¬ x4' = 0 then rn m_X12_findsVector 75 [.ref a0, .int (mI x1), .int (mI x2), .int (mI x3), .int (mI x4), .int (mI x5), .int (mI x6), .int (mI x7), .int (mI x8), .int (mI x9), .int (mI x10), v11] [.int (mI 5), .int (mI x3), .int (mI x2), .int (mI x1), .ref a0] h else rn m_X12_findsVector 75 [.ref a0, .int (mI x1), .int (mI x2), .int (mI x3), .int (mI x4), .int (mI x5), .int (mI x6), .int (mI x7), .int (mI x8), .int (mI x9), .int (mI x10), v11] [.int (mI 4), .int (mI x3), .int (mI x2), .int (mI x1), .ref a0] h) (ite_congr rfl (fun c1 => ?_) (fun c1 => ?_)) ?_
  · refine (tq_iconst i_X12_findsVector_74 rfl).trans ?_
    rfl
  · refine (tq_iconst i_X12_findsVector_70 rfl).trans ?_
    refine (tq_goto (pc' := 75) i_X12_findsVector_71 (by decide)).trans ?_
    rfl
  refine Eq.trans ite_I ?_
  exact c_X12_costOf i_X12_findsVector_75 (K10_s k1) (ltd d_X12_findsVector (by decide)) stOk_0 rfl
theorem i_X12_findsVector_78 : am_i m_X12_findsVector 78 = some (78, .istore 11, 2, [], 0) := rfl
theorem i_X12_findsVector_80 : am_i m_X12_findsVector 80 = some (80, .iload 11, 2, [], 0) := rfl
theorem i_X12_findsVector_82 : am_i m_X12_findsVector 82 = some (82, .iload 6, 2, [], 0) := rfl
theorem i_X12_findsVector_84 : am_i m_X12_findsVector 84 = some (84, .if_icmp .ge 15, 3, [], 0) := rfl
theorem i_X12_findsVector_87 : am_i m_X12_findsVector 87 = some (87, .iload 11, 2, [], 0) := rfl
theorem i_X12_findsVector_89 : am_i m_X12_findsVector 89 = some (89, .istore 6, 2, [], 0) := rfl
theorem i_X12_findsVector_91 : am_i m_X12_findsVector 91 = some (91, .iload 10, 2, [], 0) := rfl
theorem i_X12_findsVector_93 : am_i m_X12_findsVector 93 = some (93, .istore 7, 2, [], 0) := rfl
theorem i_X12_findsVector_95 : am_i m_X12_findsVector 95 = some (95, .iload 9, 2, [], 0) := rfl
theorem i_X12_findsVector_97 : am_i m_X12_findsVector 97 = some (97, .istore 8, 2, [], 0) := rfl
theorem i_X12_findsVector_99 : am_i m_X12_findsVector 99 = some (99, .iload 10, 2, [], 0) := rfl
theorem i_X12_findsVector_101 : am_i m_X12_findsVector 101 = some (101, .iload 5, 2, [], 0) := rfl
theorem i_X12_findsVector_103 : am_i m_X12_findsVector 103 = some (103, .iadd, 1, [], 0) := rfl
theorem i_X12_findsVector_104 : am_i m_X12_findsVector 104 = some (104, .istore 10, 2, [], 0) := rfl
theorem i_X12_findsVector_106 : am_i m_X12_findsVector 106 = some (106, .goto (-65), 3, [], 0) := rfl
theorem b_X12_findsVector_78 {a0 : Nat} {x1 x2 x3 x4 x5 x6 x7 x8 x9 x10 xs0 x6' xs0' : Int} {v11 : Value} {h : am_H} (w6 : wr x6 = x6') (ws0 : wr xs0 = xs0') : rn m_X12_findsVector 78 [.ref a0, .int (mI x1), .int (mI x2), .int (mI x3), .int (mI x4), .int (mI x5), .int (mI x6), .int (mI x7), .int (mI x8), .int (mI x9), .int (mI x10), v11] [.int (mI xs0)] h = if x6' ≤ xs0' then rn m_X12_findsVector 41 [.ref a0, .int (mI x1), .int (mI x2), .int (mI x3), .int (mI x4), .int (mI x5), .int (mI x6), .int (mI x7), .int (mI x8), .int (mI x9), .int (mI (x10 + x5)), .int (mI xs0)] [] h else rn m_X12_findsVector 41 [.ref a0, .int (mI x1), .int (mI x2), .int (mI x3), .int (mI x4), .int (mI x5), .int (mI xs0), .int (mI x10), .int (mI x9), .int (mI x9), .int (mI (x10 + x5)), .int (mI xs0)] [] h := by
  refine (tq_istore (L' := [.ref a0, .int (mI x1), .int (mI x2), .int (mI x3), .int (mI x4), .int (mI x5), .int (mI x6), .int (mI x7), .int (mI x8), .int (mI x9), .int (mI x10), .int (mI xs0)]) i_X12_findsVector_78 rfl rfl).trans ?_
  refine (tq_iload i_X12_findsVector_80 rfl rfl).trans ?_
  refine (tq_iload i_X12_findsVector_82 rfl rfl).trans ?_
  refine (tq_icmp_ge (pt := 99) i_X12_findsVector_84 ws0 w6 (by decide) rfl).trans ?_
  refine ite_congr rfl (fun c1 => ?_) (fun c1 => ?_)
  · refine (tq_iload i_X12_findsVector_99 rfl rfl).trans ?_
    refine (tq_iload i_X12_findsVector_101 rfl rfl).trans ?_
    refine (tq_iadd i_X12_findsVector_103 rfl).trans ?_
    refine (tq_istore (L' := [.ref a0, .int (mI x1), .int (mI x2), .int (mI x3), .int (mI x4), .int (mI x5), .int (mI x6), .int (mI x7), .int (mI x8), .int (mI x9), .int (mI (x10 + x5)), .int (mI xs0)]) i_X12_findsVector_104 rfl rfl).trans ?_
    refine (tq_goto (pc' := 41) i_X12_findsVector_106 (by decide)).trans ?_
    rfl
  · refine (tq_iload i_X12_findsVector_87 rfl rfl).trans ?_
    refine (tq_istore (L' := [.ref a0, .int (mI x1), .int (mI x2), .int (mI x3), .int (mI x4), .int (mI x5), .int (mI xs0), .int (mI x7), .int (mI x8), .int (mI x9), .int (mI x10), .int (mI xs0)]) i_X12_findsVector_89 rfl rfl).trans ?_
    refine (tq_iload i_X12_findsVector_91 rfl rfl).trans ?_
    refine (tq_istore (L' := [.ref a0, .int (mI x1), .int (mI x2), .int (mI x3), .int (mI x4), .int (mI x5), .int (mI xs0), .int (mI x10), .int (mI x8), .int (mI x9), .int (mI x10), .int (mI xs0)]) i_X12_findsVector_93 rfl rfl).trans ?_
    refine (tq_iload i_X12_findsVector_95 rfl rfl).trans ?_
    refine (tq_istore (L' := [.ref a0, .int (mI x1), .int (mI x2), .int (mI x3), .int (mI x4), .int (mI x5), .int (mI xs0), .int (mI x10), .int (mI x9), .int (mI x9), .int (mI x10), .int (mI xs0)]) i_X12_findsVector_97 rfl rfl).trans ?_
    refine (tq_iload i_X12_findsVector_99 rfl rfl).trans ?_
    refine (tq_iload i_X12_findsVector_101 rfl rfl).trans ?_
    refine (tq_iadd i_X12_findsVector_103 rfl).trans ?_
    refine (tq_istore (L' := [.ref a0, .int (mI x1), .int (mI x2), .int (mI x3), .int (mI x4), .int (mI x5), .int (mI xs0), .int (mI x10), .int (mI x9), .int (mI x9), .int (mI (x10 + x5)), .int (mI xs0)]) i_X12_findsVector_104 rfl rfl).trans ?_
    refine (tq_goto (pc' := 41) i_X12_findsVector_106 (by decide)).trans ?_
    rfl
theorem i_X12_findsVector_132 : am_i m_X12_findsVector 132 = some (132, .return_, 1, [], 0) := rfl
theorem b_X12_findsVector_132 {v0 v1 v2 v3 v4 v5 v6 v7 v8 v9 v10 v11 : Value} {h : am_H} : rn m_X12_findsVector 132 [v0, v1, v2, v3, v4, v5, v6, v7, v8, v9, v10, v11] [] h = some (.inl none, h) := by
  exact tq_return i_X12_findsVector_132 r_X12_findsVector
/-- the vector entries of the part's squares -/
def vec2 (h : am_H) (V : Nat) (X Y Z w v : Int) : Prop := ∀ a b, X ≤ a → a < X + Z → Y ≤ b → b < Y + Z → gZ h V (4 * (4 * (b / 4) + a / 4) + w) = vX v ∧ gZ h V (4 * (4 * (b / 4) + a / 4) + w + 1) = vY v
theorem findsVector_ok {h : am_H} {M N : Nat} {c f1 f2 p f : Int → Int} {kd tl sl q X Y Z w m : Int} (y : My M N c kd tl sl q) (x : Mx h M N c f1 f2 kd tl sl q) (ep : gZ h N = p) (hp : pixels p) (li : lies X Y Z (tp sl Y)) (hw : w = 0 ∧ m = 4 ∧ f = f1 ∧ kd ≠ 105 ∨ w = 2 ∧ m = 5 ∧ f = f2 ∧ kd = 98) (hf : pixels f) : ∃ h', rn m_X12_findsVector 0 [.ref M, .int (mI X), .int (mI Y), .int (mI Z), .int (mI w), am_J, am_J, am_J, am_J, am_J, am_J, am_J] [] h = some (.inl none, h') ∧ Md (fun c _ => c = N + 2) h h' ∧ vec2 h' (N + 2) X Y Z w (bestv c f X Y Z (stp tl) (sns tl)) ∧ (∀ i, (i % 4 ≠ w ∧ i % 4 ≠ w + 1) ∨ ¬ inR X Y Z (i / 4) → gZ h' (N + 2) i = gZ h (N + 2) i) := by
  have y0 := y
  obtain ⟨y1, y4, y5, y6, y7, y8⟩ := y
  have nb := nmo_b y5
  obtain ⟨ip, mm⟩ := lies_part li (tp_b sl Y).2
  have ip0 := ip
  obtain ⟨hz, hX, hY, hT⟩ := ip
  have hs := stp_ok tl
  have hw2 : w = 0 ∨ w = 2 := by omega
  have hmn : 0 ≤ m ∧ m < nmo kd := by
    rcases hw with ⟨-, rfl, -, hk⟩ | ⟨-, rfl, -, hk⟩
    · refine ⟨by decide, ?_⟩
      unfold nmo
      rcases y5 with e | e | e
      · exact absurd e hk
      · rw [e]; decide
      · rw [e]; decide
    · refine ⟨by decide, ?_⟩
      unfold nmo
      rw [hk]
      decide
  have x0 := x
  obtain ⟨x1, ⟨x2, x3, x4, x5⟩, ⟨⟨u1, u2⟩, ⟨u3, u4⟩, ⟨u5, u6⟩, u7, u8⟩, x6, ⟨x7, x8, x9, x10⟩, x11, x12⟩ := id x0
  have hS : ∀ (c k : Nat), c < N → ¬ (fun (c _ : Nat) => c = N + 2) c k := fun c k hc e => by omega
  -- one candidate
  have one : ∀ (h' : am_H) v, Md (fun c _ => c = N + 2) h h' → okv v → ∃ h2, rn m_X12_setsVector 0 [.ref M, .int (mI X), .int (mI Y), .int (mI Z), .int (mI w), .int (mI (vX v)), .int (mI (vY v)), am_J, am_J] [] h' = some (.inl none, h2) ∧ Md (fun c _ => c = N + 2) h h2 ∧ vec2 h2 (N + 2) X Y Z w v ∧ (∀ i, (i % 4 ≠ w ∧ i % 4 ≠ w + 1) ∨ ¬ inR X Y Z (i / 4) → gZ h2 (N + 2) i = gZ h' (N + 2) i) ∧ rn m_X12_costOf 0 [.ref M, .int (mI X), .int (mI Y), .int (mI Z), .int (mI (if ¬ w = 0 then (5 : Int) else 4)), am_J, am_J, am_J, am_J, am_J] [] h2 = some (.inl (some (.int (mI (vcost c f X Y Z v)))), h2) := by
    intro h' v md ov
    have x' := Mx_md y0 md hS x
    have vb := vXY_b ov
    obtain ⟨h2, e2, m2, s2, r2⟩ := setsVector_ok (w := w) (u := vX v) (d := vY v) x'.1 x'.2.1.2.2.1 x'.2.2.1.2.2.1.1 x'.2.2.1.2.2.1.2 (by omega) li (tp_b sl Y).2 hw2 vb.1 vb.2
    have md2 := Md_tr md m2
    have x2' := Mx_md y0 md2 hS x
    refine ⟨h2, e2, md2, s2, r2, ?_⟩
    have em : (if ¬ w = 0 then (5 : Int) else 4) = m := by
      rcases hw with ⟨rfl, rfl, -, -⟩ | ⟨rfl, rfl, -, -⟩ <;> decide
    have co := mcost_ok (p := p) (v1 := v) (v2 := v) y0 x2' ((md_Z md2 (by omega)).trans ep) hp li hmn (fun c4 a b a0 a1 b0 b1 => by
      have := s2 a b a0 a1 b0 b1
      rcases hw with ⟨rfl, rfl, -, -⟩ | ⟨rfl, rfl, -, -⟩
      · rw [Int.add_zero] at this
        exact ⟨fun _ => ⟨this.1, this.2, ov⟩, fun q => absurd rfl q⟩
      · exact ⟨fun q => absurd rfl q, fun _ => ⟨this.1, by rw [← this.2, show (3 : Int) = 2 + 1 by decide, Int.add_assoc], ov⟩⟩)
    rw [em, co]
    rcases hw with ⟨rfl, rfl, rfl, -⟩ | ⟨rfl, rfl, rfl, -⟩
    · rw [cost4 hz]
    · rw [cost5 hz]
  have st0 := b_X12_findsVector_0 (a0 := M) (x1 := X) (x2 := Y) (x3 := Z) (x4 := w) (h := h) x1
  rw [x9, stp_eq] at st0
  rw [st0]
  generalize hst : stp tl = st at *
  generalize hsn : sns tl = n at *
  have hst2 : 1 ≤ st ∧ st ≤ 2 ∧ 0 ≤ n := by rcases hs with ⟨rfl, rfl⟩ | ⟨rfl, rfl⟩ <;> omega
  have nn : ∀ i, n * (i + 1) = n * i + n := fun i => by rw [Int.mul_add, Int.mul_one]
  have P0 : ∀ i, 0 ≤ i → i ≤ n → 0 ≤ n * i ∧ n * i ≤ n * n := by intro i i0 i1; rcases hs with ⟨rfl, rfl⟩ | ⟨rfl, rfl⟩ <;> omega
  have Q0 : ∀ i j, 0 ≤ i → i < n → 0 ≤ j → j < n → (n * i + j) % n = j ∧ (n * i + j) / n = i ∧ n * i + j < n * n := by intro i j i0 i1 j0 j1; rcases hs with ⟨rfl, rfl⟩ | ⟨rfl, rfl⟩ <;> omega
  have S0 : ∀ i, 0 ≤ i → i ≤ n → 0 ≤ st * i ∧ (i < n → st * i ≤ 16) ∧ st * n = 16 + st ∧ st * (i + 1) = st * i + st := by intro i i0 i1; rcases hs with ⟨rfl, rfl⟩ | ⟨rfl, rfl⟩ <;> omega
  let mk : Int → Int × Int := fun k => mnv (fun k => vcost c f X Y Z (cand st n k)) (cand st n) 808 k.toNat
  have mk_s : ∀ k, 0 ≤ k → mk (k + 1) = if vcost c f X Y Z (cand st n k) < (mk k).1 then (vcost c f X Y Z (cand st n k), cand st n k) else mk k := fun k k0 => mnv_succ k0
  have mkb : ∀ k, 0 ≤ (mk k).1 ∧ (mk k).1 ≤ 1000000 := fun k => mnv_b (fun _ => vcost_nn) _
  have mk0 : mk 0 = (1000000, 808) := rfl
  let J : Int → (Int × (Int × Int)) → Prop := fun k z => z.2.1 = vX (mk k).2 ∧ z.2.2 = vY (mk k).2 ∧ (k = 0 → z.1 = 2147483647) ∧ (k ≠ 0 → z.1 = (mk k).1)
  have := lp (m := m_X12_findsVector) (pc := 30) (L := fun i (z : (Int × (Int × Int)) × (Value × Value)) => [.ref M, .int (mI X), .int (mI Y), .int (mI Z), .int (mI w), .int (mI st), .int (mI z.1.1), .int (mI z.1.2.1), .int (mI z.1.2.2), .int (mI (st * i - 8)), z.2.1, z.2.2]) (N := n) (P := fun r => ∃ h', r = some (.inl none, h') ∧ Md (fun c _ => c = N + 2) h h' ∧ vec2 h' (N + 2) X Y Z w (bestv c f X Y Z st n) ∧ (∀ i, (i % 4 ≠ w ∧ i % 4 ≠ w + 1) ∨ ¬ inR X Y Z (i / 4) → gZ h' (N + 2) i = gZ h (N + 2) i)) (fun i z h' => 0 ≤ i ∧ Md (fun c _ => c = N + 2) h h' ∧ (∀ i, (i % 4 ≠ w ∧ i % 4 ≠ w + 1) ∨ ¬ inR X Y Z (i / 4) → gZ h' (N + 2) i = gZ h (N + 2) i) ∧ J (n * i) z.1) ?_ ?_ 0 ((2147483647, (0, 0)), am_J, am_J) h (by omega) ⟨by omega, Md_rf _ _, fun _ _ => rfl, by rw [Int.mul_zero]; exact ⟨by rw [mk0]; decide, by rw [mk0]; decide, fun _ => rfl, fun q => absurd rfl q⟩⟩
  · rw [show st * 0 - 8 = (-8 : Int) by omega] at this
    exact this
  · intro i z h' hi ⟨i0, md, hr, hj⟩
    obtain ⟨⟨z1, z2, z3⟩, v1, v2⟩ := z
    have si := S0 i i0 (by omega)
    have x' := Mx_md y0 md hS x
    have in1 := lp (m := m_X12_findsVector) (pc := 41) (L := fun j (z : (Int × (Int × Int)) × Value) => [.ref M, .int (mI X), .int (mI Y), .int (mI Z), .int (mI w), .int (mI st), .int (mI z.1.1), .int (mI z.1.2.1), .int (mI z.1.2.2), .int (mI (st * i - 8)), .int (mI (st * j - 8)), z.2]) (N := n) (P := fun o => ∃ (s' : (Int × (Int × Int)) × (Value × Value)) (h'' : am_H), o = rn m_X12_findsVector 30 [.ref M, .int (mI X), .int (mI Y), .int (mI Z), .int (mI w), .int (mI st), .int (mI s'.1.1), .int (mI s'.1.2.1), .int (mI s'.1.2.2), .int (mI (st * (i + 1) - 8)), s'.2.1, s'.2.2] [] h'' ∧ (0 ≤ i + 1 ∧ Md (fun c _ => c = N + 2) h h'' ∧ (∀ i, (i % 4 ≠ w ∧ i % 4 ≠ w + 1) ∨ ¬ inR X Y Z (i / 4) → gZ h'' (N + 2) i = gZ h (N + 2) i) ∧ J (n * (i + 1)) s'.1)) (fun j z h2 => 0 ≤ j ∧ Md (fun c _ => c = N + 2) h h2 ∧ (∀ i, (i % 4 ≠ w ∧ i % 4 ≠ w + 1) ∨ ¬ inR X Y Z (i / 4) → gZ h2 (N + 2) i = gZ h (N + 2) i) ∧ J (n * i + j) z.1) ?_ ?_ 0 ((z1, z2, z3), v2) h' (by omega) ⟨by omega, md, hr, by rw [Int.add_zero]; exact hj⟩
    · obtain ⟨s', h'', e2, e3⟩ := in1
      refine ⟨s', h'', ?_, e3⟩
      refine (b_X12_findsVector_30 (wr_id (z := st * i - 8) (by omega) (by omega)) x'.1).trans ((if_neg (by omega)).trans ?_)
      rw [show st * 0 - 8 = (-8 : Int) by omega] at e2
      exact e2
    · intro j zz h2 hj2 ⟨j0, md2, hr2, hjj⟩
      obtain ⟨⟨y1', y2', y3'⟩, u⟩ := zz
      have sj := S0 j j0 (by omega)
      have qij := Q0 i j i0 hi j0 hj2
      have pi := P0 i i0 (by omega)
      have x2' := Mx_md y0 md2 hS x
      have cb := cand_b (k := n * i + j) hs (by omega) (by omega)
      have cxy := cand_XY (k := n * i + j) hs (by omega) (by omega)
      rw [qij.1, qij.2.1] at cxy
      obtain ⟨h3, e3, md3, vv3, r3, co3⟩ := one h2 (cand st n (n * i + j)) md2 cb
      rw [cxy.1, cxy.2] at e3
      have x3' := Mx_md y0 md3 hS x
      have vb := vcost_b (v := cand st n (n * i + j)) ip0 y4 hf cb
      have mb1 := mkb (n * i + j)
      obtain ⟨j1, j2, j3, j4⟩ := hjj
      simp only at j1 j2 j3 j4
      have yb : 0 ≤ y1' ∧ y1' ≤ 2147483647 := by
        by_cases k0 : n * i + j = 0
        · rw [j3 k0]; omega
        · rw [j4 k0]; omega
      have st1 := b_X12_findsVector_41 (a0 := M) (x1 := X) (x2 := Y) (x3 := Z) (x4 := w) (x5 := st) (x6 := y1') (x7 := y2') (x8 := y3') (x9 := st * i - 8) (v11 := u) (h := h2) (wr_id (z := st * j - 8) (by omega) (by omega)) x2'.1
      rw [if_neg (by omega), e3, cl_n, b_X12_findsVector_61 (wr_id (z := w) (by omega) (by omega)) x3'.1, co3, cl_v] at st1
      have st2 := b_X12_findsVector_78 (a0 := M) (x1 := X) (x2 := Y) (x3 := Z) (x4 := w) (x5 := st) (x7 := y2') (x8 := y3') (x9 := st * i - 8) (x10 := st * j - 8) (v11 := u) (h := h3) (wr_id (z := y1') (by omega) (by omega)) (wr_id (z := vcost c f X Y Z (cand st n (n * i + j))) (by omega) (by omega))
      rw [show st * j - 8 + st = st * (j + 1) - 8 by omega] at st2
      have r3' : ∀ i, (i % 4 ≠ w ∧ i % 4 ≠ w + 1) ∨ ¬ inR X Y Z (i / 4) → gZ h3 (N + 2) i = gZ h (N + 2) i := fun i hi => (r3 i hi).trans (hr2 i hi)
      have ms := mk_s (n * i + j) (by omega)
      have lt : vcost c f X Y Z (cand st n (n * i + j)) < y1' ↔ vcost c f X Y Z (cand st n (n * i + j)) < (mk (n * i + j)).1 := by
        by_cases k0 : n * i + j = 0
        · rw [j3 k0, k0, mk0]
          rw [k0] at vb
          simp only
          omega
        · rw [j4 k0]
      by_cases qc : vcost c f X Y Z (cand st n (n * i + j)) < y1'
      · rw [if_neg (by omega)] at st2
        rw [if_pos (lt.mp qc)] at ms
        refine ⟨((_, (_, _)), _), h3, st1.trans st2, by omega, md3, r3', ?_⟩
        rw [← Int.add_assoc]
        refine ⟨?_, ?_, fun q => by omega, fun q => ?_⟩
        · rw [ms]; exact cxy.1.symm
        · rw [ms]; exact cxy.2.symm
        · rw [ms]; rfl
      · rw [if_pos (by omega)] at st2
        rw [if_neg (fun q => qc (lt.mpr q))] at ms
        refine ⟨((_, (_, _)), _), h3, st1.trans st2, by omega, md3, r3', ?_⟩
        rw [← Int.add_assoc]
        have nz : n * i + j ≠ 0 := by
          intro k0
          rw [j3 k0] at qc
          omega
        refine ⟨?_, ?_, fun q => by omega, fun q => ?_⟩
        · rw [ms]; exact j1
        · rw [ms]; exact j2
        · rw [ms]; exact j4 nz
    · intro zz h2 ⟨j0, md2, hr2, hjj⟩
      obtain ⟨⟨y1', y2', y3'⟩, u⟩ := zz
      have sn := S0 n (by omega) (by omega)
      have x2' := Mx_md y0 md2 hS x
      refine ⟨((y1', (y2', y3')), (.int (mI (st * n - 8)), u)), h2, ?_, by omega, md2, hr2, by rw [nn]; exact hjj⟩
      refine (b_X12_findsVector_41 (wr_id (z := st * n - 8) (by omega) (by omega)) x2'.1).trans ((if_pos (by omega)).trans ?_)
      rw [show st * i - 8 + st = st * (i + 1) - 8 by omega]
  · intro z h' ⟨i0, md, hr, hj⟩
    obtain ⟨⟨z1, z2, z3⟩, v1, v2⟩ := z
    have sn := S0 n (by omega) (by omega)
    have x' := Mx_md y0 md hS x
    obtain ⟨j1, j2, -, -⟩ := hj
    have eb : (mk (n * n)).2 = bestv c f X Y Z st n := rfl
    rw [eb] at j1 j2
    simp only at j1 j2
    obtain ⟨h3, e3, md3, vv3, r3, -⟩ := one h' (bestv c f X Y Z st n) md (bestv_okv hs)
    have st1 := b_X12_findsVector_30 (a0 := M) (x1 := X) (x2 := Y) (x3 := Z) (x4 := w) (x5 := st) (x6 := z1) (x7 := z2) (x8 := z3) (v10 := v1) (v11 := v2) (h := h') (wr_id (z := st * n - 8) (by omega) (by omega)) x'.1
    rw [if_pos (by omega), j1, j2, e3, cl_n, b_X12_findsVector_132] at st1
    simp only
    rw [j1, j2]
    exact ⟨h3, st1, md3, vv3, fun i hi => (r3 i hi).trans (hr i hi)⟩
