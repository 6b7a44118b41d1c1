/-! ===== the class's totals ===== -/
def bts (σ : St) (i : Int) : Int := 8 * (tpz σ i 8 + tpz σ i 9)
theorem sm_01 {f : Int → Int} (n : Nat) (h : ∀ i : Int, 0 ≤ i → i < n → f i = 0 ∨ f i = 1) : 0 ≤ sm n f ∧ sm n f ≤ n := by
  have := sm_le (n := n) (f := f) (b := 1) (fun i i0 i1 => by have := h i i0 i1; omega)
  omega
/-- whether a picture comes before another -/
def bfr (σ : St) (q p : Int) : Int := if bts σ p < bts σ q ∨ (bts σ q = bts σ p ∧ q < p) then 1 else 0
def ahd (σ : St) (p : Int) : Int := sm (tz σ 7).toNat (fun q => bfr σ q p)
theorem bfr_01 (σ : St) (q p : Int) : bfr σ q p = 0 ∨ bfr σ q p = 1 := by unfold bfr; split <;> simp
theorem sm_lt {f g : Int → Int} {j : Int} : ∀ n : Nat, (∀ i : Int, 0 ≤ i → i < n → f i ≤ g i) → 0 ≤ j → j < n → f j < g j → sm n f < sm n g
  | 0, _, _, _, _ => by omega
  | n + 1, h, j0, j1, hj => by
    have mono : ∀ m : Nat, m ≤ n → sm m f ≤ sm m g := fun m hm => by
      induction m with
      | zero => exact Int.le_refl _
      | succ m ih =>
        have := ih (by omega)
        have := h m (by omega) (by omega)
        unfold sm
        omega
    have hn := h n (by omega) (by omega)
    have mn := mono n (Nat.le_refl _)
    unfold sm
    by_cases e : j = n
    · subst e; omega
    · have := sm_lt (j := j) n (fun i i0 i1 => h i i0 (by omega)) j0 (by omega) hj
      omega
/-- no two pictures have the same rank -/
theorem ahd_inj {σ : St} {p p' : Int} (hp : 0 ≤ p ∧ p < tz σ 7) (hp' : 0 ≤ p' ∧ p' < tz σ 7) (e : ahd σ p = ahd σ p') : p = p' := by
  have key : ∀ p p' : Int, 0 ≤ p → p < tz σ 7 → (bts σ p' < bts σ p ∨ (bts σ p = bts σ p' ∧ p < p')) → ahd σ p < ahd σ p' := by
    intro p p' h0 h1 hb
    unfold ahd
    refine sm_lt (j := p) _ (fun i _ _ => ?_) h0 (by omega) ?_
    · unfold bfr
      by_cases c1 : bts σ p < bts σ i ∨ (bts σ i = bts σ p ∧ i < p)
      · rw [if_pos c1, if_pos (by omega)]; omega
      · rw [if_neg c1]; split <;> omega
    · unfold bfr
      rw [if_neg (by omega), if_pos hb]
      omega
  rcases Int.lt_trichotomy (bts σ p) (bts σ p') with q | q | q
  · have := key p' p hp'.1 hp'.2 (Or.inl q); omega
  · rcases Int.lt_trichotomy p p' with r | r | r
    · have := key p p' hp.1 hp.2 (Or.inr ⟨q, r⟩); omega
    · exact r
    · have := key p' p hp'.1 hp'.2 (Or.inr ⟨q.symm, r⟩); omega
  · have := key p p' hp.1 hp.2 (Or.inl q); omega
theorem i_X6_bits_0 : am_i m_X6_bits 0 = some (0, .bipush 8, 2, [], 8) := rfl
theorem i_X6_bits_2 : am_i m_X6_bits 2 = some (2, .aload_n 0, 1, [], 0) := rfl
theorem i_X6_bits_3 : am_i m_X6_bits 3 = some (3, .getfield 39, 3, [6, 8, 0], 0) := rfl
theorem i_X6_bits_6 : am_i m_X6_bits 6 = some (6, .arraylength, 1, [], 0) := rfl
theorem i_X6_bits_7 : am_i m_X6_bits 7 = some (7, .aload_n 0, 1, [], 0) := rfl
theorem i_X6_bits_8 : am_i m_X6_bits 8 = some (8, .getfield 43, 3, [6, 9, 0], 0) := rfl
theorem i_X6_bits_11 : am_i m_X6_bits 11 = some (11, .arraylength, 1, [], 0) := rfl
theorem i_X6_bits_12 : am_i m_X6_bits 12 = some (12, .iadd, 1, [], 0) := rfl
theorem i_X6_bits_13 : am_i m_X6_bits 13 = some (13, .imul, 1, [], 0) := rfl
theorem i_X6_bits_14 : am_i m_X6_bits 14 = some (14, .ireturn, 1, [], 0) := rfl
theorem b_X6_bits_0 {a0 a0_upperBytes n_a0_upperBytes a0_lowerBytes n_a0_lowerBytes : Nat} {h : am_H} (k1 : K6 h a0) (e2 : fA h a0 8 = some a0_upperBytes) (n3 : gn h a0_upperBytes = n_a0_upperBytes) (s4 : sh h a0_upperBytes = (1, 0)) (e5 : fA h a0 9 = some a0_lowerBytes) (n6 : gn h a0_lowerBytes = n_a0_lowerBytes) (s7 : sh h a0_lowerBytes = (1, 0)) : rn m_X6_bits 0 [.ref a0] [] h = some (.inl (some (.int (mI (8 * ((n_a0_upperBytes : Int) + (n_a0_lowerBytes : Int)))))), h) := by
  refine (tq_bipush i_X6_bits_0 rfl).trans ?_
  refine (tq_aload_n i_X6_bits_2 rfl (isA_ref _) rfl).trans ?_
  refine (tq_getfield i_X6_bits_3 (K6_s k1) (gR (g_6_8 (K6_s k1)) e2) (isV_ref _) rfl).trans ?_
  refine (tq_alen i_X6_bits_6 s4 (by decide) (by decide) rfl).trans ?_
  rw [n3]
  refine (tq_aload_n i_X6_bits_7 rfl (isA_ref _) rfl).trans ?_
  refine (tq_getfield i_X6_bits_8 (K6_s k1) (gR (g_6_9 (K6_s k1)) e5) (isV_ref _) rfl).trans ?_
  refine (tq_alen i_X6_bits_11 s7 (by decide) (by decide) rfl).trans ?_
  rw [n6]
  refine (tq_iadd i_X6_bits_12 rfl).trans ?_
  refine (tq_imul i_X6_bits_13 rfl).trans ?_
  exact tq_ireturn i_X6_bits_14 r_X6_bits rfl
theorem i_X11_heavierThan_0 : am_i m_X11_heavierThan 0 = some (0, .aload_n 0, 1, [], 0) := rfl
theorem i_X11_heavierThan_1 : am_i m_X11_heavierThan 1 = some (1, .iload_n 1, 1, [], 0) := rfl
theorem i_X11_heavierThan_2 : am_i m_X11_heavierThan 2 = some (2, .invokevirtual 223, 3, [113, 9], 0) := rfl
theorem b_X11_heavierThan_0 {a0 : Nat} {x1 : Int} {h : am_H} (k1 : K9 h a0) : rn m_X11_heavierThan 0 [.ref a0, .int (mI x1), am_J, am_J, am_J, am_J] [] h = cl m_X11_heavierThan 5 [.ref a0, .int (mI x1), am_J, am_J, am_J, am_J] [] (rn m_X11_pictureAt 0 [.ref a0, .int (mI x1), am_J] [] h) := by
  refine (tq_aload_n i_X11_heavierThan_0 rfl (isA_ref _) rfl).trans ?_
  refine (tq_iload_n i_X11_heavierThan_1 rfl rfl).trans ?_
  exact c_X11_pictureAt i_X11_heavierThan_2 (K9_s k1) (ltd d_X11_heavierThan (by decide)) stOk_0 rfl
theorem i_X11_heavierThan_5 : am_i m_X11_heavierThan 5 = some (5, .invokevirtual 308, 3, [24, 6], 0) := rfl
theorem b_X11_heavierThan_5 {a0 as0 : Nat} {x1 : Int} {v2 v3 v4 v5 : Value} {h : am_H} (k1 : K6 h as0) : rn m_X11_heavierThan 5 [.ref a0, .int (mI x1), v2, v3, v4, v5] [.ref as0] h = cl m_X11_heavierThan 8 [.ref a0, .int (mI x1), v2, v3, v4, v5] [] (rn m_X6_bits 0 [.ref as0] [] h) := by
  exact c_X6_bits i_X11_heavierThan_5 (K6_s k1) (ltd d_X11_heavierThan (by decide)) stOk_0 rfl
theorem i_X11_heavierThan_8 : am_i m_X11_heavierThan 8 = some (8, .istore_n 2, 1, [], 0) := rfl
theorem i_X11_heavierThan_9 : am_i m_X11_heavierThan 9 = some (9, .iconst 0, 1, [], 0) := rfl
theorem i_X11_heavierThan_10 : am_i m_X11_heavierThan 10 = some (10, .istore_n 3, 1, [], 0) := rfl
theorem i_X11_heavierThan_11 : am_i m_X11_heavierThan 11 = some (11, .iconst 0, 1, [], 0) := rfl
theorem i_X11_heavierThan_12 : am_i m_X11_heavierThan 12 = some (12, .istore 4, 2, [], 0) := rfl
theorem b_X11_heavierThan_8 {a0 : Nat} {x1 xs0 : Int} {v2 v3 v4 v5 : Value} {h : am_H} : rn m_X11_heavierThan 8 [.ref a0, .int (mI x1), v2, v3, v4, v5] [.int (mI xs0)] h = rn m_X11_heavierThan 14 [.ref a0, .int (mI x1), .int (mI xs0), .int (mI 0), .int (mI 0), v5] [] h := by
  refine (tq_istore_n (L' := [.ref a0, .int (mI x1), .int (mI xs0), v3, v4, v5]) i_X11_heavierThan_8 rfl rfl).trans ?_
  refine (tq_iconst i_X11_heavierThan_9 rfl).trans ?_
  refine (tq_istore_n (L' := [.ref a0, .int (mI x1), .int (mI xs0), .int (mI 0), v4, v5]) i_X11_heavierThan_10 rfl rfl).trans ?_
  refine (tq_iconst i_X11_heavierThan_11 rfl).trans ?_
  refine (tq_istore (L' := [.ref a0, .int (mI x1), .int (mI xs0), .int (mI 0), .int (mI 0), v5]) i_X11_heavierThan_12 rfl rfl).trans ?_
  rfl
theorem i_X11_heavierThan_14 : am_i m_X11_heavierThan 14 = some (14, .iload 4, 2, [], 0) := rfl
theorem i_X11_heavierThan_16 : am_i m_X11_heavierThan 16 = some (16, .aload_n 0, 1, [], 0) := rfl
theorem i_X11_heavierThan_17 : am_i m_X11_heavierThan 17 = some (17, .getfield 43, 3, [9, 8, 0], 0) := rfl
theorem i_X11_heavierThan_20 : am_i m_X11_heavierThan 20 = some (20, .if_icmp .ge 41, 3, [], 0) := rfl
theorem i_X11_heavierThan_23 : am_i m_X11_heavierThan 23 = some (23, .aload_n 0, 1, [], 0) := rfl
theorem i_X11_heavierThan_24 : am_i m_X11_heavierThan 24 = some (24, .iload 4, 2, [], 0) := rfl
theorem i_X11_heavierThan_26 : am_i m_X11_heavierThan 26 = some (26, .invokevirtual 223, 3, [113, 9], 0) := rfl
theorem i_X11_heavierThan_61 : am_i m_X11_heavierThan 61 = some (61, .iload_n 3, 1, [], 0) := rfl
theorem i_X11_heavierThan_62 : am_i m_X11_heavierThan 62 = some (62, .ireturn, 1, [], 0) := rfl
theorem b_X11_heavierThan_14 {a0 : Nat} {x1 x2 x3 x4 x4' : Int} {v5 : Value} {h : am_H} (w4 : wr x4 = x4') (k1 : K9 h a0) : rn m_X11_heavierThan 14 [.ref a0, .int (mI x1), .int (mI x2), .int (mI x3), .int (mI x4), v5] [] h = if (fZ h a0 8) ≤ x4' then some (.inl (some (.int (mI x3))), h) else cl m_X11_heavierThan 29 [.ref a0, .int (mI x1), .int (mI x2), .int (mI x3), .int (mI x4), v5] [] (rn m_X11_pictureAt 0 [.ref a0, .int (mI x4), am_J] [] h) := by
  refine (tq_iload i_X11_heavierThan_14 rfl rfl).trans ?_
  refine (tq_aload_n i_X11_heavierThan_16 rfl (isA_ref _) rfl).trans ?_
  refine (tq_getfield i_X11_heavierThan_17 (K9_s k1) (g_9_8 (K9_s k1)) (isV_I _) rfl).trans ?_
  refine (tq_icmp_ge (pt := 61) i_X11_heavierThan_20 w4 (wr_fZ _ _ _) (by decide) rfl).trans ?_
  refine ite_congr rfl (fun c1 => ?_) (fun c1 => ?_)
  · refine (tq_iload_n i_X11_heavierThan_61 rfl rfl).trans ?_
    exact tq_ireturn i_X11_heavierThan_62 r_X11_heavierThan rfl
  · refine (tq_aload_n i_X11_heavierThan_23 rfl (isA_ref _) rfl).trans ?_
    refine (tq_iload i_X11_heavierThan_24 rfl rfl).trans ?_
    exact c_X11_pictureAt i_X11_heavierThan_26 (K9_s k1) (ltd d_X11_heavierThan (by decide)) stOk_0 rfl
theorem i_X11_heavierThan_29 : am_i m_X11_heavierThan 29 = some (29, .invokevirtual 308, 3, [24, 6], 0) := rfl
theorem b_X11_heavierThan_29 {a0 as0 : Nat} {x1 x2 x3 x4 : Int} {v5 : Value} {h : am_H} (k1 : K6 h as0) : rn m_X11_heavierThan 29 [.ref a0, .int (mI x1), .int (mI x2), .int (mI x3), .int (mI x4), v5] [.ref as0] h = cl m_X11_heavierThan 32 [.ref a0, .int (mI x1), .int (mI x2), .int (mI x3), .int (mI x4), v5] [] (rn m_X6_bits 0 [.ref as0] [] h) := by
  exact c_X6_bits i_X11_heavierThan_29 (K6_s k1) (ltd d_X11_heavierThan (by decide)) stOk_0 rfl
theorem i_X11_heavierThan_32 : am_i m_X11_heavierThan 32 = some (32, .istore 5, 2, [], 0) := rfl
theorem i_X11_heavierThan_34 : am_i m_X11_heavierThan 34 = some (34, .iload 5, 2, [], 0) := rfl
theorem i_X11_heavierThan_36 : am_i m_X11_heavierThan 36 = some (36, .iload_n 2, 1, [], 0) := rfl
theorem i_X11_heavierThan_37 : am_i m_X11_heavierThan 37 = some (37, .if_icmp .gt 15, 3, [], 0) := rfl
theorem i_X11_heavierThan_40 : am_i m_X11_heavierThan 40 = some (40, .iload 5, 2, [], 0) := rfl
theorem i_X11_heavierThan_42 : am_i m_X11_heavierThan 42 = some (42, .iload_n 2, 1, [], 0) := rfl
theorem i_X11_heavierThan_43 : am_i m_X11_heavierThan 43 = some (43, .if_icmp .ne 12, 3, [], 0) := rfl
theorem i_X11_heavierThan_46 : am_i m_X11_heavierThan 46 = some (46, .iload 4, 2, [], 0) := rfl
theorem i_X11_heavierThan_48 : am_i m_X11_heavierThan 48 = some (48, .iload_n 1, 1, [], 0) := rfl
theorem i_X11_heavierThan_49 : am_i m_X11_heavierThan 49 = some (49, .if_icmp .ge 6, 3, [], 0) := rfl
theorem i_X11_heavierThan_52 : am_i m_X11_heavierThan 52 = some (52, .iinc 3 1, 3, [], 0) := rfl
theorem i_X11_heavierThan_55 : am_i m_X11_heavierThan 55 = some (55, .iinc 4 1, 3, [], 0) := rfl
theorem i_X11_heavierThan_58 : am_i m_X11_heavierThan 58 = some (58, .goto (-44), 3, [], 0) := rfl
theorem b_X11_heavierThan_32 {a0 : Nat} {x1 x2 x3 x4 xs0 x1' x2' x4' xs0' : Int} {v5 : Value} {h : am_H} (w1 : wr x1 = x1') (w2 : wr x2 = x2') (w4 : wr x4 = x4') (ws0 : wr xs0 = xs0') : rn m_X11_heavierThan 32 [.ref a0, .int (mI x1), .int (mI x2), .int (mI x3), .int (mI x4), v5] [.int (mI xs0)] h = if x2' < xs0' then rn m_X11_heavierThan 14 [.ref a0, .int (mI x1), .int (mI x2), .int (mI (x3 + 1)), .int (mI (x4 + 1)), .int (mI xs0)] [] h else if ¬ xs0' = x2' then rn m_X11_heavierThan 14 [.ref a0, .int (mI x1), .int (mI x2), .int (mI x3), .int (mI (x4 + 1)), .int (mI xs0)] [] h else if x1' ≤ x4' then rn m_X11_heavierThan 14 [.ref a0, .int (mI x1), .int (mI x2), .int (mI x3), .int (mI (x4 + 1)), .int (mI xs0)] [] h else rn m_X11_heavierThan 14 [.ref a0, .int (mI x1), .int (mI x2), .int (mI (x3 + 1)), .int (mI (x4 + 1)), .int (mI xs0)] [] h := by
  refine (tq_istore (L' := [.ref a0, .int (mI x1), .int (mI x2), .int (mI x3), .int (mI x4), .int (mI xs0)]) i_X11_heavierThan_32 rfl rfl).trans ?_
  refine (tq_iload i_X11_heavierThan_34 rfl rfl).trans ?_
  refine (tq_iload_n i_X11_heavierThan_36 rfl rfl).trans ?_
  refine (tq_icmp_gt (pt := 52) i_X11_heavierThan_37 ws0 w2 (by decide) rfl).trans ?_
  refine ite_congr rfl (fun c1 => ?_) (fun c1 => ?_)
  · refine (tq_iinc (L' := [.ref a0, .int (mI x1), .int (mI x2), .int (mI (x3 + 1)), .int (mI x4), .int (mI xs0)]) i_X11_heavierThan_52 rfl rfl rfl).trans ?_
    refine (tq_iinc (L' := [.ref a0, .int (mI x1), .int (mI x2), .int (mI (x3 + 1)), .int (mI (x4 + 1)), .int (mI xs0)]) i_X11_heavierThan_55 rfl rfl rfl).trans ?_
    refine (tq_goto (pc' := 14) i_X11_heavierThan_58 (by decide)).trans ?_
    rfl
  · refine (tq_iload i_X11_heavierThan_40 rfl rfl).trans ?_
    refine (tq_iload_n i_X11_heavierThan_42 rfl rfl).trans ?_
    refine (tq_icmp_ne (pt := 55) i_X11_heavierThan_43 ws0 w2 (by decide) rfl).trans ?_
    refine ite_congr rfl (fun c2 => ?_) (fun c2 => ?_)
    · refine (tq_iinc (L' := [.ref a0, .int (mI x1), .int (mI x2), .int (mI x3), .int (mI (x4 + 1)), .int (mI xs0)]) i_X11_heavierThan_55 rfl rfl rfl).trans ?_
      refine (tq_goto (pc' := 14) i_X11_heavierThan_58 (by decide)).trans ?_
      rfl
    · refine (tq_iload i_X11_heavierThan_46 rfl rfl).trans ?_
      refine (tq_iload_n i_X11_heavierThan_48 rfl rfl).trans ?_
      refine (tq_icmp_ge (pt := 55) i_X11_heavierThan_49 w4 w1 (by decide) rfl).trans ?_
      refine ite_congr rfl (fun c3 => ?_) (fun c3 => ?_)
      · refine (tq_iinc (L' := [.ref a0, .int (mI x1), .int (mI x2), .int (mI x3), .int (mI (x4 + 1)), .int (mI xs0)]) i_X11_heavierThan_55 rfl rfl rfl).trans ?_
        refine (tq_goto (pc' := 14) i_X11_heavierThan_58 (by decide)).trans ?_
        rfl
      · refine (tq_iinc (L' := [.ref a0, .int (mI x1), .int (mI x2), .int (mI (x3 + 1)), .int (mI x4), .int (mI xs0)]) i_X11_heavierThan_52 rfl rfl rfl).trans ?_
        refine (tq_iinc (L' := [.ref a0, .int (mI x1), .int (mI x2), .int (mI (x3 + 1)), .int (mI (x4 + 1)), .int (mI xs0)]) i_X11_heavierThan_55 rfl rfl rfl).trans ?_
        refine (tq_goto (pc' := 14) i_X11_heavierThan_58 (by decide)).trans ?_
        rfl
section QD
variable {σ : St} {h : am_H} {D : Nat} {c : Int}
theorem bts_b (wf : WfS σ c) {i : Int} (hi : 0 ≤ i ∧ i < tz σ 7) : 0 ≤ bts σ i ∧ bts σ i ≤ 65536 := by
  obtain ⟨-, -, -, -, -, -, -, -, a, b, -⟩ := wf.2.2.2.1 i hi.1 hi.2
  unfold bts
  omega
theorem X6bits_ok {P : Nat} {z : Nat → Int} {d : Nat → Int → Int} (p : PC h D P z d) (h8 : 0 ≤ z 8 ∧ z 8 ≤ 4096) (h9 : 0 ≤ z 9 ∧ z 9 ≤ 4096) : rn m_X6_bits 0 [.ref P] [] h = some (.inl (some (.int (mI (8 * (z 8 + z 9))))), h) := by
  obtain ⟨U, u1, u2⟩ := p.2.2.2.1
  obtain ⟨V, v1, v2⟩ := p.2.2.2.2.1
  have st := b_X6_bits_0 (a0 := P) (a0_upperBytes := U) (a0_lowerBytes := V) (n_a0_upperBytes := gn h U) (n_a0_lowerBytes := gn h V) (h := h) p.1 u1 rfl u2.2.1.1 v1 rfl v2.2.1.1
  rw [u2.2.1.2, v2.2.1.2] at st
  exact st
theorem hvT_ok (rc : RC σ h D) (wf : WfS σ c) {p : Int} (hp : 0 ≤ p ∧ p < tz σ 7) : rn m_X11_heavierThan 0 [.ref 2, .int (mI p), am_J, am_J, am_J, am_J] [] h = some (.inl (some (.int (mI (ahd σ p)))), h) := by
  have n := WFn wf
  have en : fZ h 2 8 = tz σ 7 := rc.2.2.2.1.2.2.1
  have wp : wr p = p := wr_id (by omega) (by omega)
  obtain ⟨P, e, pc⟩ := PA_good rc wf wp hp
  obtain ⟨-, -, -, -, -, -, -, -, a8, a9, -⟩ := wf.2.2.2.1 p hp.1 hp.2
  have bb := bts_b wf hp
  rw [b_X11_heavierThan_0 rc.1, e, cl_v, b_X11_heavierThan_5 pc.1, X6bits_ok pc a8 a9, cl_v, b_X11_heavierThan_8]
  refine lp (m := m_X11_heavierThan) (pc := 14) (L := fun i (x : Int × Value) => [.ref 2, .int (mI p), .int (mI (8 * (tpz σ p 8 + tpz σ p 9))), .int (mI x.1), .int (mI i), x.2]) (N := tz σ 7) (P := fun r => r = some (.inl (some (.int (mI (ahd σ p)))), h)) (fun i x h' => 0 ≤ i ∧ h' = h ∧ x.1 = sm i.toNat (fun q => bfr σ q p)) ?_ ?_ 0 (0, am_J) h (by omega) ⟨by omega, rfl, rfl⟩
  · intro i x h' hi ⟨i0, e1, ex⟩
    subst e1
    obtain ⟨x, v⟩ := x
    have wi : wr i = i := wr_id (by omega) (by omega)
    obtain ⟨Q, eq, qc⟩ := PA_good rc wf wi ⟨i0, hi⟩
    obtain ⟨-, -, -, -, -, -, -, -, b8, b9, -⟩ := wf.2.2.2.1 i i0 hi
    have bi := bts_b wf ⟨i0, hi⟩
    unfold bts at bb bi
    have st := b_X11_heavierThan_14 (a0 := 2) (x1 := p) (x2 := 8 * (tpz σ p 8 + tpz σ p 9)) (x3 := x) (v5 := v) (h := h') wi rc.1
    rw [en, if_neg (by omega), eq, cl_v, b_X11_heavierThan_29 qc.1, X6bits_ok qc b8 b9, cl_v, b_X11_heavierThan_32 wp (wr_id (z := 8 * (tpz σ p 8 + tpz σ p 9)) (by omega) (by omega)) wi (wr_id (z := 8 * (tpz σ i 8 + tpz σ i 9)) (by omega) (by omega))] at st
    have sx : sm (i + 1).toNat (fun q => bfr σ q p) = x + bfr σ i p := by rw [sm_succ i0, ← ex]
    have eb : bfr σ i p = if 8 * (tpz σ p 8 + tpz σ p 9) < 8 * (tpz σ i 8 + tpz σ i 9) ∨ (8 * (tpz σ i 8 + tpz σ i 9) = 8 * (tpz σ p 8 + tpz σ p 9) ∧ i < p) then 1 else 0 := rfl
    generalize 8 * (tpz σ i 8 + tpz σ i 9) = bI at *
    generalize 8 * (tpz σ p 8 + tpz σ p 9) = bP at *
    by_cases c1 : bP < bI
    · rw [if_pos c1] at st
      exact ⟨(_, _), h', st, by omega, rfl, by rw [sx, eb, if_pos (Or.inl c1)]⟩
    · rw [if_neg c1] at st
      by_cases c2 : bI = bP
      · rw [if_neg (fun g => g c2)] at st
        by_cases c3 : p ≤ i
        · rw [if_pos c3] at st
          exact ⟨(_, _), h', st, by omega, rfl, by rw [sx, eb, if_neg (by omega), Int.add_zero]⟩
        · rw [if_neg c3] at st
          exact ⟨(_, _), h', st, by omega, rfl, by rw [sx, eb, if_pos (by omega)]⟩
      · rw [if_pos c2] at st
        exact ⟨(_, _), h', st, by omega, rfl, by rw [sx, eb, if_neg (by omega), Int.add_zero]⟩
  · intro x h' ⟨i0, e1, ex⟩
    subst e1
    obtain ⟨x, v⟩ := x
    have st := b_X11_heavierThan_14 (a0 := 2) (x1 := p) (x2 := 8 * (tpz σ p 8 + tpz σ p 9)) (x3 := x) (v5 := v) (h := h') (wr_id (z := tz σ 7) (by omega) (by omega)) rc.1
    rw [en, if_pos (by omega)] at st
    simp only at ex
    refine st.trans ?_
    rw [ex]
    rfl
theorem i_X11_heaviest_0 : am_i m_X11_heaviest 0 = some (0, .iload_n 1, 1, [], 0) := rfl
theorem i_X11_heaviest_1 : am_i m_X11_heaviest 1 = some (1, .ifCond .lt 11, 3, [], 0) := rfl
theorem i_X11_heaviest_4 : am_i m_X11_heaviest 4 = some (4, .iload_n 1, 1, [], 0) := rfl
theorem i_X11_heaviest_5 : am_i m_X11_heaviest 5 = some (5, .aload_n 0, 1, [], 0) := rfl
theorem i_X11_heaviest_6 : am_i m_X11_heaviest 6 = some (6, .getfield 43, 3, [9, 8, 0], 0) := rfl
theorem i_X11_heaviest_9 : am_i m_X11_heaviest 9 = some (9, .if_icmp .lt 14, 3, [], 0) := rfl
theorem i_X11_heaviest_12 : am_i m_X11_heaviest 12 = some (12, .new 155, 3, [1, 0], 0) := rfl
theorem i_X11_heaviest_23 : am_i m_X11_heaviest 23 = some (23, .iconst 0, 1, [], 0) := rfl
theorem i_X11_heaviest_24 : am_i m_X11_heaviest 24 = some (24, .istore_n 2, 1, [], 0) := rfl
theorem i_X11_heaviest_25 : am_i m_X11_heaviest 25 = some (25, .iconst 0, 1, [], 0) := rfl
theorem i_X11_heaviest_26 : am_i m_X11_heaviest 26 = some (26, .istore_n 3, 1, [], 0) := rfl
theorem b_X11_heaviest_0 {a0 : Nat} {x1 x1' : Int} {h : am_H} (w1 : wr x1 = x1') (k1 : K9 h a0) : rn m_X11_heaviest 0 [.ref a0, .int (mI x1), am_J, am_J] [] h = if x1' < 0 then some (.inr 1, hexc h) else if x1' < (fZ h a0 8) then rn m_X11_heaviest 27 [.ref a0, .int (mI x1), .int (mI 0), .int (mI 0)] [] h else some (.inr 1, hexc h) := by
  refine (tq_iload_n i_X11_heaviest_0 rfl rfl).trans ?_
  refine (tq_if_lt (pt := 12) i_X11_heaviest_1 w1 (by decide) rfl).trans ?_
  refine ite_congr rfl (fun c1 => ?_) (fun c1 => ?_)
  · exact tq_newx i_X11_heaviest_12
  · refine (tq_iload_n i_X11_heaviest_4 rfl rfl).trans ?_
    refine (tq_aload_n i_X11_heaviest_5 rfl (isA_ref _) rfl).trans ?_
    refine (tq_getfield i_X11_heaviest_6 (K9_s k1) (g_9_8 (K9_s k1)) (isV_I _) rfl).trans ?_
    refine (tq_icmp_lt (pt := 23) i_X11_heaviest_9 w1 (wr_fZ _ _ _) (by decide) rfl).trans ?_
    refine ite_congr rfl (fun c2 => ?_) (fun c2 => ?_)
    · refine (tq_iconst i_X11_heaviest_23 rfl).trans ?_
      refine (tq_istore_n (L' := [.ref a0, .int (mI x1), .int (mI 0), am_J]) i_X11_heaviest_24 rfl rfl).trans ?_
      refine (tq_iconst i_X11_heaviest_25 rfl).trans ?_
      refine (tq_istore_n (L' := [.ref a0, .int (mI x1), .int (mI 0), .int (mI 0)]) i_X11_heaviest_26 rfl rfl).trans ?_
      rfl
    · exact tq_newx i_X11_heaviest_12
theorem i_X11_heaviest_27 : am_i m_X11_heaviest 27 = some (27, .iload_n 3, 1, [], 0) := rfl
theorem i_X11_heaviest_28 : am_i m_X11_heaviest 28 = some (28, .aload_n 0, 1, [], 0) := rfl
theorem i_X11_heaviest_29 : am_i m_X11_heaviest 29 = some (29, .getfield 43, 3, [9, 8, 0], 0) := rfl
theorem i_X11_heaviest_32 : am_i m_X11_heaviest 32 = some (32, .if_icmp .ge 20, 3, [], 0) := rfl
theorem i_X11_heaviest_35 : am_i m_X11_heaviest 35 = some (35, .aload_n 0, 1, [], 0) := rfl
theorem i_X11_heaviest_36 : am_i m_X11_heaviest 36 = some (36, .iload_n 3, 1, [], 0) := rfl
theorem i_X11_heaviest_37 : am_i m_X11_heaviest 37 = some (37, .invokevirtual 269, 3, [127, 9], 0) := rfl
theorem i_X11_heaviest_52 : am_i m_X11_heaviest 52 = some (52, .iload_n 2, 1, [], 0) := rfl
theorem i_X11_heaviest_53 : am_i m_X11_heaviest 53 = some (53, .ireturn, 1, [], 0) := rfl
theorem b_X11_heaviest_27 {a0 : Nat} {x1 x2 x3 x3' : Int} {h : am_H} (w3 : wr x3 = x3') (k1 : K9 h a0) : rn m_X11_heaviest 27 [.ref a0, .int (mI x1), .int (mI x2), .int (mI x3)] [] h = if (fZ h a0 8) ≤ x3' then some (.inl (some (.int (mI x2))), h) else cl m_X11_heaviest 40 [.ref a0, .int (mI x1), .int (mI x2), .int (mI x3)] [] (rn m_X11_heavierThan 0 [.ref a0, .int (mI x3), am_J, am_J, am_J, am_J] [] h) := by
  refine (tq_iload_n i_X11_heaviest_27 rfl rfl).trans ?_
  refine (tq_aload_n i_X11_heaviest_28 rfl (isA_ref _) rfl).trans ?_
  refine (tq_getfield i_X11_heaviest_29 (K9_s k1) (g_9_8 (K9_s k1)) (isV_I _) rfl).trans ?_
  refine (tq_icmp_ge (pt := 52) i_X11_heaviest_32 w3 (wr_fZ _ _ _) (by decide) rfl).trans ?_
  refine ite_congr rfl (fun c1 => ?_) (fun c1 => ?_)
  · refine (tq_iload_n i_X11_heaviest_52 rfl rfl).trans ?_
    exact tq_ireturn i_X11_heaviest_53 r_X11_heaviest rfl
  · refine (tq_aload_n i_X11_heaviest_35 rfl (isA_ref _) rfl).trans ?_
    refine (tq_iload_n i_X11_heaviest_36 rfl rfl).trans ?_
    exact c_X11_heavierThan i_X11_heaviest_37 (K9_s k1) (ltd d_X11_heaviest (by decide)) stOk_0 rfl
theorem i_X11_heaviest_40 : am_i m_X11_heaviest 40 = some (40, .iload_n 1, 1, [], 0) := rfl
theorem i_X11_heaviest_41 : am_i m_X11_heaviest 41 = some (41, .if_icmp .ne 5, 3, [], 0) := rfl
theorem i_X11_heaviest_44 : am_i m_X11_heaviest 44 = some (44, .iload_n 3, 1, [], 0) := rfl
theorem i_X11_heaviest_45 : am_i m_X11_heaviest 45 = some (45, .istore_n 2, 1, [], 0) := rfl
theorem i_X11_heaviest_46 : am_i m_X11_heaviest 46 = some (46, .iinc 3 1, 3, [], 0) := rfl
theorem i_X11_heaviest_49 : am_i m_X11_heaviest 49 = some (49, .goto (-22), 3, [], 0) := rfl
theorem b_X11_heaviest_40 {a0 : Nat} {x1 x2 x3 xs0 x1' xs0' : Int} {h : am_H} (w1 : wr x1 = x1') (ws0 : wr xs0 = xs0') : rn m_X11_heaviest 40 [.ref a0, .int (mI x1), .int (mI x2), .int (mI x3)] [.int (mI xs0)] h = if ¬ xs0' = x1' then rn m_X11_heaviest 27 [.ref a0, .int (mI x1), .int (mI x2), .int (mI (x3 + 1))] [] h else rn m_X11_heaviest 27 [.ref a0, .int (mI x1), .int (mI x3), .int (mI (x3 + 1))] [] h := by
  refine (tq_iload_n i_X11_heaviest_40 rfl rfl).trans ?_
  refine (tq_icmp_ne (pt := 46) i_X11_heaviest_41 ws0 w1 (by decide) rfl).trans ?_
  refine ite_congr rfl (fun c1 => ?_) (fun c1 => ?_)
  · refine (tq_iinc (L' := [.ref a0, .int (mI x1), .int (mI x2), .int (mI (x3 + 1))]) i_X11_heaviest_46 rfl rfl rfl).trans ?_
    refine (tq_goto (pc' := 27) i_X11_heaviest_49 (by decide)).trans ?_
    rfl
  · refine (tq_iload_n i_X11_heaviest_44 rfl rfl).trans ?_
    refine (tq_istore_n (L' := [.ref a0, .int (mI x1), .int (mI x3), .int (mI x3)]) i_X11_heaviest_45 rfl rfl).trans ?_
    refine (tq_iinc (L' := [.ref a0, .int (mI x1), .int (mI x3), .int (mI (x3 + 1))]) i_X11_heaviest_46 rfl rfl rfl).trans ?_
    refine (tq_goto (pc' := 27) i_X11_heaviest_49 (by decide)).trans ?_
    rfl
/-- the picture of a rank: none has it twice -/
def isHv (σ : St) (r v : Int) : Prop := (∃ p, (0 ≤ p ∧ p < tz σ 7) ∧ ahd σ p = r ∧ v = p) ∨ ((∀ p, 0 ≤ p → p < tz σ 7 → ahd σ p ≠ r) ∧ v = 0)
theorem isHv_one {r v v' : Int} (a : isHv σ r v) (b : isHv σ r v') : v = v' := by
  rcases a with ⟨p, p1, p2, p3⟩ | ⟨p1, p2⟩
  · rcases b with ⟨q, q1, q2, q3⟩ | ⟨q1, q2⟩
    · rw [p3, q3]; exact ahd_inj p1 q1 (by rw [p2, q2])
    · exact absurd p2 (q1 p p1.1 p1.2)
  · rcases b with ⟨q, q1, q2, q3⟩ | ⟨q1, q2⟩
    · exact absurd q2 (p1 q q1.1 q1.2)
    · rw [p2, q2]
theorem q_heaviest (rc : RC σ h D) (wf : WfS σ c) {r : Int} (w : wr r = r) : (0 ≤ r ∧ r < tz σ 7 → ∃ v, isHv σ r v ∧ (0 ≤ v ∧ v ≤ 12) ∧ rn m_X11_heaviest 0 [.ref 2, .int (mI r), am_J, am_J] [] h = some (.inl (some (.int (mI v))), h)) ∧ (¬ (0 ≤ r ∧ r < tz σ 7) → rn m_X11_heaviest 0 [.ref 2, .int (mI r), am_J, am_J] [] h = some (.inr 1, hexc h)) := by
  have n := WFn wf
  have en : fZ h 2 8 = tz σ 7 := rc.2.2.2.1.2.2.1
  have st := b_X11_heaviest_0 (a0 := 2) (x1 := r) (h := h) w rc.1
  rw [en] at st
  refine ⟨fun g => ?_, fun g => ?_⟩
  · rw [if_neg (by omega), if_pos g.2] at st
    rw [st]
    refine lp (m := m_X11_heaviest) (pc := 27) (L := fun i (x : Int) => [.ref 2, .int (mI r), .int (mI x), .int (mI i)]) (N := tz σ 7) (P := fun q => ∃ v, isHv σ r v ∧ (0 ≤ v ∧ v ≤ 12) ∧ q = some (.inl (some (.int (mI v))), h)) (fun i x h' => 0 ≤ i ∧ h' = h ∧ ((∃ p, (0 ≤ p ∧ p < i) ∧ ahd σ p = r ∧ x = p) ∨ ((∀ p, 0 ≤ p → p < i → ahd σ p ≠ r) ∧ x = 0))) ?_ ?_ 0 0 h (by omega) ⟨by omega, rfl, Or.inr ⟨fun p p0 p1 => by omega, rfl⟩⟩
    · intro i x h' hi ⟨i0, e1, ex⟩
      subst e1
      have st2 := b_X11_heaviest_27 (a0 := 2) (x1 := r) (x2 := x) (x3 := i) (h := h') (wr_id (by omega) (by omega)) rc.1
      have ab := sm_01 (tz σ 7).toNat (fun q _ _ => bfr_01 σ q i)
      have ab' : 0 ≤ ahd σ i ∧ ahd σ i ≤ (tz σ 7).toNat := ab
      rw [en, if_neg (by omega), hvT_ok rc wf ⟨i0, hi⟩, cl_v, b_X11_heaviest_40 w (wr_id (z := ahd σ i) (by omega) (by omega))] at st2
      by_cases q : ahd σ i = r
      · rw [if_neg (fun g => g q)] at st2
        exact ⟨_, h', st2, by omega, rfl, Or.inl ⟨i, ⟨i0, by omega⟩, q, rfl⟩⟩
      · rw [if_pos q] at st2
        refine ⟨_, h', st2, by omega, rfl, ?_⟩
        rcases ex with ⟨p, p1, p2, p3⟩ | ⟨p1, p2⟩
        · exact Or.inl ⟨p, ⟨p1.1, by omega⟩, p2, p3⟩
        · exact Or.inr ⟨fun p p0 p1' => by
            by_cases e : p = i
            · rw [e]; exact q
            · exact p1 p p0 (by omega), p2⟩
    · intro x h' ⟨i0, e1, ex⟩
      subst e1
      have st2 := b_X11_heaviest_27 (a0 := 2) (x1 := r) (x2 := x) (x3 := tz σ 7) (h := h') (wr_id (by omega) (by omega)) rc.1
      rw [en, if_pos (by omega)] at st2
      refine ⟨x, ex, ?_, st2⟩
      rcases ex with ⟨p, p1, p2, p3⟩ | ⟨p1, p2⟩ <;> omega
  · by_cases c0 : r < 0
    · rw [if_pos c0] at st; exact st
    · rw [if_neg c0, if_neg (by omega)] at st; exact st
theorem i_X6_partsInMode_0 : am_i m_X6_partsInMode 0 = some (0, .iconst 0, 1, [], 0) := rfl
theorem i_X6_partsInMode_1 : am_i m_X6_partsInMode 1 = some (1, .istore_n 2, 1, [], 0) := rfl
theorem i_X6_partsInMode_2 : am_i m_X6_partsInMode 2 = some (2, .iconst 0, 1, [], 0) := rfl
theorem i_X6_partsInMode_3 : am_i m_X6_partsInMode 3 = some (3, .istore_n 3, 1, [], 0) := rfl
theorem b_X6_partsInMode_0 {a0 : Nat} {x1 : Int} {h : am_H} : rn m_X6_partsInMode 0 [.ref a0, .int (mI x1), am_J, am_J] [] h = rn m_X6_partsInMode 4 [.ref a0, .int (mI x1), .int (mI 0), .int (mI 0)] [] h := by
  refine (tq_iconst i_X6_partsInMode_0 rfl).trans ?_
  refine (tq_istore_n (L' := [.ref a0, .int (mI x1), .int (mI 0), am_J]) i_X6_partsInMode_1 rfl rfl).trans ?_
  refine (tq_iconst i_X6_partsInMode_2 rfl).trans ?_
  refine (tq_istore_n (L' := [.ref a0, .int (mI x1), .int (mI 0), .int (mI 0)]) i_X6_partsInMode_3 rfl rfl).trans ?_
  rfl
theorem i_X6_partsInMode_4 : am_i m_X6_partsInMode 4 = some (4, .iload_n 3, 1, [], 0) := rfl
theorem i_X6_partsInMode_5 : am_i m_X6_partsInMode 5 = some (5, .bipush 16, 2, [], 16) := rfl
theorem i_X6_partsInMode_7 : am_i m_X6_partsInMode 7 = some (7, .if_icmp .ge 32, 3, [], 0) := rfl
theorem i_X6_partsInMode_10 : am_i m_X6_partsInMode 10 = some (10, .aload_n 0, 1, [], 0) := rfl
theorem i_X6_partsInMode_11 : am_i m_X6_partsInMode 11 = some (11, .iload_n 3, 1, [], 0) := rfl
theorem i_X6_partsInMode_12 : am_i m_X6_partsInMode 12 = some (12, .invokevirtual 135, 3, [84, 6], 0) := rfl
theorem i_X6_partsInMode_15 : am_i m_X6_partsInMode 15 = some (15, .ifCond .eq 18, 3, [], 0) := rfl
theorem i_X6_partsInMode_18 : am_i m_X6_partsInMode 18 = some (18, .aload_n 0, 1, [], 0) := rfl
theorem i_X6_partsInMode_19 : am_i m_X6_partsInMode 19 = some (19, .getfield 49, 3, [6, 11, 0], 0) := rfl
theorem i_X6_partsInMode_22 : am_i m_X6_partsInMode 22 = some (22, .iload_n 3, 1, [], 0) := rfl
theorem i_X6_partsInMode_23 : am_i m_X6_partsInMode 23 = some (23, .invokestatic 64, 3, [32], 0) := rfl
theorem i_X6_partsInMode_26 : am_i m_X6_partsInMode 26 = some (26, .iload_n 1, 1, [], 0) := rfl
theorem i_X6_partsInMode_27 : am_i m_X6_partsInMode 27 = some (27, .if_icmp .ne 6, 3, [], 0) := rfl
theorem i_X6_partsInMode_30 : am_i m_X6_partsInMode 30 = some (30, .iinc 2 1, 3, [], 0) := rfl
theorem i_X6_partsInMode_33 : am_i m_X6_partsInMode 33 = some (33, .iinc 3 1, 3, [], 0) := rfl
theorem i_X6_partsInMode_36 : am_i m_X6_partsInMode 36 = some (36, .goto (-32), 3, [], 0) := rfl
theorem i_X6_partsInMode_39 : am_i m_X6_partsInMode 39 = some (39, .iload_n 2, 1, [], 0) := rfl
theorem i_X6_partsInMode_40 : am_i m_X6_partsInMode 40 = some (40, .ireturn, 1, [], 0) := rfl
theorem b_X6_partsInMode_4 {a0 : Nat} {x1 x2 x3 x1' x3' : Int} {h : am_H} (w1 : wr x1 = x1') (w3 : wr x3 = x3') (k1 : K6 h a0) (g2 : (¬ (16 ≤ x3')) → (0 ≤ x3' ∧ x3' < 16)) (g3 : (¬ (16 ≤ x3')) → ((x3' % 4 = 0 ∨ gZ h (a0 + 3) x3' = 4)) → (0 ≤ x3' ∧ x3' < (16 : Int))) : rn m_X6_partsInMode 4 [.ref a0, .int (mI x1), .int (mI x2), .int (mI x3)] [] h = if 16 ≤ x3' then some (.inl (some (.int (mI x2))), h) else if (x3' % 4 = 0 ∨ gZ h (a0 + 3) x3' = 4) then if ¬ (gZ h (a0 + 4) x3') = x1' then rn m_X6_partsInMode 4 [.ref a0, .int (mI x1), .int (mI x2), .int (mI (x3 + 1))] [] h else rn m_X6_partsInMode 4 [.ref a0, .int (mI x1), .int (mI (x2 + 1)), .int (mI (x3 + 1))] [] h else rn m_X6_partsInMode 4 [.ref a0, .int (mI x1), .int (mI x2), .int (mI (x3 + 1))] [] h := by
  refine (tq_iload_n i_X6_partsInMode_4 rfl rfl).trans ?_
  refine (tq_bipush i_X6_partsInMode_5 rfl).trans ?_
  refine (tq_icmp_ge (pt := 39) i_X6_partsInMode_7 w3 w_16 (by decide) rfl).trans ?_
  refine ite_congr rfl (fun c1 => ?_) (fun c1 => ?_)
  · refine (tq_iload_n i_X6_partsInMode_39 rfl rfl).trans ?_
    exact tq_ireturn i_X6_partsInMode_40 r_X6_partsInMode rfl
  · refine (tq_aload_n i_X6_partsInMode_10 rfl (isA_ref _) rfl).trans ?_
    refine (tq_iload_n i_X6_partsInMode_11 rfl rfl).trans ?_
    refine (c_X6_startsPart i_X6_partsInMode_12 (K6_s k1) (ltd d_X6_partsInMode (by decide)) stOk_0 rfl).trans ?_
    refine (congrArg (cl _ _ _ _) (startsPart_ok w3 (g2 c1) k1)).trans ?_
    refine (cl_v _ _ _ _ _ _).trans ?_
    refine (tq_ifb_eq (pt := 33) i_X6_partsInMode_15 (by decide) rfl).trans ?_
    refine ite_congr rfl (fun c2 => ?_) (fun c2 => ?_)
    · refine (tq_aload_n i_X6_partsInMode_18 rfl (isA_ref _) rfl).trans ?_
      refine (tq_getfield i_X6_partsInMode_19 (K6_s k1) (gR (g_6_11 (K6_s k1)) (K6_e11 k1)) (isV_ref _) rfl).trans ?_
      refine (tq_iload_n i_X6_partsInMode_22 rfl rfl).trans ?_
      refine (c_X7_get i_X6_partsInMode_23 (ltd d_X6_partsInMode (by decide)) (isA_ref _) stOk_0 rfl).trans ?_
      refine (congrArg (cl _ _ _ _) (get_ok w3 (K6_n11 k1) (K6_s11 k1) (by decide) (g3 c1 c2))).trans ?_
      refine (cl_v _ _ _ _ _ _).trans ?_
      refine (tq_iload_n i_X6_partsInMode_26 rfl rfl).trans ?_
      refine (tq_icmp_ne (pt := 33) i_X6_partsInMode_27 (wr_gZ _ _ _) w1 (by decide) rfl).trans ?_
      refine ite_congr rfl (fun c3 => ?_) (fun c3 => ?_)
      · refine (tq_iinc (L' := [.ref a0, .int (mI x1), .int (mI x2), .int (mI (x3 + 1))]) i_X6_partsInMode_33 rfl rfl rfl).trans ?_
        refine (tq_goto (pc' := 4) i_X6_partsInMode_36 (by decide)).trans ?_
        rfl
      · refine (tq_iinc (L' := [.ref a0, .int (mI x1), .int (mI (x2 + 1)), .int (mI x3)]) i_X6_partsInMode_30 rfl rfl rfl).trans ?_
        refine (tq_iinc (L' := [.ref a0, .int (mI x1), .int (mI (x2 + 1)), .int (mI (x3 + 1))]) i_X6_partsInMode_33 rfl rfl rfl).trans ?_
        refine (tq_goto (pc' := 4) i_X6_partsInMode_36 (by decide)).trans ?_
        rfl
    · refine (tq_iinc (L' := [.ref a0, .int (mI x1), .int (mI x2), .int (mI (x3 + 1))]) i_X6_partsInMode_33 rfl rfl rfl).trans ?_
      refine (tq_goto (pc' := 4) i_X6_partsInMode_36 (by decide)).trans ?_
      rfl
/-- the parts of a picture in a mode -/
def pim (d : Nat → Int → Int) (m : Int) : Nat → Int := fun n => sm n (fun s => if (s % 4 = 0 ∨ d 0 s = 4) ∧ d 1 s = m then 1 else 0)
theorem pim_b (d : Nat → Int → Int) (m : Int) (n : Nat) : 0 ≤ pim d m n ∧ pim d m n ≤ n := sm_01 n fun i _ _ => by split <;> simp
theorem pIM_ok {P : Nat} {z : Nat → Int} {d : Nat → Int → Int} {m : Int} (p : PC h D P z d) (hm : 0 ≤ m ∧ m ≤ 7) : rn m_X6_partsInMode 0 [.ref P, .int (mI m), am_J, am_J] [] h = some (.inl (some (.int (mI (pim d m 16)))), h) := by
  rw [b_X6_partsInMode_0]
  refine lp (m := m_X6_partsInMode) (pc := 4) (L := fun i (x : Int) => [.ref P, .int (mI m), .int (mI x), .int (mI i)]) (N := 16) (P := fun r => r = some (.inl (some (.int (mI (pim d m 16)))), h)) (fun i x h' => 0 ≤ i ∧ h' = h ∧ x = pim d m i.toNat) ?_ ?_ 0 0 h (by omega) ⟨by omega, rfl, rfl⟩
  · intro i x h' hi ⟨i0, e1, ex⟩
    subst e1
    have sq := p.2.2.2.2.2.1 i i0 hi
    have st := b_X6_partsInMode_4 (a0 := P) (x1 := m) (x2 := x) (x3 := i) (h := h') (wr_id (by omega) (by omega)) (wr_id (by omega) (by omega)) p.1 (fun _ => ⟨i0, hi⟩) (fun _ _ => ⟨i0, hi⟩)
    rw [if_neg (by omega), sq.1, sq.2.1] at st
    have sx : pim d m (i + 1).toNat = x + (if (i % 4 = 0 ∨ d 0 i = 4) ∧ d 1 i = m then 1 else 0) := by unfold pim at *; rw [sm_succ i0, ← ex]
    by_cases q : i % 4 = 0 ∨ d 0 i = 4
    · rw [if_pos q] at st
      by_cases q2 : d 1 i = m
      · rw [if_neg (fun g => g q2)] at st
        exact ⟨_, h', st, by omega, rfl, by rw [sx, if_pos ⟨q, q2⟩]⟩
      · rw [if_pos q2] at st
        exact ⟨_, h', st, by omega, rfl, by rw [sx, if_neg (fun g => q2 g.2), Int.add_zero]⟩
    · rw [if_neg q] at st
      exact ⟨_, h', st, by omega, rfl, by rw [sx, if_neg (fun g => q g.1), Int.add_zero]⟩
  · intro x h' ⟨i0, e1, ex⟩
    subst e1
    have st := b_X6_partsInMode_4 (a0 := P) (x1 := m) (x2 := x) (x3 := 16) (h := h') (wr_id (by omega) (by omega)) (wr_id (by omega) (by omega)) p.1 (fun g => absurd (by omega) g) (fun g => absurd (by omega) g)
    rw [if_pos (by omega)] at st
    refine st.trans ?_
    rw [ex, show (16 : Int).toNat = 16 by decide]
/-- the parts of all pictures in a mode -/
def tpm (σ : St) (m : Int) : Nat → Int := fun n => sm n (fun i => pim (tpd σ i) m 16)
theorem tpm_b (σ : St) (m : Int) (n : Nat) : 0 ≤ tpm σ m n ∧ tpm σ m n ≤ n * 16 := sm_le fun i _ _ => pim_b _ _ _
/-- the first of the greatest -/
def fgr (f : Int → Int) : Nat → Int
  | 0 => 0
  | n + 1 => if f (fgr f n) < f n then n else fgr f n
theorem fgr_b (f : Int → Int) : ∀ n : Nat, 0 ≤ fgr f n ∧ (fgr f n < n ∨ fgr f n = 0)
  | 0 => ⟨Int.le_refl _, Or.inr rfl⟩
  | n + 1 => by
    have := fgr_b f n
    unfold fgr
    split <;> omega
theorem i_X11_commonest_0 : am_i m_X11_commonest 0 = some (0, .aload_n 0, 1, [], 0) := rfl
theorem i_X11_commonest_1 : am_i m_X11_commonest 1 = some (1, .getfield 43, 3, [9, 8, 0], 0) := rfl
theorem i_X11_commonest_4 : am_i m_X11_commonest 4 = some (4, .ifCond .ne 14, 3, [], 0) := rfl
theorem i_X11_commonest_7 : am_i m_X11_commonest 7 = some (7, .new 218, 3, [4, 0], 0) := rfl
theorem i_X11_commonest_18 : am_i m_X11_commonest 18 = some (18, .iconst 0, 1, [], 0) := rfl
theorem i_X11_commonest_19 : am_i m_X11_commonest 19 = some (19, .istore_n 1, 1, [], 0) := rfl
theorem i_X11_commonest_20 : am_i m_X11_commonest 20 = some (20, .iconst 0, 1, [], 0) := rfl
theorem i_X11_commonest_21 : am_i m_X11_commonest 21 = some (21, .istore_n 2, 1, [], 0) := rfl
theorem i_X11_commonest_22 : am_i m_X11_commonest 22 = some (22, .iconst 0, 1, [], 0) := rfl
theorem i_X11_commonest_23 : am_i m_X11_commonest 23 = some (23, .istore_n 3, 1, [], 0) := rfl
theorem b_X11_commonest_0 {a0 : Nat} {h : am_H} (k1 : K9 h a0) : rn m_X11_commonest 0 [.ref a0, am_J, am_J, am_J, am_J, am_J] [] h = if ¬ (fZ h a0 8) = 0 then rn m_X11_commonest 24 [.ref a0, .int (mI 0), .int (mI 0), .int (mI 0), am_J, am_J] [] h else some (.inr 4, hexc h) := by
  refine (tq_aload_n i_X11_commonest_0 rfl (isA_ref _) rfl).trans ?_
  refine (tq_getfield i_X11_commonest_1 (K9_s k1) (g_9_8 (K9_s k1)) (isV_I _) rfl).trans ?_
  refine (tq_if_ne (pt := 18) i_X11_commonest_4 (wr_fZ _ _ _) (by decide) rfl).trans ?_
  refine ite_congr rfl (fun c1 => ?_) (fun c1 => ?_)
  · refine (tq_iconst i_X11_commonest_18 rfl).trans ?_
    refine (tq_istore_n (L' := [.ref a0, .int (mI 0), am_J, am_J, am_J, am_J]) i_X11_commonest_19 rfl rfl).trans ?_
    refine (tq_iconst i_X11_commonest_20 rfl).trans ?_
    refine (tq_istore_n (L' := [.ref a0, .int (mI 0), .int (mI 0), am_J, am_J, am_J]) i_X11_commonest_21 rfl rfl).trans ?_
    refine (tq_iconst i_X11_commonest_22 rfl).trans ?_
    refine (tq_istore_n (L' := [.ref a0, .int (mI 0), .int (mI 0), .int (mI 0), am_J, am_J]) i_X11_commonest_23 rfl rfl).trans ?_
    rfl
  · exact tq_newx i_X11_commonest_7
theorem i_X11_commonest_24 : am_i m_X11_commonest 24 = some (24, .iload_n 3, 1, [], 0) := rfl
theorem i_X11_commonest_25 : am_i m_X11_commonest 25 = some (25, .bipush 7, 2, [], 7) := rfl
theorem i_X11_commonest_27 : am_i m_X11_commonest 27 = some (27, .if_icmp .ge 56, 3, [], 0) := rfl
theorem i_X11_commonest_30 : am_i m_X11_commonest 30 = some (30, .iconst 0, 1, [], 0) := rfl
theorem i_X11_commonest_31 : am_i m_X11_commonest 31 = some (31, .istore 4, 2, [], 0) := rfl
theorem i_X11_commonest_33 : am_i m_X11_commonest 33 = some (33, .iconst 0, 1, [], 0) := rfl
theorem i_X11_commonest_34 : am_i m_X11_commonest 34 = some (34, .istore 5, 2, [], 0) := rfl
theorem i_X11_commonest_83 : am_i m_X11_commonest 83 = some (83, .iload_n 1, 1, [], 0) := rfl
theorem i_X11_commonest_84 : am_i m_X11_commonest 84 = some (84, .ireturn, 1, [], 0) := rfl
theorem b_X11_commonest_24 {a0 : Nat} {x1 x2 x3 x3' : Int} {v4 v5 : Value} {h : am_H} (w3 : wr x3 = x3') : rn m_X11_commonest 24 [.ref a0, .int (mI x1), .int (mI x2), .int (mI x3), v4, v5] [] h = if 7 ≤ x3' then some (.inl (some (.int (mI x1))), h) else rn m_X11_commonest 36 [.ref a0, .int (mI x1), .int (mI x2), .int (mI x3), .int (mI 0), .int (mI 0)] [] h := by
  refine (tq_iload_n i_X11_commonest_24 rfl rfl).trans ?_
  refine (tq_bipush i_X11_commonest_25 rfl).trans ?_
  refine (tq_icmp_ge (pt := 83) i_X11_commonest_27 w3 w_7 (by decide) rfl).trans ?_
  refine ite_congr rfl (fun c1 => ?_) (fun c1 => ?_)
  · refine (tq_iload_n i_X11_commonest_83 rfl rfl).trans ?_
    exact tq_ireturn i_X11_commonest_84 r_X11_commonest rfl
  · refine (tq_iconst i_X11_commonest_30 rfl).trans ?_
    refine (tq_istore (L' := [.ref a0, .int (mI x1), .int (mI x2), .int (mI x3), .int (mI 0), v5]) i_X11_commonest_31 rfl rfl).trans ?_
    refine (tq_iconst i_X11_commonest_33 rfl).trans ?_
    refine (tq_istore (L' := [.ref a0, .int (mI x1), .int (mI x2), .int (mI x3), .int (mI 0), .int (mI 0)]) i_X11_commonest_34 rfl rfl).trans ?_
    rfl
theorem i_X11_commonest_36 : am_i m_X11_commonest 36 = some (36, .iload 5, 2, [], 0) := rfl
theorem i_X11_commonest_38 : am_i m_X11_commonest 38 = some (38, .aload_n 0, 1, [], 0) := rfl
theorem i_X11_commonest_39 : am_i m_X11_commonest 39 = some (39, .getfield 43, 3, [9, 8, 0], 0) := rfl
theorem i_X11_commonest_42 : am_i m_X11_commonest 42 = some (42, .if_icmp .ge 24, 3, [], 0) := rfl
theorem i_X11_commonest_45 : am_i m_X11_commonest 45 = some (45, .iload 4, 2, [], 0) := rfl
theorem i_X11_commonest_47 : am_i m_X11_commonest 47 = some (47, .aload_n 0, 1, [], 0) := rfl
theorem i_X11_commonest_48 : am_i m_X11_commonest 48 = some (48, .iload 5, 2, [], 0) := rfl
theorem i_X11_commonest_50 : am_i m_X11_commonest 50 = some (50, .invokevirtual 223, 3, [113, 9], 0) := rfl
theorem i_X11_commonest_66 : am_i m_X11_commonest 66 = some (66, .iload 4, 2, [], 0) := rfl
theorem i_X11_commonest_68 : am_i m_X11_commonest 68 = some (68, .iload_n 2, 1, [], 0) := rfl
theorem i_X11_commonest_69 : am_i m_X11_commonest 69 = some (69, .if_icmp .le 8, 3, [], 0) := rfl
theorem i_X11_commonest_72 : am_i m_X11_commonest 72 = some (72, .iload 4, 2, [], 0) := rfl
theorem i_X11_commonest_74 : am_i m_X11_commonest 74 = some (74, .istore_n 2, 1, [], 0) := rfl
theorem i_X11_commonest_75 : am_i m_X11_commonest 75 = some (75, .iload_n 3, 1, [], 0) := rfl
theorem i_X11_commonest_76 : am_i m_X11_commonest 76 = some (76, .istore_n 1, 1, [], 0) := rfl
theorem i_X11_commonest_77 : am_i m_X11_commonest 77 = some (77, .iinc 3 1, 3, [], 0) := rfl
theorem i_X11_commonest_80 : am_i m_X11_commonest 80 = some (80, .goto (-56), 3, [], 0) := rfl
theorem b_X11_commonest_36 {a0 : Nat} {x1 x2 x3 x4 x5 x2' x4' x5' : Int} {h : am_H} (w2 : wr x2 = x2') (w4 : wr x4 = x4') (w5 : wr x5 = x5') (k1 : K9 h a0) : rn m_X11_commonest 36 [.ref a0, .int (mI x1), .int (mI x2), .int (mI x3), .int (mI x4), .int (mI x5)] [] h = if (fZ h a0 8) ≤ x5' then if x4' ≤ x2' then rn m_X11_commonest 24 [.ref a0, .int (mI x1), .int (mI x2), .int (mI (x3 + 1)), .int (mI x4), .int (mI x5)] [] h else rn m_X11_commonest 24 [.ref a0, .int (mI x3), .int (mI x4), .int (mI (x3 + 1)), .int (mI x4), .int (mI x5)] [] h else cl m_X11_commonest 53 [.ref a0, .int (mI x1), .int (mI x2), .int (mI x3), .int (mI x4), .int (mI x5)] [.int (mI x4)] (rn m_X11_pictureAt 0 [.ref a0, .int (mI x5), am_J] [] h) := by
  refine (tq_iload i_X11_commonest_36 rfl rfl).trans ?_
  refine (tq_aload_n i_X11_commonest_38 rfl (isA_ref _) rfl).trans ?_
  refine (tq_getfield i_X11_commonest_39 (K9_s k1) (g_9_8 (K9_s k1)) (isV_I _) rfl).trans ?_
  refine (tq_icmp_ge (pt := 66) i_X11_commonest_42 w5 (wr_fZ _ _ _) (by decide) rfl).trans ?_
  refine ite_congr rfl (fun c1 => ?_) (fun c1 => ?_)
  · refine (tq_iload i_X11_commonest_66 rfl rfl).trans ?_
    refine (tq_iload_n i_X11_commonest_68 rfl rfl).trans ?_
    refine (tq_icmp_le (pt := 77) i_X11_commonest_69 w4 w2 (by decide) rfl).trans ?_
    refine ite_congr rfl (fun c2 => ?_) (fun c2 => ?_)
    · refine (tq_iinc (L' := [.ref a0, .int (mI x1), .int (mI x2), .int (mI (x3 + 1)), .int (mI x4), .int (mI x5)]) i_X11_commonest_77 rfl rfl rfl).trans ?_
      refine (tq_goto (pc' := 24) i_X11_commonest_80 (by decide)).trans ?_
      rfl
    · refine (tq_iload i_X11_commonest_72 rfl rfl).trans ?_
      refine (tq_istore_n (L' := [.ref a0, .int (mI x1), .int (mI x4), .int (mI x3), .int (mI x4), .int (mI x5)]) i_X11_commonest_74 rfl rfl).trans ?_
      refine (tq_iload_n i_X11_commonest_75 rfl rfl).trans ?_
      refine (tq_istore_n (L' := [.ref a0, .int (mI x3), .int (mI x4), .int (mI x3), .int (mI x4), .int (mI x5)]) i_X11_commonest_76 rfl rfl).trans ?_
      refine (tq_iinc (L' := [.ref a0, .int (mI x3), .int (mI x4), .int (mI (x3 + 1)), .int (mI x4), .int (mI x5)]) i_X11_commonest_77 rfl rfl rfl).trans ?_
      refine (tq_goto (pc' := 24) i_X11_commonest_80 (by decide)).trans ?_
      rfl
  · refine (tq_iload i_X11_commonest_45 rfl rfl).trans ?_
    refine (tq_aload_n i_X11_commonest_47 rfl (isA_ref _) rfl).trans ?_
    refine (tq_iload i_X11_commonest_48 rfl rfl).trans ?_
    exact c_X11_pictureAt i_X11_commonest_50 (K9_s k1) (ltd d_X11_commonest (by decide)) (stOk_1 _) rfl
theorem i_X11_commonest_53 : am_i m_X11_commonest 53 = some (53, .iload_n 3, 1, [], 0) := rfl
theorem i_X11_commonest_54 : am_i m_X11_commonest 54 = some (54, .invokevirtual 274, 3, [95, 6], 0) := rfl
theorem b_X11_commonest_53 {a0 as0 : Nat} {x1 x2 x3 x5 xs1 : Int} {v4 : Value} {h : am_H} (k1 : K6 h as0) : rn m_X11_commonest 53 [.ref a0, .int (mI x1), .int (mI x2), .int (mI x3), v4, .int (mI x5)] [.ref as0, .int (mI xs1)] h = cl m_X11_commonest 57 [.ref a0, .int (mI x1), .int (mI x2), .int (mI x3), v4, .int (mI x5)] [.int (mI xs1)] (rn m_X6_partsInMode 0 [.ref as0, .int (mI x3), am_J, am_J] [] h) := by
  refine (tq_iload_n i_X11_commonest_53 rfl rfl).trans ?_
  exact c_X6_partsInMode i_X11_commonest_54 (K6_s k1) (ltd d_X11_commonest (by decide)) (stOk_1 _) rfl
theorem i_X11_commonest_57 : am_i m_X11_commonest 57 = some (57, .iadd, 1, [], 0) := rfl
theorem i_X11_commonest_58 : am_i m_X11_commonest 58 = some (58, .istore 4, 2, [], 0) := rfl
theorem i_X11_commonest_60 : am_i m_X11_commonest 60 = some (60, .iinc 5 1, 3, [], 0) := rfl
theorem i_X11_commonest_63 : am_i m_X11_commonest 63 = some (63, .goto (-27), 3, [], 0) := rfl
theorem b_X11_commonest_57 {a0 : Nat} {x1 x2 x3 x5 xs0 xs1 : Int} {v4 : Value} {h : am_H} : rn m_X11_commonest 57 [.ref a0, .int (mI x1), .int (mI x2), .int (mI x3), v4, .int (mI x5)] [.int (mI xs0), .int (mI xs1)] h = rn m_X11_commonest 36 [.ref a0, .int (mI x1), .int (mI x2), .int (mI x3), .int (mI (xs1 + xs0)), .int (mI (x5 + 1))] [] h := by
  refine (tq_iadd i_X11_commonest_57 rfl).trans ?_
  refine (tq_istore (L' := [.ref a0, .int (mI x1), .int (mI x2), .int (mI x3), .int (mI (xs1 + xs0)), .int (mI x5)]) i_X11_commonest_58 rfl rfl).trans ?_
  refine (tq_iinc (L' := [.ref a0, .int (mI x1), .int (mI x2), .int (mI x3), .int (mI (xs1 + xs0)), .int (mI (x5 + 1))]) i_X11_commonest_60 rfl rfl rfl).trans ?_
  refine (tq_goto (pc' := 36) i_X11_commonest_63 (by decide)).trans ?_
  rfl
theorem q_commonest (rc : RC σ h D) (wf : WfS σ c) : (tz σ 7 ≠ 0 → rn m_X11_commonest 0 [.ref 2, am_J, am_J, am_J, am_J, am_J] [] h = some (.inl (some (.int (mI (fgr (fun m => tpm σ m (tz σ 7).toNat) 7)))), h)) ∧ (tz σ 7 = 0 → rn m_X11_commonest 0 [.ref 2, am_J, am_J, am_J, am_J, am_J] [] h = some (.inr 4, hexc h)) := by
  have n := WFn wf
  have en : fZ h 2 8 = tz σ 7 := rc.2.2.2.1.2.2.1
  have st := b_X11_commonest_0 (a0 := 2) (h := h) rc.1
  rw [en] at st
  refine ⟨fun g => ?_, fun g => by rw [if_neg (fun q => q g)] at st; exact st⟩
  rw [if_pos g] at st
  rw [st]
  have tb := fun m => tpm_b σ m (tz σ 7).toNat
  refine lp (m := m_X11_commonest) (pc := 24) (L := fun i (x : (Int × Int) × (Value × Value)) => [.ref 2, .int (mI x.1.1), .int (mI x.1.2), .int (mI i), x.2.1, x.2.2]) (N := 7) (P := fun q => q = some (.inl (some (.int (mI (fgr (fun m => tpm σ m (tz σ 7).toNat) 7)))), h)) (fun i x h' => 0 ≤ i ∧ h' = h ∧ x.1.1 = fgr (fun m => tpm σ m (tz σ 7).toNat) i.toNat ∧ (i = 0 → x.1.2 = 0) ∧ (i ≠ 0 → x.1.2 = tpm σ x.1.1 (tz σ 7).toNat)) ?_ ?_ 0 ((0, 0), (am_J, am_J)) h (by omega) ⟨by omega, rfl, rfl, fun _ => rfl, fun q => absurd rfl q⟩
  · intro i x h' hi ⟨i0, e1, ex, ey0, ey⟩
    subst e1
    obtain ⟨⟨x, y⟩, v4, v5⟩ := x
    simp only at ex ey0 ey
    have yb : 0 ≤ y ∧ y ≤ 192 := by
      by_cases q : i = 0
      · rw [ey0 q]; omega
      · rw [ey q]; have := tb x; omega
    have wi : wr i = i := wr_id (by omega) (by omega)
    have st2 := b_X11_commonest_24 (a0 := 2) (x1 := x) (x2 := y) (v4 := v4) (v5 := v5) (h := h') wi
    rw [if_neg (by omega)] at st2
    have in1 := lp (m := m_X11_commonest) (pc := 36) (L := fun j (u : Int) => [.ref 2, .int (mI x), .int (mI y), .int (mI i), .int (mI u), .int (mI j)]) (N := tz σ 7) (P := fun q => q = rn m_X11_commonest 24 (if tpm σ i (tz σ 7).toNat ≤ y then [.ref 2, .int (mI x), .int (mI y), .int (mI (i + 1)), .int (mI (tpm σ i (tz σ 7).toNat)), .int (mI (tz σ 7))] else [.ref 2, .int (mI i), .int (mI (tpm σ i (tz σ 7).toNat)), .int (mI (i + 1)), .int (mI (tpm σ i (tz σ 7).toNat)), .int (mI (tz σ 7))]) [] h') (fun j u h2 => 0 ≤ j ∧ h2 = h' ∧ u = tpm σ i j.toNat) ?_ ?_ 0 0 h' (by omega) ⟨by omega, rfl, rfl⟩
    · rw [in1] at st2
      by_cases q : tpm σ i (tz σ 7).toNat ≤ y
      · rw [if_pos q] at st2
        refine ⟨((x, y), (_, _)), h', st2, by omega, rfl, ?_, fun w => by omega, fun _ => ?_⟩
        · rw [show (i + 1).toNat = i.toNat + 1 by omega]
          unfold fgr
          rw [← ex, show ((i.toNat : Nat) : Int) = i by omega]
          by_cases q0 : i = 0
          · have := ey0 q0
            have t0 := tb i
            subst q0
            have ex0 : x = 0 := ex
            show x = _
            rw [ex0, if_neg (Int.lt_irrefl _)]
          · have := ey q0
            rw [if_neg (by rw [← this]; omega)]
        · by_cases q0 : i = 0
          · have := ey0 q0
            have t0 := tb i
            subst q0
            have ex0 : x = 0 := ex
            simp only
            rw [ex0]
            omega
          · exact ey q0
      · rw [if_neg q] at st2
        refine ⟨((i, tpm σ i (tz σ 7).toNat), (_, _)), h', st2, by omega, rfl, ?_, fun w => by omega, fun _ => rfl⟩
        rw [show (i + 1).toNat = i.toNat + 1 by omega]
        unfold fgr
        rw [← ex, show ((i.toNat : Nat) : Int) = i by omega]
        by_cases q0 : i = 0
        · subst q0
          have ex0 : x = 0 := ex
          rw [ex0]
          split <;> rfl
        · have := ey q0
          rw [if_pos (by rw [← this]; omega)]
    · intro j u h2 hj ⟨j0, e2, eu⟩
      subst e2
      have wj : wr j = j := wr_id (by omega) (by omega)
      have ub := tpm_b σ i j.toNat
      have st3 := b_X11_commonest_36 (a0 := 2) (x1 := x) (x2 := y) (x3 := i) (x4 := u) (h := h2) (wr_id (z := y) (by omega) (by omega)) (wr_id (z := u) (by omega) (by omega)) wj rc.1
      obtain ⟨Q, eq, qc⟩ := PA_good rc wf wj ⟨j0, hj⟩
      rw [en, if_neg (by omega), eq, cl_v, b_X11_commonest_53 qc.1, pIM_ok qc (by omega), cl_v, b_X11_commonest_57] at st3
      refine ⟨_, h2, st3, by omega, rfl, ?_⟩
      rw [eu]
      unfold tpm
      rw [sm_succ j0]
    · intro u h2 ⟨j0, e2, eu⟩
      subst e2
      have ub := tb i
      have st3 := b_X11_commonest_36 (a0 := 2) (x1 := x) (x2 := y) (x3 := i) (x4 := u) (h := h2) (wr_id (z := y) (by omega) (by omega)) (wr_id (z := u) (by omega) (by omega)) (wr_id (z := tz σ 7) (by omega) (by omega)) rc.1
      rw [en, if_pos (by omega), eu] at st3
      rw [eu, st3]
      split <;> rfl
  · intro x h' ⟨i0, e1, ex, ey0, ey⟩
    subst e1
    obtain ⟨⟨x, y⟩, v4, v5⟩ := x
    have st2 := b_X11_commonest_24 (a0 := 2) (x1 := x) (x2 := y) (v4 := v4) (v5 := v5) (h := h') (wr_id (z := 7) (by omega) (by omega))
    rw [if_pos (by omega)] at st2
    simp only at ex
    refine st2.trans ?_
    rw [ex, show (7 : Int).toNat = 7 by decide]
end QD
