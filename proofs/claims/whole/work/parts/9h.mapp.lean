/-! ===== the model with one picture more ===== -/
def SAp : Nat → Nat → Prop := fun a k => (a = 51 ∧ (k < 3 ∨ k = 8 ∨ k = 9 ∨ (26 ≤ k ∧ k ≤ 38))) ∨ (53 ≤ a ∧ a ≤ 71)
section MA
variable {σ : St} {h h' : am_H} {D : Nat} {c : Int}
theorem RM_app {cc ss : Nat} {z : Nat → Int} {d : Nat → Int → Int} {bt q : Int} (F : Fr SAp cc ss h h') (rm : RM σ h D) (b8 : 0 ≤ tz σ 8 ∧ tz σ 8 ≤ 3) (n7 : 0 ≤ tz σ 7) (e2 : fZ h' 51 2 = q) (e8 : fZ h' 51 8 = if tz σ 4 = 0 then -1 else bt) (e9 : fZ h' 51 9 = tz σ 7 + 1) (e26 : fZ h' 51 26 = if z 6 = 0 then tz σ 8 else min (tz σ 8 + 1) 3) (gz : ∀ a, 53 ≤ a → a ≤ 60 → ∀ i, i ≠ tz σ 7 → gZ h' a i = gZ h a i) (gj : ∀ i, i ≠ tz σ 7 → gJ h' 61 i = gJ h 61 i) (ga : ∀ a, 62 ≤ a → a ≤ 67 → a ≠ 64 → ∀ i, i ≠ tz σ 7 → gA h' a i = gA h a i) (g64 : ∀ i, i ≠ 2 * tz σ 7 → i ≠ 2 * tz σ 7 + 1 → gA h' 64 i = gA h 64 i) (g68 : ∀ j, 0 ≤ j → j < (if z 6 = 0 then tz σ 8 else min (tz σ 8 + 1) 3) → gZ h' 68 j = if z 6 = 0 then gZ h 68 j else if j = 0 then tz σ 7 else gZ h 68 (j - 1)) (pm : PM h' D (tz σ 7) z d) : RM (stK σ z d bt q) h' D := by
  obtain ⟨r1, al, r3, r4, r5, r6, r7⟩ := rm
  have nx := F.1.nx
  have nd : ∀ a k, dyn h D a → ¬ SAp a k := fun a k w q => by
    have := w.1
    unfold SAp at q
    omega
  obtain ⟨⟨s1, s2, s3, s4⟩, ⟨s5, s6, s7⟩, s8, s9⟩ := r4
  refine ⟨K10_fr F (by omega) r1, by omega, (frZ F (by omega) (by unfold SAp; omega)).trans r3, ⟨⟨e2, ?_, ?_, ?_⟩, ⟨?_, ?_, e8⟩, e9, e26⟩, fun j j0 j1 => ?_, fun i i0 i1 => ?_, ?_⟩
  · exact (F.1.fZ1 (by omega) (by unfold SAp; omega)).trans s2
  · exact (F.1.fZ1 (by omega) (by unfold SAp; omega)).trans s3
  · exact (F.1.fZ1 (by omega) (by unfold SAp; omega)).trans s4
  · exact (F.1.fZ1 (by omega) (by unfold SAp; omega)).trans s5
  · exact (F.1.fZ1 (by omega) (by unfold SAp; omega)).trans s6
  · have j1' : j < if z 6 = 0 then tz σ 8 else min (tz σ 8 + 1) 3 := j1
    show gZ h' 68 j = if z 6 = 0 then tk σ j else if j = 0 then tz σ 7 else tk σ (j - 1)
    rw [g68 j j0 j1']
    by_cases e : z 6 = 0
    · rw [if_pos e] at j1'
      rw [if_pos e, if_pos e]
      exact r5 j j0 j1'
    · rw [if_neg e] at j1'
      rw [if_neg e, if_neg e]
      by_cases e0 : j = 0
      · rw [if_pos e0, if_pos e0]
      · rw [if_neg e0, if_neg e0]
        exact r5 (j - 1) (by omega) (by omega)
  · have i1' : i < tz σ 7 + 1 := i1
    show PM h' D i (if i = tz σ 7 then z else tpz σ i) (if i = tz σ 7 then d else tpd σ i)
    by_cases e : i = tz σ 7
    · rw [if_pos e, if_pos e, e]
      exact pm
    · rw [if_neg e, if_neg e]
      obtain ⟨⟨q1, q2, q3, q4, q5, q6, q7, q8, q9⟩, ⟨B, b1, b2⟩, ⟨⟨L, l1, l2, l3⟩, ⟨Z, z1, z2, z3⟩, ⟨O, o1, o2, o3⟩, V, v1, v2, v3⟩, ⟨U, u1, u2⟩, w⟩ := r6 i i0 (by omega)
      have gz' := fun a a0 a1 => gz a a0 a1 i e
      have ga' := fun a a0 a1 a2 => ga a a0 a1 a2 i e
      have row : ∀ {a : Nat} {m : Int} {f : Int → Int}, isRow h D a m f → isRow h' D a m f := fun r => isRow_fr F (nd _ _ r.1) (dyn_fr F) r
      have dd := dyn_fr (D := D) F
      refine ⟨⟨(gz' 53 (by decide) (by decide)).trans q1, (gz' 54 (by decide) (by decide)).trans q2, (gz' 55 (by decide) (by decide)).trans q3, (gz' 56 (by decide) (by decide)).trans q4, (gz' 57 (by decide) (by decide)).trans q5, (gz' 58 (by decide) (by decide)).trans q6, (gz' 59 (by decide) (by decide)).trans q7, (gz' 60 (by decide) (by decide)).trans q8, (gj i e).trans q9⟩, ⟨B, (ga' 62 (by decide) (by decide) (by decide)).trans b1, row b2⟩, ⟨⟨L, (ga' 63 (by decide) (by decide) (by decide)).trans l1, dd _ l2, ?_, ?_⟩, ⟨Z, (ga' 65 (by decide) (by decide) (by decide)).trans z1, dd _ z2, ?_, ?_⟩, ⟨O, (ga' 66 (by decide) (by decide) (by decide)).trans o1, dd _ o2, ?_, ?_⟩, V, (ga' 67 (by decide) (by decide) (by decide)).trans v1, dd _ v2, ?_, ?_⟩, ⟨U, (g64 (2 * i) (by omega) (by omega)).trans u1, row u2⟩, fun p => ?_⟩
      · exact ⟨(F.1.sh1 l2.2.1).trans l3.1.1, (F.1.gn1 l2.2.1).trans l3.1.2⟩
      · exact fun j j0 j1 => (F.1.gZ1 j l2.2.1 (nd _ _ l2)).trans (l3.2 j j0 j1)
      · exact ⟨(F.1.sh1 z2.2.1).trans z3.1.1, (F.1.gn1 z2.2.1).trans z3.1.2⟩
      · exact fun j j0 j1 => (F.1.gZ1 _ z2.2.1 (nd _ _ z2)).trans (z3.2 j j0 j1)
      · exact ⟨(F.1.sh1 o2.2.1).trans o3.1.1, (F.1.gn1 o2.2.1).trans o3.1.2⟩
      · exact fun j j0 j1 => (F.1.gZ1 _ o2.2.1 (nd _ _ o2)).trans (o3.2 j j0 j1)
      · exact ⟨(F.1.sh1 v2.2.1).trans v3.1.1, (F.1.gn1 v2.2.1).trans v3.1.2⟩
      · intro j j0 j1
        have e := fun k => F.1.gZ1 (a := V) k v2.2.1 (nd _ _ v2)
        rw [e, e, e, e]
        exact v3.2 j j0 j1
      · obtain ⟨Y, y1, y2⟩ := w p
        exact ⟨Y, (g64 (2 * i + 1) (by omega) (by omega)).trans y1, row y2⟩
  · exact RMd_fr (σ := σ) F (dyn_fr F) nd al (fun k h1 w => by unfold SAp at w; omega) (by unfold SAp; omega) (by unfold SAp; omega) r7
theorem i_X12_code_0 : am_i m_X12_code 0 = some (0, .iload_n 1, 1, [], 0) := rfl
theorem i_X12_code_1 : am_i m_X12_code 1 = some (1, .bipush 105, 2, [], 105) := rfl
theorem i_X12_code_3 : am_i m_X12_code 3 = some (3, .if_icmp .eq 21, 3, [], 0) := rfl
theorem i_X12_code_6 : am_i m_X12_code 6 = some (6, .iload_n 1, 1, [], 0) := rfl
theorem i_X12_code_7 : am_i m_X12_code 7 = some (7, .bipush 112, 2, [], 112) := rfl
theorem i_X12_code_9 : am_i m_X12_code 9 = some (9, .if_icmp .eq 15, 3, [], 0) := rfl
theorem i_X12_code_12 : am_i m_X12_code 12 = some (12, .iload_n 1, 1, [], 0) := rfl
theorem i_X12_code_13 : am_i m_X12_code 13 = some (13, .bipush 98, 2, [], 98) := rfl
theorem i_X12_code_15 : am_i m_X12_code 15 = some (15, .if_icmp .eq 9, 3, [], 0) := rfl
theorem i_X12_code_18 : am_i m_X12_code 18 = some (18, .aload_n 0, 1, [], 0) := rfl
theorem i_X12_code_19 : am_i m_X12_code 19 = some (19, .iconst 1, 1, [], 1) := rfl
theorem i_X12_code_20 : am_i m_X12_code 20 = some (20, .invokevirtual 299, 3, [34, 10], 0) := rfl
theorem i_X12_code_23 : am_i m_X12_code 23 = some (23, .ireturn, 1, [], 0) := rfl
theorem b_X12_code_0 {a0 : Nat} {x1 x2 x3 x1' : Int} {h : am_H} (w1 : wr x1 = x1') (k1 : K10 h a0) : rn m_X12_code 0 [.ref a0, .int (mI x1), .int (mI x2), .int (mI x3), am_J, am_J, am_J, am_J, am_J, am_J, am_J, am_J] [] h = if x1' = 105 then rn m_X12_code 24 [.ref a0, .int (mI x1), .int (mI x2), .int (mI x3), am_J, am_J, am_J, am_J, am_J, am_J, am_J, am_J] [] h else if x1' = 112 then rn m_X12_code 24 [.ref a0, .int (mI x1), .int (mI x2), .int (mI x3), am_J, am_J, am_J, am_J, am_J, am_J, am_J, am_J] [] h else if x1' = 98 then rn m_X12_code 24 [.ref a0, .int (mI x1), .int (mI x2), .int (mI x3), am_J, am_J, am_J, am_J, am_J, am_J, am_J, am_J] [] h else some (.inl (some (.int (mI 0))), uF 10 h a0 0 (.int (mI 1))) := by
  refine (tq_iload_n i_X12_code_0 rfl rfl).trans ?_
  refine (tq_bipush i_X12_code_1 rfl).trans ?_
  refine (tq_icmp_eq (pt := 24) i_X12_code_3 w1 w_105 (by decide) rfl).trans ?_
  refine ite_congr rfl (fun c1 => ?_) (fun c1 => ?_)
  · rfl
  · refine (tq_iload_n i_X12_code_6 rfl rfl).trans ?_
    refine (tq_bipush i_X12_code_7 rfl).trans ?_
    refine (tq_icmp_eq (pt := 24) i_X12_code_9 w1 w_112 (by decide) rfl).trans ?_
    refine ite_congr rfl (fun c2 => ?_) (fun c2 => ?_)
    · rfl
    · refine (tq_iload_n i_X12_code_12 rfl rfl).trans ?_
      refine (tq_bipush i_X12_code_13 rfl).trans ?_
      refine (tq_icmp_eq (pt := 24) i_X12_code_15 w1 w_98 (by decide) rfl).trans ?_
      refine ite_congr rfl (fun c3 => ?_) (fun c3 => ?_)
      · rfl
      · refine (tq_aload_n i_X12_code_18 rfl (isA_ref _) rfl).trans ?_
        refine (tq_iconst i_X12_code_19 rfl).trans ?_
        refine (c_X12_raises i_X12_code_20 (K10_s k1) (ltd d_X12_code (by decide)) stOk_0 rfl).trans ?_
        refine (congrArg (cl _ _ _ _) (b_X12_raises_0 k1)).trans ?_
        refine (cl_v _ _ _ _ _ _).trans ?_
        exact tq_ireturn i_X12_code_23 r_X12_code rfl
theorem i_X12_code_24 : am_i m_X12_code 24 = some (24, .iload_n 1, 1, [], 0) := rfl
theorem i_X12_code_25 : am_i m_X12_code 25 = some (25, .bipush 105, 2, [], 105) := rfl
theorem i_X12_code_27 : am_i m_X12_code 27 = some (27, .if_icmp .eq 17, 3, [], 0) := rfl
theorem i_X12_code_30 : am_i m_X12_code 30 = some (30, .iload_n 2, 1, [], 0) := rfl
theorem i_X12_code_31 : am_i m_X12_code 31 = some (31, .iconst 0, 1, [], 0) := rfl
theorem i_X12_code_32 : am_i m_X12_code 32 = some (32, .aload_n 0, 1, [], 0) := rfl
theorem i_X12_code_33 : am_i m_X12_code 33 = some (33, .getfield 302, 3, [10, 26, 0], 0) := rfl
theorem i_X12_code_36 : am_i m_X12_code 36 = some (36, .iconst 1, 1, [], 1) := rfl
theorem i_X12_code_37 : am_i m_X12_code 37 = some (37, .isub, 1, [], 0) := rfl
theorem i_X12_code_38 : am_i m_X12_code 38 = some (38, .invokestatic 113, 3, [27], 0) := rfl
theorem i_X12_code_41 : am_i m_X12_code 41 = some (41, .ifCond .eq 7, 3, [], 0) := rfl
theorem i_X12_code_44 : am_i m_X12_code 44 = some (44, .iconst 1, 1, [], 1) := rfl
theorem i_X12_code_45 : am_i m_X12_code 45 = some (45, .goto 4, 3, [], 0) := rfl
theorem i_X12_code_48 : am_i m_X12_code 48 = some (48, .iconst 0, 1, [], 0) := rfl
theorem i_X12_code_49 : am_i m_X12_code 49 = some (49, .istore 4, 2, [], 0) := rfl
theorem i_X12_code_51 : am_i m_X12_code 51 = some (51, .iload_n 1, 1, [], 0) := rfl
theorem i_X12_code_52 : am_i m_X12_code 52 = some (52, .bipush 98, 2, [], 98) := rfl
theorem i_X12_code_54 : am_i m_X12_code 54 = some (54, .if_icmp .ne 17, 3, [], 0) := rfl
theorem i_X12_code_57 : am_i m_X12_code 57 = some (57, .iload_n 3, 1, [], 0) := rfl
theorem i_X12_code_58 : am_i m_X12_code 58 = some (58, .iconst 0, 1, [], 0) := rfl
theorem i_X12_code_59 : am_i m_X12_code 59 = some (59, .aload_n 0, 1, [], 0) := rfl
theorem i_X12_code_60 : am_i m_X12_code 60 = some (60, .getfield 302, 3, [10, 26, 0], 0) := rfl
theorem i_X12_code_63 : am_i m_X12_code 63 = some (63, .iconst 1, 1, [], 1) := rfl
theorem i_X12_code_64 : am_i m_X12_code 64 = some (64, .isub, 1, [], 0) := rfl
theorem i_X12_code_65 : am_i m_X12_code 65 = some (65, .invokestatic 113, 3, [27], 0) := rfl
theorem i_X12_code_68 : am_i m_X12_code 68 = some (68, .ifCond .eq 7, 3, [], 0) := rfl
theorem i_X12_code_71 : am_i m_X12_code 71 = some (71, .iconst 1, 1, [], 1) := rfl
theorem i_X12_code_72 : am_i m_X12_code 72 = some (72, .goto 4, 3, [], 0) := rfl
theorem i_X12_code_75 : am_i m_X12_code 75 = some (75, .iconst 0, 1, [], 0) := rfl
theorem i_X12_code_76 : am_i m_X12_code 76 = some (76, .istore 5, 2, [], 0) := rfl
theorem i_X12_code_78 : am_i m_X12_code 78 = some (78, .aload_n 0, 1, [], 0) := rfl
theorem i_X12_code_79 : am_i m_X12_code 79 = some (79, .iload 4, 2, [], 0) := rfl
theorem i_X12_code_81 : am_i m_X12_code 81 = some (81, .ifCond .eq 8, 3, [], 0) := rfl
theorem i_X12_code_84 : am_i m_X12_code 84 = some (84, .iload 5, 2, [], 0) := rfl
theorem i_X12_code_86 : am_i m_X12_code 86 = some (86, .ifCond .ne 7, 3, [], 0) := rfl
theorem i_X12_code_89 : am_i m_X12_code 89 = some (89, .iconst 2, 1, [], 2) := rfl
theorem i_X12_code_90 : am_i m_X12_code 90 = some (90, .goto 17, 3, [], 0) := rfl
theorem i_X12_code_93 : am_i m_X12_code 93 = some (93, .aload_n 0, 1, [], 0) := rfl
theorem i_X12_code_94 : am_i m_X12_code 94 = some (94, .getfield 305, 3, [10, 9, 0], 0) := rfl
theorem i_X12_code_97 : am_i m_X12_code 97 = some (97, .bipush 12, 2, [], 12) := rfl
theorem i_X12_code_99 : am_i m_X12_code 99 = some (99, .if_icmp .ne 7, 3, [], 0) := rfl
theorem i_X12_code_102 : am_i m_X12_code 102 = some (102, .iconst 3, 1, [], 3) := rfl
theorem i_X12_code_103 : am_i m_X12_code 103 = some (103, .goto 4, 3, [], 0) := rfl
theorem i_X12_code_106 : am_i m_X12_code 106 = some (106, .iconst 0, 1, [], 0) := rfl
theorem i_X12_code_107 : am_i m_X12_code 107 = some (107, .putfield 110, 3, [10, 0, 0], 0) := rfl
theorem i_X12_code_110 : am_i m_X12_code 110 = some (110, .aload_n 0, 1, [], 0) := rfl
theorem i_X12_code_111 : am_i m_X12_code 111 = some (111, .getfield 110, 3, [10, 0, 0], 0) := rfl
theorem i_X12_code_114 : am_i m_X12_code 114 = some (114, .ifCond .le 5, 3, [], 0) := rfl
theorem i_X12_code_117 : am_i m_X12_code 117 = some (117, .iconst 0, 1, [], 0) := rfl
theorem i_X12_code_118 : am_i m_X12_code 118 = some (118, .ireturn, 1, [], 0) := rfl
theorem b_X12_code_24 {a0 : Nat} {x1 x2 x3 x1' x2' x3' : Int} {v4 v5 v6 v7 v8 v9 v10 v11 : Value} {h : am_H} (w1 : wr x1 = x1') (w2 : wr x2 = x2') (w3 : wr x3 = x3') (k1 : K10 h a0) : rn m_X12_code 24 [.ref a0, .int (mI x1), .int (mI x2), .int (mI x3), v4, v5, v6, v7, v8, v9, v10, v11] [] h = if (if ((x1' = 105) ∨ ((¬ (x2' < 0) ∧ (¬ ((wr ((fZ h a0 26) - 1)) < x2'))))) then ((if ((¬ x1' = 98) ∨ ((¬ (x3' < 0) ∧ (¬ ((wr ((fZ h a0 26) - 1)) < x3'))))) then ((if ¬ (fZ h a0 9) = 12 then (0 : Int) else 3) : Int) else 2) : Int) else 2) ≤ 0 then rn m_X12_code 119 [.ref a0, .int (mI x1), .int (mI x2), .int (mI x3), .int (mI (bZ ((x1' = 105) ∨ ((¬ (x2' < 0) ∧ (¬ ((wr ((fZ h a0 26) - 1)) < x2'))))))), .int (mI (bZ ((¬ x1' = 98) ∨ ((¬ (x3' < 0) ∧ (¬ ((wr ((fZ h a0 26) - 1)) < x3'))))))), v6, v7, v8, v9, v10, v11] [] (uF 10 h a0 0 (.int (mI (if ((x1' = 105) ∨ ((¬ (x2' < 0) ∧ (¬ ((wr ((fZ h a0 26) - 1)) < x2'))))) then ((if ((¬ x1' = 98) ∨ ((¬ (x3' < 0) ∧ (¬ ((wr ((fZ h a0 26) - 1)) < x3'))))) then ((if ¬ (fZ h a0 9) = 12 then (0 : Int) else 3) : Int) else 2) : Int) else 2)))) else some (.inl (some (.int (mI 0))), uF 10 h a0 0 (.int (mI (if ((x1' = 105) ∨ ((¬ (x2' < 0) ∧ (¬ ((wr ((fZ h a0 26) - 1)) < x2'))))) then ((if ((¬ x1' = 98) ∨ ((¬ (x3' < 0) ∧ (¬ ((wr ((fZ h a0 26) - 1)) < x3'))))) then ((if ¬ (fZ h a0 9) = 12 then (0 : Int) else 3) : Int) else 2) : Int) else 2)))) := by
  refine (tq_iload_n i_X12_code_24 rfl rfl).trans ?_
  refine (tq_bipush i_X12_code_25 rfl).trans ?_
  refine (tq_icmp_eq (pt := 44) i_X12_code_27 w1 w_105 (by decide) rfl).trans ?_
  refine Eq.trans (b := if x1' = 105 then rn m_X12_code 49 [.ref a0, .int (mI x1), .int (mI x2), .int (mI x3), v4, v5, v6, v7, v8, v9, v10, v11] [.int (mI 1)] h else rn m_X12_code 49 [.ref a0, .int (mI x1), .int (mI x2), .int (mI x3), v4, v5, v6, v7, v8, v9, v10, v11] [.int (mI (bZ ((¬ (x2' < 0) ∧ (¬ ((wr ((fZ h a0 26) - 1)) < x2'))))))] h) (ite_congr rfl (fun c1 => ?_) (fun c1 => ?_)) ?_
  · refine (tq_iconst i_X12_code_44 rfl).trans ?_
    refine (tq_goto (pc' := 49) i_X12_code_45 (by decide)).trans ?_
    rfl
  · refine (tq_iload_n i_X12_code_30 rfl rfl).trans ?_
    refine (tq_iconst i_X12_code_31 rfl).trans ?_
    refine (tq_aload_n i_X12_code_32 rfl (isA_ref _) rfl).trans ?_
    refine (tq_getfield i_X12_code_33 (K10_s k1) (g_10_26 (K10_s k1)) (isV_I _) rfl).trans ?_
    refine (tq_iconst i_X12_code_36 rfl).trans ?_
    refine (tq_isub i_X12_code_37 rfl).trans ?_
    refine (c_X12_in i_X12_code_38 (ltd d_X12_code (by decide)) stOk_0 rfl).trans ?_
    refine (congrArg (cl _ _ _ _) (b_X12_in_0 w2 w_0 rfl)).trans ?_
    refine (cl_v _ _ _ _ _ _).trans ?_
    refine (tq_ifb_eq (pt := 48) i_X12_code_41 (by decide) rfl).trans ?_
    refine Eq.trans (b := if (¬ (x2' < 0) ∧ (¬ ((wr ((fZ h a0 26) - 1)) < x2'))) then rn m_X12_code 49 [.ref a0, .int (mI x1), .int (mI x2), .int (mI x3), v4, v5, v6, v7, v8, v9, v10, v11] [.int (mI 1)] h else rn m_X12_code 49 [.ref a0, .int (mI x1), .int (mI x2), .int (mI x3), v4, v5, v6, v7, v8, v9, v10, v11] [.int (mI 0)] h) (ite_congr rfl (fun c2 => ?_) (fun c2 => ?_)) ?_
    · refine (tq_iconst i_X12_code_44 rfl).trans ?_
      refine (tq_goto (pc' := 49) i_X12_code_45 (by decide)).trans ?_
      rfl
    · refine (tq_iconst i_X12_code_48 rfl).trans ?_
      rfl
    exact ite_b10
  refine Eq.trans ite_b1p ?_
  refine (tq_istore (L' := [.ref a0, .int (mI x1), .int (mI x2), .int (mI x3), .int (mI (bZ ((x1' = 105) ∨ ((¬ (x2' < 0) ∧ (¬ ((wr ((fZ h a0 26) - 1)) < x2'))))))), v5, v6, v7, v8, v9, v10, v11]) i_X12_code_49 rfl rfl).trans ?_
  refine (tq_iload_n i_X12_code_51 rfl rfl).trans ?_
  refine (tq_bipush i_X12_code_52 rfl).trans ?_
  refine (tq_icmp_ne (pt := 71) i_X12_code_54 w1 w_98 (by decide) rfl).trans ?_
  refine Eq.trans (b := if ¬ x1' = 98 then rn m_X12_code 76 [.ref a0, .int (mI x1), .int (mI x2), .int (mI x3), .int (mI (bZ ((x1' = 105) ∨ ((¬ (x2' < 0) ∧ (¬ ((wr ((fZ h a0 26) - 1)) < x2'))))))), v5, v6, v7, v8, v9, v10, v11] [.int (mI 1)] h else rn m_X12_code 76 [.ref a0, .int (mI x1), .int (mI x2), .int (mI x3), .int (mI (bZ ((x1' = 105) ∨ ((¬ (x2' < 0) ∧ (¬ ((wr ((fZ h a0 26) - 1)) < x2'))))))), v5, v6, v7, v8, v9, v10, v11] [.int (mI (bZ ((¬ (x3' < 0) ∧ (¬ ((wr ((fZ h a0 26) - 1)) < x3'))))))] h) (ite_congr rfl (fun c3 => ?_) (fun c3 => ?_)) ?_
  · refine (tq_iconst i_X12_code_71 rfl).trans ?_
    refine (tq_goto (pc' := 76) i_X12_code_72 (by decide)).trans ?_
    rfl
  · refine (tq_iload_n i_X12_code_57 rfl rfl).trans ?_
    refine (tq_iconst i_X12_code_58 rfl).trans ?_
    refine (tq_aload_n i_X12_code_59 rfl (isA_ref _) rfl).trans ?_
    refine (tq_getfield i_X12_code_60 (K10_s k1) (g_10_26 (K10_s k1)) (isV_I _) rfl).trans ?_
    refine (tq_iconst i_X12_code_63 rfl).trans ?_
    refine (tq_isub i_X12_code_64 rfl).trans ?_
    refine (c_X12_in i_X12_code_65 (ltd d_X12_code (by decide)) stOk_0 rfl).trans ?_
    refine (congrArg (cl _ _ _ _) (b_X12_in_0 w3 w_0 rfl)).trans ?_
    refine (cl_v _ _ _ _ _ _).trans ?_
    refine (tq_ifb_eq (pt := 75) i_X12_code_68 (by decide) rfl).trans ?_
    refine Eq.trans (b := if (¬ (x3' < 0) ∧ (¬ ((wr ((fZ h a0 26) - 1)) < x3'))) then rn m_X12_code 76 [.ref a0, .int (mI x1), .int (mI x2), .int (mI x3), .int (mI (bZ ((x1' = 105) ∨ ((¬ (x2' < 0) ∧ (¬ ((wr ((fZ h a0 26) - 1)) < x2'))))))), v5, v6, v7, v8, v9, v10, v11] [.int (mI 1)] h else rn m_X12_code 76 [.ref a0, .int (mI x1), .int (mI x2), .int (mI x3), .int (mI (bZ ((x1' = 105) ∨ ((¬ (x2' < 0) ∧ (¬ ((wr ((fZ h a0 26) - 1)) < x2'))))))), v5, v6, v7, v8, v9, v10, v11] [.int (mI 0)] h) (ite_congr rfl (fun c4 => ?_) (fun c4 => ?_)) ?_
    · refine (tq_iconst i_X12_code_71 rfl).trans ?_
      refine (tq_goto (pc' := 76) i_X12_code_72 (by decide)).trans ?_
      rfl
    · refine (tq_iconst i_X12_code_75 rfl).trans ?_
      rfl
    exact ite_b10
  refine Eq.trans ite_b1p ?_
  refine (tq_istore (L' := [.ref a0, .int (mI x1), .int (mI x2), .int (mI x3), .int (mI (bZ ((x1' = 105) ∨ ((¬ (x2' < 0) ∧ (¬ ((wr ((fZ h a0 26) - 1)) < x2'))))))), .int (mI (bZ ((¬ x1' = 98) ∨ ((¬ (x3' < 0) ∧ (¬ ((wr ((fZ h a0 26) - 1)) < x3'))))))), v6, v7, v8, v9, v10, v11]) i_X12_code_76 rfl rfl).trans ?_
  refine (tq_aload_n i_X12_code_78 rfl (isA_ref _) rfl).trans ?_
  refine (tq_iload i_X12_code_79 rfl rfl).trans ?_
  refine (tq_ifb_eq (pt := 89) i_X12_code_81 (by decide) rfl).trans ?_
  refine Eq.trans (b := if ((x1' = 105) ∨ ((¬ (x2' < 0) ∧ (¬ ((wr ((fZ h a0 26) - 1)) < x2'))))) then rn m_X12_code 107 [.ref a0, .int (mI x1), .int (mI x2), .int (mI x3), .int (mI (bZ ((x1' = 105) ∨ ((¬ (x2' < 0) ∧ (¬ ((wr ((fZ h a0 26) - 1)) < x2'))))))), .int (mI (bZ ((¬ x1' = 98) ∨ ((¬ (x3' < 0) ∧ (¬ ((wr ((fZ h a0 26) - 1)) < x3'))))))), v6, v7, v8, v9, v10, v11] [.int (mI (if ((¬ x1' = 98) ∨ ((¬ (x3' < 0) ∧ (¬ ((wr ((fZ h a0 26) - 1)) < x3'))))) then ((if ¬ (fZ h a0 9) = 12 then (0 : Int) else 3) : Int) else 2)), .ref a0] h else rn m_X12_code 107 [.ref a0, .int (mI x1), .int (mI x2), .int (mI x3), .int (mI (bZ ((x1' = 105) ∨ ((¬ (x2' < 0) ∧ (¬ ((wr ((fZ h a0 26) - 1)) < x2'))))))), .int (mI (bZ ((¬ x1' = 98) ∨ ((¬ (x3' < 0) ∧ (¬ ((wr ((fZ h a0 26) - 1)) < x3'))))))), v6, v7, v8, v9, v10, v11] [.int (mI 2), .ref a0] h) (ite_congr rfl (fun c5 => ?_) (fun c5 => ?_)) ?_
  · refine (tq_iload i_X12_code_84 rfl rfl).trans ?_
    refine (tq_ifb_ne (pt := 93) i_X12_code_86 (by decide) rfl).trans ?_
    refine Eq.trans (b := if ((¬ x1' = 98) ∨ ((¬ (x3' < 0) ∧ (¬ ((wr ((fZ h a0 26) - 1)) < x3'))))) then rn m_X12_code 107 [.ref a0, .int (mI x1), .int (mI x2), .int (mI x3), .int (mI (bZ ((x1' = 105) ∨ ((¬ (x2' < 0) ∧ (¬ ((wr ((fZ h a0 26) - 1)) < x2'))))))), .int (mI (bZ ((¬ x1' = 98) ∨ ((¬ (x3' < 0) ∧ (¬ ((wr ((fZ h a0 26) - 1)) < x3'))))))), v6, v7, v8, v9, v10, v11] [.int (mI (if ¬ (fZ h a0 9) = 12 then (0 : Int) else 3)), .ref a0] h else rn m_X12_code 107 [.ref a0, .int (mI x1), .int (mI x2), .int (mI x3), .int (mI (bZ ((x1' = 105) ∨ ((¬ (x2' < 0) ∧ (¬ ((wr ((fZ h a0 26) - 1)) < x2'))))))), .int (mI (bZ ((¬ x1' = 98) ∨ ((¬ (x3' < 0) ∧ (¬ ((wr ((fZ h a0 26) - 1)) < x3'))))))), v6, v7, v8, v9, v10, v11] [.int (mI 2), .ref a0] h) (ite_congr rfl (fun c6 => ?_) (fun c6 => ?_)) ?_
    · refine (tq_aload_n i_X12_code_93 rfl (isA_ref _) rfl).trans ?_
      refine (tq_getfield i_X12_code_94 (K10_s k1) (g_10_9 (K10_s k1)) (isV_I _) rfl).trans ?_
      refine (tq_bipush i_X12_code_97 rfl).trans ?_
      refine (tq_icmp_ne (pt := 106) i_X12_code_99 (wr_fZ _ _ _) w_12 (by decide) rfl).trans ?_
      refine Eq.trans (b := if ¬ (fZ h a0 9) = 12 then rn m_X12_code 107 [.ref a0, .int (mI x1), .int (mI x2), .int (mI x3), .int (mI (bZ ((x1' = 105) ∨ ((¬ (x2' < 0) ∧ (¬ ((wr ((fZ h a0 26) - 1)) < x2'))))))), .int (mI (bZ ((¬ x1' = 98) ∨ ((¬ (x3' < 0) ∧ (¬ ((wr ((fZ h a0 26) - 1)) < x3'))))))), v6, v7, v8, v9, v10, v11] [.int (mI 0), .ref a0] h else rn m_X12_code 107 [.ref a0, .int (mI x1), .int (mI x2), .int (mI x3), .int (mI (bZ ((x1' = 105) ∨ ((¬ (x2' < 0) ∧ (¬ ((wr ((fZ h a0 26) - 1)) < x2'))))))), .int (mI (bZ ((¬ x1' = 98) ∨ ((¬ (x3' < 0) ∧ (¬ ((wr ((fZ h a0 26) - 1)) < x3'))))))), v6, v7, v8, v9, v10, v11] [.int (mI 3), .ref a0] h) (ite_congr rfl (fun c7 => ?_) (fun c7 => ?_)) ?_
      · refine (tq_iconst i_X12_code_106 rfl).trans ?_
        rfl
      · refine (tq_iconst i_X12_code_102 rfl).trans ?_
        refine (tq_goto (pc' := 107) i_X12_code_103 (by decide)).trans ?_
        rfl
      exact ite_I
    · refine (tq_iconst i_X12_code_89 rfl).trans ?_
      refine (tq_goto (pc' := 107) i_X12_code_90 (by decide)).trans ?_
      rfl
    exact ite_I
  · refine (tq_iconst i_X12_code_89 rfl).trans ?_
    refine (tq_goto (pc' := 107) i_X12_code_90 (by decide)).trans ?_
    rfl
  refine Eq.trans ite_I ?_
  refine (tq_putfield i_X12_code_107 (K10_s k1) (okf_10_0 _) rfl).trans ?_
  refine (tq_aload_n i_X12_code_110 rfl (isA_ref _) rfl).trans ?_
  refine (tq_getfield i_X12_code_111 ((sh_uF _ _ _ _ _ _).trans (K10_s k1)) (gV_uF_eq (K10_s k1) (okf_10_0 _)) (isV_I _) rfl).trans ?_
  refine (tq_if_le (pt := 119) i_X12_code_114 (wr_ite (wr_ite (wr_ite w_0 w_3) w_2) w_2) (by decide) rfl).trans ?_
  refine ite_congr rfl (fun c8 => ?_) (fun c8 => ?_)
  · rfl
  · refine (tq_iconst i_X12_code_117 rfl).trans ?_
    exact tq_ireturn i_X12_code_118 r_X12_code rfl
theorem i_X12_code_119 : am_i m_X12_code 119 = some (119, .aload_n 0, 1, [], 0) := rfl
theorem i_X12_code_120 : am_i m_X12_code 120 = some (120, .iload_n 1, 1, [], 0) := rfl
theorem i_X12_code_121 : am_i m_X12_code 121 = some (121, .putfield 189, 3, [10, 33, 0], 0) := rfl
theorem i_X12_code_124 : am_i m_X12_code 124 = some (124, .aload_n 0, 1, [], 0) := rfl
theorem i_X12_code_125 : am_i m_X12_code 125 = some (125, .iload_n 1, 1, [], 0) := rfl
theorem i_X12_code_126 : am_i m_X12_code 126 = some (126, .bipush 105, 2, [], 105) := rfl
theorem i_X12_code_128 : am_i m_X12_code 128 = some (128, .if_icmp .ne 7, 3, [], 0) := rfl
theorem i_X12_code_131 : am_i m_X12_code 131 = some (131, .aconst_null, 1, [], 0) := rfl
theorem i_X12_code_132 : am_i m_X12_code 132 = some (132, .goto 14, 3, [], 0) := rfl
theorem i_X12_code_135 : am_i m_X12_code 135 = some (135, .aload_n 0, 1, [], 0) := rfl
theorem i_X12_code_136 : am_i m_X12_code 136 = some (136, .getfield 70, 3, [10, 19, 0], 0) := rfl
theorem i_X12_code_139 : am_i m_X12_code 139 = some (139, .aload_n 0, 1, [], 0) := rfl
theorem i_X12_code_140 : am_i m_X12_code 140 = some (140, .getfield 89, 3, [10, 25, 0], 0) := rfl
theorem i_X12_code_143 : am_i m_X12_code 143 = some (143, .iload_n 2, 1, [], 0) := rfl
theorem i_X12_code_144 : am_i m_X12_code 144 = some (144, .iaload, 1, [], 0) := rfl
theorem i_X12_code_145 : am_i m_X12_code 145 = some (145, .aaload, 1, [], 0) := rfl
theorem i_X12_code_146 : am_i m_X12_code 146 = some (146, .putfield 162, 3, [10, 28, 0], 0) := rfl
theorem b_X12_code_119 {a0 b_145 : Nat} {x1 x2 x3 x1' x2' : Int} {v4 v5 v6 v7 v8 v9 v10 v11 : Value} {h : am_H} (w1 : wr x1 = x1') (w2 : wr x2 = x2') (g1 : 0 ≤ x1' ∧ x1' ≤ 65535) (k2 : K10 h a0) (g3 : (¬ x1' = 105) → (0 ≤ x2' ∧ x2' < (3 : Int))) (g4 : (¬ x1' = 105) → (0 ≤ gZ (uF 10 h a0 33 (.int (mI x1))) (a0 + 17) x2' ∧ gZ (uF 10 h a0 33 (.int (mI x1))) (a0 + 17) x2' < (12 : Int))) (e5 : (¬ x1' = 105) → (gA (uF 10 h a0 33 (.int (mI x1))) (a0 + 11) (gZ (uF 10 h a0 33 (.int (mI x1))) (a0 + 17) x2') = some b_145)) : rn m_X12_code 119 [.ref a0, .int (mI x1), .int (mI x2), .int (mI x3), v4, v5, v6, v7, v8, v9, v10, v11] [] h = if ¬ x1' = 105 then rn m_X12_code 149 [.ref a0, .int (mI x1), .int (mI x2), .int (mI x3), v4, v5, v6, v7, v8, v9, v10, v11] [] (uF 10 (uF 10 h a0 33 (.int (mI x1))) a0 28 (.ref b_145)) else rn m_X12_code 149 [.ref a0, .int (mI x1), .int (mI x2), .int (mI x3), v4, v5, v6, v7, v8, v9, v10, v11] [] (uF 10 (uF 10 h a0 33 (.int (mI x1))) a0 28 (.null)) := by
  refine (tq_aload_n i_X12_code_119 rfl (isA_ref _) rfl).trans ?_
  refine (tq_iload_n i_X12_code_120 rfl rfl).trans ?_
  refine (tq_putfield i_X12_code_121 (K10_s k2) (okfC_10_33 w1 g1) rfl).trans ?_
  refine (tq_aload_n i_X12_code_124 rfl (isA_ref _) rfl).trans ?_
  refine (tq_iload_n i_X12_code_125 rfl rfl).trans ?_
  refine (tq_bipush i_X12_code_126 rfl).trans ?_
  refine (tq_icmp_ne (pt := 135) i_X12_code_128 w1 w_105 (by decide) rfl).trans ?_
  refine ite_congr rfl (fun c1 => ?_) (fun c1 => ?_)
  · refine (tq_aload_n i_X12_code_135 rfl (isA_ref _) rfl).trans ?_
    refine (tq_getfield i_X12_code_136 ((sh_uF _ _ _ _ _ _).trans (K10_s k2)) (gR ((g_10_19 ((sh_uF _ _ _ _ _ _).trans (K10_s k2))).trans (congrArg am_rv (fA_uF_nk (K10_s k2) (okfC_10_33 w1 g1) (by decide)))) (K10_e19 k2)) (isV_ref _) rfl).trans ?_
    refine (tq_aload_n i_X12_code_139 rfl (isA_ref _) rfl).trans ?_
    refine (tq_getfield i_X12_code_140 ((sh_uF _ _ _ _ _ _).trans (K10_s k2)) (gR ((g_10_25 ((sh_uF _ _ _ _ _ _).trans (K10_s k2))).trans (congrArg am_rv (fA_uF_nk (K10_s k2) (okfC_10_33 w1 g1) (by decide)))) (K10_e25 k2)) (isV_ref _) rfl).trans ?_
    refine (tq_iload_n i_X12_code_143 rfl rfl).trans ?_
    refine (tq_iaload i_X12_code_144 ((sh_uF _ _ _ _ _ _).trans (K10_s25 k2)) (by decide) w2 (g3 c1).1 (lt_gn ((gn_uF _ _ _ _ _ _).trans (K10_n25 k2)) (g3 c1).2) rfl).trans ?_
    refine (tq_aaload i_X12_code_145 ((sh_uF _ _ _ _ _ _).trans (K10_s19 k2)) (wr_gZ _ _ _) (g4 c1).1 (lt_gn ((gn_uF _ _ _ _ _ _).trans (K10_n19 k2)) (g4 c1).2) rfl).trans ?_
    rw [(e5 c1)]
    simp only [am_rv]
    refine (tq_putfield i_X12_code_146 ((sh_uF _ _ _ _ _ _).trans (K10_s k2)) (okfA_10_28 (isA_ref _)) rfl).trans ?_
    rfl
  · refine (tq_aconst_null i_X12_code_131 rfl).trans ?_
    refine (tq_goto (pc' := 146) i_X12_code_132 (by decide)).trans ?_
    refine (tq_putfield i_X12_code_146 ((sh_uF _ _ _ _ _ _).trans (K10_s k2)) (okfA_10_28 isA_null) rfl).trans ?_
    rfl
theorem i_X12_code_149 : am_i m_X12_code 149 = some (149, .aload_n 0, 1, [], 0) := rfl
theorem i_X12_code_150 : am_i m_X12_code 150 = some (150, .iload_n 1, 1, [], 0) := rfl
theorem i_X12_code_151 : am_i m_X12_code 151 = some (151, .bipush 98, 2, [], 98) := rfl
theorem i_X12_code_153 : am_i m_X12_code 153 = some (153, .if_icmp .ne 17, 3, [], 0) := rfl
theorem i_X12_code_156 : am_i m_X12_code 156 = some (156, .aload_n 0, 1, [], 0) := rfl
theorem i_X12_code_157 : am_i m_X12_code 157 = some (157, .getfield 70, 3, [10, 19, 0], 0) := rfl
theorem i_X12_code_160 : am_i m_X12_code 160 = some (160, .aload_n 0, 1, [], 0) := rfl
theorem i_X12_code_161 : am_i m_X12_code 161 = some (161, .getfield 89, 3, [10, 25, 0], 0) := rfl
theorem i_X12_code_164 : am_i m_X12_code 164 = some (164, .iload_n 3, 1, [], 0) := rfl
theorem i_X12_code_165 : am_i m_X12_code 165 = some (165, .iaload, 1, [], 0) := rfl
theorem i_X12_code_166 : am_i m_X12_code 166 = some (166, .aaload, 1, [], 0) := rfl
theorem i_X12_code_167 : am_i m_X12_code 167 = some (167, .goto 4, 3, [], 0) := rfl
theorem i_X12_code_170 : am_i m_X12_code 170 = some (170, .aconst_null, 1, [], 0) := rfl
theorem i_X12_code_171 : am_i m_X12_code 171 = some (171, .putfield 165, 3, [10, 29, 0], 0) := rfl
theorem b_X12_code_149 {a0 b_166 : Nat} {x1 x2 x3 x1' x3' : Int} {v4 v5 v6 v7 v8 v9 v10 v11 : Value} {h : am_H} (w1 : wr x1 = x1') (w3 : wr x3 = x3') (k1 : K10 h a0) (g2 : (¬ (¬ x1' = 98)) → (0 ≤ x3' ∧ x3' < (3 : Int))) (g3 : (¬ (¬ x1' = 98)) → (0 ≤ gZ h (a0 + 17) x3' ∧ gZ h (a0 + 17) x3' < (12 : Int))) (e4 : (¬ (¬ x1' = 98)) → (gA h (a0 + 11) (gZ h (a0 + 17) x3') = some b_166)) : rn m_X12_code 149 [.ref a0, .int (mI x1), .int (mI x2), .int (mI x3), v4, v5, v6, v7, v8, v9, v10, v11] [] h = if ¬ x1' = 98 then rn m_X12_code 174 [.ref a0, .int (mI x1), .int (mI x2), .int (mI x3), v4, v5, v6, v7, v8, v9, v10, v11] [] (uF 10 h a0 29 (.null)) else rn m_X12_code 174 [.ref a0, .int (mI x1), .int (mI x2), .int (mI x3), v4, v5, v6, v7, v8, v9, v10, v11] [] (uF 10 h a0 29 (.ref b_166)) := by
  refine (tq_aload_n i_X12_code_149 rfl (isA_ref _) rfl).trans ?_
  refine (tq_iload_n i_X12_code_150 rfl rfl).trans ?_
  refine (tq_bipush i_X12_code_151 rfl).trans ?_
  refine (tq_icmp_ne (pt := 170) i_X12_code_153 w1 w_98 (by decide) rfl).trans ?_
  refine ite_congr rfl (fun c1 => ?_) (fun c1 => ?_)
  · refine (tq_aconst_null i_X12_code_170 rfl).trans ?_
    refine (tq_putfield i_X12_code_171 (K10_s k1) (okfA_10_29 isA_null) rfl).trans ?_
    rfl
  · refine (tq_aload_n i_X12_code_156 rfl (isA_ref _) rfl).trans ?_
    refine (tq_getfield i_X12_code_157 (K10_s k1) (gR (g_10_19 (K10_s k1)) (K10_e19 k1)) (isV_ref _) rfl).trans ?_
    refine (tq_aload_n i_X12_code_160 rfl (isA_ref _) rfl).trans ?_
    refine (tq_getfield i_X12_code_161 (K10_s k1) (gR (g_10_25 (K10_s k1)) (K10_e25 k1)) (isV_ref _) rfl).trans ?_
    refine (tq_iload_n i_X12_code_164 rfl rfl).trans ?_
    refine (tq_iaload i_X12_code_165 (K10_s25 k1) (by decide) w3 (g2 c1).1 (lt_gn (K10_n25 k1) (g2 c1).2) rfl).trans ?_
    refine (tq_aaload i_X12_code_166 (K10_s19 k1) (wr_gZ _ _ _) (g3 c1).1 (lt_gn (K10_n19 k1) (g3 c1).2) rfl).trans ?_
    rw [(e4 c1)]
    simp only [am_rv]
    refine (tq_goto (pc' := 171) i_X12_code_167 (by decide)).trans ?_
    refine (tq_putfield i_X12_code_171 (K10_s k1) (okfA_10_29 (isA_ref _)) rfl).trans ?_
    rfl
theorem i_X12_code_174 : am_i m_X12_code 174 = some (174, .aload_n 0, 1, [], 0) := rfl
theorem i_X12_code_175 : am_i m_X12_code 175 = some (175, .sipush 256, 3, [], 256) := rfl
theorem i_X12_code_178 : am_i m_X12_code 178 = some (178, .newarray .int, 2, [], 0) := rfl
theorem b_X12_code_174 {a0 : Nat} {x1 x2 x3 : Int} {v4 v5 v6 v7 v8 v9 v10 v11 : Value} {h : am_H} : rn m_X12_code 174 [.ref a0, .int (mI x1), .int (mI x2), .int (mI x3), v4, v5, v6, v7, v8, v9, v10, v11] [] h = rn m_X12_code 180 [.ref a0, .int (mI x1), .int (mI x2), .int (mI x3), v4, v5, v6, v7, v8, v9, v10, v11] [.ref (hnx h), .ref a0] (aI 0 256 h) := by
  refine (tq_aload_n i_X12_code_174 rfl (isA_ref _) rfl).trans ?_
  refine (tq_sipush i_X12_code_175 rfl).trans ?_
  exact tq_newI (n := 256) (t := 0) i_X12_code_178 w_256 (by decide) rfl (by decide) rfl rfl
theorem i_X12_code_180 : am_i m_X12_code 180 = some (180, .putfield 155, 3, [10, 27, 0], 0) := rfl
theorem i_X12_code_183 : am_i m_X12_code 183 = some (183, .aload_n 0, 1, [], 0) := rfl
theorem i_X12_code_184 : am_i m_X12_code 184 = some (184, .bipush 16, 2, [], 16) := rfl
theorem i_X12_code_186 : am_i m_X12_code 186 = some (186, .newarray .int, 2, [], 0) := rfl
theorem b_X12_code_180 {a0 as0 as1 : Nat} {x1 x2 x3 : Int} {v4 v5 v6 v7 v8 v9 v10 v11 : Value} {h : am_H} (k1 : K10 h as1) : rn m_X12_code 180 [.ref a0, .int (mI x1), .int (mI x2), .int (mI x3), v4, v5, v6, v7, v8, v9, v10, v11] [.ref as0, .ref as1] h = rn m_X12_code 188 [.ref a0, .int (mI x1), .int (mI x2), .int (mI x3), v4, v5, v6, v7, v8, v9, v10, v11] [.ref (hnx (uF 10 h as1 27 (.ref as0))), .ref a0] (aI 0 16 (uF 10 h as1 27 (.ref as0))) := by
  refine (tq_putfield i_X12_code_180 (K10_s k1) (okfA_10_27 (isA_ref _)) rfl).trans ?_
  refine (tq_aload_n i_X12_code_183 rfl (isA_ref _) rfl).trans ?_
  refine (tq_bipush i_X12_code_184 rfl).trans ?_
  exact tq_newI (n := 16) (t := 0) i_X12_code_186 w_16 (by decide) rfl (by decide) rfl rfl
theorem i_X12_code_188 : am_i m_X12_code 188 = some (188, .putfield 258, 3, [10, 30, 0], 0) := rfl
theorem i_X12_code_191 : am_i m_X12_code 191 = some (191, .aload_n 0, 1, [], 0) := rfl
theorem i_X12_code_192 : am_i m_X12_code 192 = some (192, .bipush 64, 2, [], 64) := rfl
theorem i_X12_code_194 : am_i m_X12_code 194 = some (194, .newarray .int, 2, [], 0) := rfl
theorem b_X12_code_188 {a0 as0 as1 : Nat} {x1 x2 x3 : Int} {v4 v5 v6 v7 v8 v9 v10 v11 : Value} {h : am_H} (k1 : K10 h as1) : rn m_X12_code 188 [.ref a0, .int (mI x1), .int (mI x2), .int (mI x3), v4, v5, v6, v7, v8, v9, v10, v11] [.ref as0, .ref as1] h = rn m_X12_code 196 [.ref a0, .int (mI x1), .int (mI x2), .int (mI x3), v4, v5, v6, v7, v8, v9, v10, v11] [.ref (hnx (uF 10 h as1 30 (.ref as0))), .ref a0] (aI 0 64 (uF 10 h as1 30 (.ref as0))) := by
  refine (tq_putfield i_X12_code_188 (K10_s k1) (okfA_10_30 (isA_ref _)) rfl).trans ?_
  refine (tq_aload_n i_X12_code_191 rfl (isA_ref _) rfl).trans ?_
  refine (tq_bipush i_X12_code_192 rfl).trans ?_
  exact tq_newI (n := 64) (t := 0) i_X12_code_194 w_64 (by decide) rfl (by decide) rfl rfl
theorem i_X12_code_196 : am_i m_X12_code 196 = some (196, .putfield 168, 3, [10, 31, 0], 0) := rfl
theorem i_X12_code_199 : am_i m_X12_code 199 = some (199, .aload_n 0, 1, [], 0) := rfl
theorem i_X12_code_200 : am_i m_X12_code 200 = some (200, .sipush 256, 3, [], 256) := rfl
theorem i_X12_code_203 : am_i m_X12_code 203 = some (203, .newarray .int, 2, [], 0) := rfl
theorem b_X12_code_196 {a0 as0 as1 : Nat} {x1 x2 x3 : Int} {v4 v5 v6 v7 v8 v9 v10 v11 : Value} {h : am_H} (k1 : K10 h as1) : rn m_X12_code 196 [.ref a0, .int (mI x1), .int (mI x2), .int (mI x3), v4, v5, v6, v7, v8, v9, v10, v11] [.ref as0, .ref as1] h = rn m_X12_code 205 [.ref a0, .int (mI x1), .int (mI x2), .int (mI x3), v4, v5, v6, v7, v8, v9, v10, v11] [.ref (hnx (uF 10 h as1 31 (.ref as0))), .ref a0] (aI 0 256 (uF 10 h as1 31 (.ref as0))) := by
  refine (tq_putfield i_X12_code_196 (K10_s k1) (okfA_10_31 (isA_ref _)) rfl).trans ?_
  refine (tq_aload_n i_X12_code_199 rfl (isA_ref _) rfl).trans ?_
  refine (tq_sipush i_X12_code_200 rfl).trans ?_
  exact tq_newI (n := 256) (t := 0) i_X12_code_203 w_256 (by decide) rfl (by decide) rfl rfl
theorem i_X12_code_205 : am_i m_X12_code 205 = some (205, .putfield 205, 3, [10, 32, 0], 0) := rfl
theorem i_X12_code_208 : am_i m_X12_code 208 = some (208, .aload_n 0, 1, [], 0) := rfl
theorem i_X12_code_209 : am_i m_X12_code 209 = some (209, .invokevirtual 308, 3, [258, 10], 0) := rfl
theorem b_X12_code_205 {a0 as0 as1 : Nat} {x1 x2 x3 : Int} {v4 v5 v6 v7 v8 v9 v10 v11 : Value} {h : am_H} (k1 : K10 h as1) (k2 : K10 h a0) : rn m_X12_code 205 [.ref a0, .int (mI x1), .int (mI x2), .int (mI x3), v4, v5, v6, v7, v8, v9, v10, v11] [.ref as0, .ref as1] h = cl m_X12_code 212 [.ref a0, .int (mI x1), .int (mI x2), .int (mI x3), v4, v5, v6, v7, v8, v9, v10, v11] [] (rn m_X12_codesParts 0 [.ref a0, am_J, am_J, am_J, am_J, am_J, am_J] [] (uF 10 h as1 32 (.ref as0))) := by
  refine (tq_putfield i_X12_code_205 (K10_s k1) (okfA_10_32 (isA_ref _)) rfl).trans ?_
  refine (tq_aload_n i_X12_code_208 rfl (isA_ref _) rfl).trans ?_
  exact c_X12_codesParts i_X12_code_209 ((sh_uF _ _ _ _ _ _).trans (K10_s k2)) (ltd d_X12_code (by decide)) stOk_0 rfl
theorem i_X12_code_212 : am_i m_X12_code 212 = some (212, .astore 6, 2, [], 0) := rfl
theorem i_X12_code_214 : am_i m_X12_code 214 = some (214, .aload_n 0, 1, [], 0) := rfl
theorem i_X12_code_215 : am_i m_X12_code 215 = some (215, .iconst 0, 1, [], 0) := rfl
theorem i_X12_code_216 : am_i m_X12_code 216 = some (216, .aload 6, 2, [], 0) := rfl
theorem i_X12_code_218 : am_i m_X12_code 218 = some (218, .invokevirtual 312, 3, [187, 10], 0) := rfl
theorem b_X12_code_212 {a0 as0 : Nat} {x1 x2 x3 : Int} {v4 v5 v6 v7 v8 v9 v10 v11 : Value} {h : am_H} (k1 : K10 h a0) : rn m_X12_code 212 [.ref a0, .int (mI x1), .int (mI x2), .int (mI x3), v4, v5, v6, v7, v8, v9, v10, v11] [.ref as0] h = cl m_X12_code 221 [.ref a0, .int (mI x1), .int (mI x2), .int (mI x3), v4, (am_k1 v5), .ref as0, v7, v8, v9, v10, v11] [] (rn m_X12_slice 0 [.ref a0, .int (mI 0), .ref as0, am_J, am_J, am_J, am_J, am_J] [] h) := by
  refine (tq_astore (L' := [.ref a0, .int (mI x1), .int (mI x2), .int (mI x3), v4, (am_k1 v5), .ref as0, v7, v8, v9, v10, v11]) i_X12_code_212 (isA_ref _) rfl rfl).trans ?_
  refine (tq_aload_n i_X12_code_214 rfl (isA_ref _) rfl).trans ?_
  refine (tq_iconst i_X12_code_215 rfl).trans ?_
  refine (tq_aload i_X12_code_216 rfl (isA_ref _) rfl).trans ?_
  exact c_X12_slice i_X12_code_218 (K10_s k1) (ltd d_X12_code (by decide)) (isA_ref _) stOk_0 rfl
theorem i_X12_code_221 : am_i m_X12_code 221 = some (221, .astore 7, 2, [], 0) := rfl
theorem i_X12_code_223 : am_i m_X12_code 223 = some (223, .aload_n 0, 1, [], 0) := rfl
theorem i_X12_code_224 : am_i m_X12_code 224 = some (224, .getfield 29, 3, [10, 4, 0], 0) := rfl
theorem i_X12_code_227 : am_i m_X12_code 227 = some (227, .iconst 2, 1, [], 2) := rfl
theorem i_X12_code_228 : am_i m_X12_code 228 = some (228, .if_icmp .ne 13, 3, [], 0) := rfl
theorem i_X12_code_231 : am_i m_X12_code 231 = some (231, .aload_n 0, 1, [], 0) := rfl
theorem i_X12_code_232 : am_i m_X12_code 232 = some (232, .iconst 1, 1, [], 1) := rfl
theorem i_X12_code_233 : am_i m_X12_code 233 = some (233, .aload 6, 2, [], 0) := rfl
theorem i_X12_code_235 : am_i m_X12_code 235 = some (235, .invokevirtual 312, 3, [187, 10], 0) := rfl
theorem i_X12_code_241 : am_i m_X12_code 241 = some (241, .aconst_null, 1, [], 0) := rfl
theorem b_X12_code_221 {a0 a6 as0 : Nat} {x1 x2 x3 : Int} {v4 v5 v7 v8 v9 v10 v11 : Value} {h : am_H} (k1 : K10 h a0) : rn m_X12_code 221 [.ref a0, .int (mI x1), .int (mI x2), .int (mI x3), v4, v5, .ref a6, v7, v8, v9, v10, v11] [.ref as0] h = if ¬ (fZ h a0 4) = 2 then rn m_X12_code 242 [.ref a0, .int (mI x1), .int (mI x2), .int (mI x3), v4, v5, .ref a6, .ref as0, v8, v9, v10, v11] [.null] h else cl m_X12_code 238 [.ref a0, .int (mI x1), .int (mI x2), .int (mI x3), v4, v5, .ref a6, .ref as0, v8, v9, v10, v11] [] (rn m_X12_slice 0 [.ref a0, .int (mI 1), .ref a6, am_J, am_J, am_J, am_J, am_J] [] h) := by
  refine (tq_astore (L' := [.ref a0, .int (mI x1), .int (mI x2), .int (mI x3), v4, v5, .ref a6, .ref as0, v8, v9, v10, v11]) i_X12_code_221 (isA_ref _) rfl rfl).trans ?_
  refine (tq_aload_n i_X12_code_223 rfl (isA_ref _) rfl).trans ?_
  refine (tq_getfield i_X12_code_224 (K10_s k1) (g_10_4 (K10_s k1)) (isV_I _) rfl).trans ?_
  refine (tq_iconst i_X12_code_227 rfl).trans ?_
  refine (tq_icmp_ne (pt := 241) i_X12_code_228 (wr_fZ _ _ _) w_2 (by decide) rfl).trans ?_
  refine ite_congr rfl (fun c1 => ?_) (fun c1 => ?_)
  · refine (tq_aconst_null i_X12_code_241 rfl).trans ?_
    rfl
  · refine (tq_aload_n i_X12_code_231 rfl (isA_ref _) rfl).trans ?_
    refine (tq_iconst i_X12_code_232 rfl).trans ?_
    refine (tq_aload i_X12_code_233 rfl (isA_ref _) rfl).trans ?_
    exact c_X12_slice i_X12_code_235 (K10_s k1) (ltd d_X12_code (by decide)) (isA_ref _) stOk_0 rfl
theorem i_X12_code_238 : am_i m_X12_code 238 = some (238, .goto 4, 3, [], 0) := rfl
theorem b_X12_code_238 {a0 a6 a7 as0 : Nat} {x1 x2 x3 : Int} {v4 v5 v8 v9 v10 v11 : Value} {h : am_H} : rn m_X12_code 238 [.ref a0, .int (mI x1), .int (mI x2), .int (mI x3), v4, v5, .ref a6, .ref a7, v8, v9, v10, v11] [.ref as0] h = rn m_X12_code 242 [.ref a0, .int (mI x1), .int (mI x2), .int (mI x3), v4, v5, .ref a6, .ref a7, v8, v9, v10, v11] [.ref as0] h := by
  refine (tq_goto (pc' := 242) i_X12_code_238 (by decide)).trans ?_
  rfl
theorem i_X12_code_242 : am_i m_X12_code 242 = some (242, .astore 8, 2, [], 0) := rfl
theorem i_X12_code_244 : am_i m_X12_code 244 = some (244, .bipush 8, 2, [], 8) := rfl
theorem i_X12_code_246 : am_i m_X12_code 246 = some (246, .aload 7, 2, [], 0) := rfl
theorem i_X12_code_248 : am_i m_X12_code 248 = some (248, .arraylength, 1, [], 0) := rfl
theorem i_X12_code_249 : am_i m_X12_code 249 = some (249, .aload 8, 2, [], 0) := rfl
theorem i_X12_code_251 : am_i m_X12_code 251 = some (251, .ifnonnull 7, 3, [], 0) := rfl
theorem i_X12_code_254 : am_i m_X12_code 254 = some (254, .iconst 0, 1, [], 0) := rfl
theorem i_X12_code_255 : am_i m_X12_code 255 = some (255, .goto 6, 3, [], 0) := rfl
theorem i_X12_code_258 : am_i m_X12_code 258 = some (258, .aload 8, 2, [], 0) := rfl
theorem i_X12_code_260 : am_i m_X12_code 260 = some (260, .arraylength, 1, [], 0) := rfl
theorem i_X12_code_261 : am_i m_X12_code 261 = some (261, .iadd, 1, [], 0) := rfl
theorem i_X12_code_262 : am_i m_X12_code 262 = some (262, .imul, 1, [], 0) := rfl
theorem i_X12_code_263 : am_i m_X12_code 263 = some (263, .istore 9, 2, [], 0) := rfl
theorem b_X12_code_242 {a0 a6 a7 n_a7 z_rs0 n_z_rs0 : Nat} {x1 x2 x3 : Int} {v4 v5 v8 v9 v10 v11 : Value} {rs0 : Option Nat} {h : am_H} (n1 : gn h a7 = n_a7) (s2 : sh h a7 = (1, 0)) (e3 : (¬ rs0 = none) → (rs0 = some z_rs0)) (n4 : (¬ rs0 = none) → (gn h z_rs0 = n_z_rs0)) (s5 : (¬ rs0 = none) → (sh h z_rs0 = (1, 0))) : rn m_X12_code 242 [.ref a0, .int (mI x1), .int (mI x2), .int (mI x3), v4, v5, .ref a6, .ref a7, v8, v9, v10, v11] [am_rv rs0] h = rn m_X12_code 265 [.ref a0, .int (mI x1), .int (mI x2), .int (mI x3), v4, v5, .ref a6, .ref a7, am_rv rs0, .int (mI (8 * ((n_a7 : Int) + (if ¬ rs0 = none then ((n_z_rs0 : Int) : Int) else 0)))), v10, v11] [] h := by
  refine (tq_astore (L' := [.ref a0, .int (mI x1), .int (mI x2), .int (mI x3), v4, v5, .ref a6, .ref a7, am_rv rs0, v9, v10, v11]) i_X12_code_242 (isA_rv _) rfl rfl).trans ?_
  refine (tq_bipush i_X12_code_244 rfl).trans ?_
  refine (tq_aload i_X12_code_246 rfl (isA_ref _) rfl).trans ?_
  refine (tq_alen i_X12_code_248 s2 (by decide) (by decide) rfl).trans ?_
  rw [n1]
  refine (tq_aload i_X12_code_249 rfl (isA_rv _) rfl).trans ?_
  refine (tq_ifnonnull (pt := 258) i_X12_code_251 (by decide) rfl).trans ?_
  refine Eq.trans (b := if ¬ rs0 = none then rn m_X12_code 261 [.ref a0, .int (mI x1), .int (mI x2), .int (mI x3), v4, v5, .ref a6, .ref a7, am_rv rs0, v9, v10, v11] [.int (mI (n_z_rs0 : Int)), .int (mI (n_a7 : Int)), .int (mI 8)] h else rn m_X12_code 261 [.ref a0, .int (mI x1), .int (mI x2), .int (mI x3), v4, v5, .ref a6, .ref a7, am_rv rs0, v9, v10, v11] [.int (mI 0), .int (mI (n_a7 : Int)), .int (mI 8)] h) (ite_congr rfl (fun c1 => ?_) (fun c1 => ?_)) ?_
  · refine (tq_aload i_X12_code_258 rfl (isA_rv _) rfl).trans ?_
    rw [(e3 c1)]
    simp only [am_rv]
    refine (tq_alen i_X12_code_260 (s5 c1) (by decide) (by decide) rfl).trans ?_
    rw [(n4 c1)]
  · refine (tq_iconst i_X12_code_254 rfl).trans ?_
    refine (tq_goto (pc' := 261) i_X12_code_255 (by decide)).trans ?_
    rfl
  refine Eq.trans ite_I ?_
  refine (tq_iadd i_X12_code_261 rfl).trans ?_
  refine (tq_imul i_X12_code_262 rfl).trans ?_
  refine (tq_istore (L' := [.ref a0, .int (mI x1), .int (mI x2), .int (mI x3), v4, v5, .ref a6, .ref a7, am_rv rs0, .int (mI (8 * ((n_a7 : Int) + (if ¬ rs0 = none then ((n_z_rs0 : Int) : Int) else 0)))), v10, v11]) i_X12_code_263 (by simp only [am_st, am_s2, am_k1_rv]) rfl).trans ?_
  rfl
theorem i_X12_code_265 : am_i m_X12_code 265 = some (265, .iconst 0, 1, [], 0) := rfl
theorem i_X12_code_266 : am_i m_X12_code 266 = some (266, .aload_n 0, 1, [], 0) := rfl
theorem i_X12_code_267 : am_i m_X12_code 267 = some (267, .getfield 36, 3, [10, 8, 0], 0) := rfl
theorem i_X12_code_270 : am_i m_X12_code 270 = some (270, .aload_n 0, 1, [], 0) := rfl
theorem i_X12_code_271 : am_i m_X12_code 271 = some (271, .getfield 134, 3, [10, 7, 0], 0) := rfl
theorem i_X12_code_274 : am_i m_X12_code 274 = some (274, .isub, 1, [], 0) := rfl
theorem i_X12_code_275 : am_i m_X12_code 275 = some (275, .invokestatic 9, 3, [0, 1], 0) := rfl
theorem i_X12_code_278 : am_i m_X12_code 278 = some (278, .iload 9, 2, [], 0) := rfl
theorem i_X12_code_280 : am_i m_X12_code 280 = some (280, .iadd, 1, [], 0) := rfl
theorem i_X12_code_281 : am_i m_X12_code 281 = some (281, .istore 10, 2, [], 0) := rfl
theorem i_X12_code_283 : am_i m_X12_code 283 = some (283, .aload_n 0, 1, [], 0) := rfl
theorem i_X12_code_284 : am_i m_X12_code 284 = some (284, .getfield 36, 3, [10, 8, 0], 0) := rfl
theorem i_X12_code_287 : am_i m_X12_code 287 = some (287, .iconst (-1), 1, [], -1) := rfl
theorem i_X12_code_288 : am_i m_X12_code 288 = some (288, .if_icmp .eq 18, 3, [], 0) := rfl
theorem i_X12_code_291 : am_i m_X12_code 291 = some (291, .iload 10, 2, [], 0) := rfl
theorem i_X12_code_293 : am_i m_X12_code 293 = some (293, .aload_n 0, 1, [], 0) := rfl
theorem i_X12_code_294 : am_i m_X12_code 294 = some (294, .getfield 131, 3, [10, 6, 0], 0) := rfl
theorem i_X12_code_297 : am_i m_X12_code 297 = some (297, .if_icmp .le 9, 3, [], 0) := rfl
theorem i_X12_code_300 : am_i m_X12_code 300 = some (300, .aload_n 0, 1, [], 0) := rfl
theorem i_X12_code_301 : am_i m_X12_code 301 = some (301, .iconst 4, 1, [], 4) := rfl
theorem i_X12_code_302 : am_i m_X12_code 302 = some (302, .invokevirtual 299, 3, [34, 10], 0) := rfl
theorem i_X12_code_305 : am_i m_X12_code 305 = some (305, .ireturn, 1, [], 0) := rfl
theorem b_X12_code_265 {a0 a6 a7 : Nat} {x1 x2 x3 x9 : Int} {v4 v5 v10 v11 : Value} {r8 : Option Nat} {h : am_H} (k1 : K10 h a0) : rn m_X12_code 265 [.ref a0, .int (mI x1), .int (mI x2), .int (mI x3), v4, v5, .ref a6, .ref a7, am_rv r8, .int (mI x9), v10, v11] [] h = if (fZ h a0 8) = (-1) then rn m_X12_code 306 [.ref a0, .int (mI x1), .int (mI x2), .int (mI x3), v4, v5, .ref a6, .ref a7, am_rv r8, .int (mI x9), .int (mI ((max 0 (wr ((fZ h a0 8) - (fZ h a0 7)))) + x9)), v11] [] h else if (wr ((max 0 (wr ((fZ h a0 8) - (fZ h a0 7)))) + x9)) ≤ (fZ h a0 6) then rn m_X12_code 306 [.ref a0, .int (mI x1), .int (mI x2), .int (mI x3), v4, v5, .ref a6, .ref a7, am_rv r8, .int (mI x9), .int (mI ((max 0 (wr ((fZ h a0 8) - (fZ h a0 7)))) + x9)), v11] [] h else some (.inl (some (.int (mI 0))), uF 10 h a0 0 (.int (mI 4))) := by
  refine (tq_iconst i_X12_code_265 rfl).trans ?_
  refine (tq_aload_n i_X12_code_266 rfl (isA_ref _) rfl).trans ?_
  refine (tq_getfield i_X12_code_267 (K10_s k1) (g_10_8 (K10_s k1)) (isV_I _) rfl).trans ?_
  refine (tq_aload_n i_X12_code_270 rfl (isA_ref _) rfl).trans ?_
  refine (tq_getfield i_X12_code_271 (K10_s k1) (g_10_7 (K10_s k1)) (isV_I _) rfl).trans ?_
  refine (tq_isub i_X12_code_274 rfl).trans ?_
  refine (tq_max i_X12_code_275 w_0 rfl (Nat.le_of_ble_eq_true rfl) rfl).trans ?_
  refine (tq_iload i_X12_code_278 rfl rfl).trans ?_
  refine (tq_iadd i_X12_code_280 rfl).trans ?_
  refine (tq_istore (L' := [.ref a0, .int (mI x1), .int (mI x2), .int (mI x3), v4, v5, .ref a6, .ref a7, am_rv r8, .int (mI x9), .int (mI ((max 0 (wr ((fZ h a0 8) - (fZ h a0 7)))) + x9)), v11]) i_X12_code_281 rfl rfl).trans ?_
  refine (tq_aload_n i_X12_code_283 rfl (isA_ref _) rfl).trans ?_
  refine (tq_getfield i_X12_code_284 (K10_s k1) (g_10_8 (K10_s k1)) (isV_I _) rfl).trans ?_
  refine (tq_iconst i_X12_code_287 rfl).trans ?_
  refine (tq_icmp_eq (pt := 306) i_X12_code_288 (wr_fZ _ _ _) w_m1 (by decide) rfl).trans ?_
  refine ite_congr rfl (fun c1 => ?_) (fun c1 => ?_)
  · rfl
  · refine (tq_iload i_X12_code_291 rfl rfl).trans ?_
    refine (tq_aload_n i_X12_code_293 rfl (isA_ref _) rfl).trans ?_
    refine (tq_getfield i_X12_code_294 (K10_s k1) (g_10_6 (K10_s k1)) (isV_I _) rfl).trans ?_
    refine (tq_icmp_le (pt := 306) i_X12_code_297 rfl (wr_fZ _ _ _) (by decide) rfl).trans ?_
    refine ite_congr rfl (fun c2 => ?_) (fun c2 => ?_)
    · rfl
    · refine (tq_aload_n i_X12_code_300 rfl (isA_ref _) rfl).trans ?_
      refine (tq_iconst i_X12_code_301 rfl).trans ?_
      refine (c_X12_raises i_X12_code_302 (K10_s k1) (ltd d_X12_code (by decide)) stOk_0 rfl).trans ?_
      refine (congrArg (cl _ _ _ _) (b_X12_raises_0 k1)).trans ?_
      refine (cl_v _ _ _ _ _ _).trans ?_
      exact tq_ireturn i_X12_code_305 r_X12_code rfl
theorem i_X12_code_306 : am_i m_X12_code 306 = some (306, .aload_n 0, 1, [], 0) := rfl
theorem i_X12_code_307 : am_i m_X12_code 307 = some (307, .getfield 155, 3, [10, 27, 0], 0) := rfl
theorem i_X12_code_310 : am_i m_X12_code 310 = some (310, .aload_n 0, 1, [], 0) := rfl
theorem i_X12_code_311 : am_i m_X12_code 311 = some (311, .getfield 22, 3, [10, 2, 0], 0) := rfl
theorem i_X12_code_314 : am_i m_X12_code 314 = some (314, .aload_n 0, 1, [], 0) := rfl
theorem i_X12_code_315 : am_i m_X12_code 315 = some (315, .getfield 26, 3, [10, 3, 0], 0) := rfl
theorem i_X12_code_318 : am_i m_X12_code 318 = some (318, .aload_n 0, 1, [], 0) := rfl
theorem i_X12_code_319 : am_i m_X12_code 319 = some (319, .getfield 29, 3, [10, 4, 0], 0) := rfl
theorem i_X12_code_322 : am_i m_X12_code 322 = some (322, .invokestatic 316, 3, [140], 0) := rfl
theorem b_X12_code_306 {a0 a6 a7 a0_now : Nat} {x1 x2 x3 x9 x10 : Int} {v4 v5 v11 : Value} {r8 : Option Nat} {h : am_H} (k1 : K10 h a0) (e2 : fA h a0 27 = some a0_now) : rn m_X12_code 306 [.ref a0, .int (mI x1), .int (mI x2), .int (mI x3), v4, v5, .ref a6, .ref a7, am_rv r8, .int (mI x9), .int (mI x10), v11] [] h = cl m_X12_code 325 [.ref a0, .int (mI x1), .int (mI x2), .int (mI x3), v4, v5, .ref a6, .ref a7, am_rv r8, .int (mI x9), .int (mI x10), v11] [] (rn m_X12_smooths 0 [.ref a0_now, .int (mI (fZ h a0 2)), .int (mI (fZ h a0 3)), .int (mI (fZ h a0 4)), am_J, am_J] [] h) := by
  refine (tq_aload_n i_X12_code_306 rfl (isA_ref _) rfl).trans ?_
  refine (tq_getfield i_X12_code_307 (K10_s k1) (gR (g_10_27 (K10_s k1)) e2) (isV_ref _) rfl).trans ?_
  refine (tq_aload_n i_X12_code_310 rfl (isA_ref _) rfl).trans ?_
  refine (tq_getfield i_X12_code_311 (K10_s k1) (g_10_2 (K10_s k1)) (isV_I _) rfl).trans ?_
  refine (tq_aload_n i_X12_code_314 rfl (isA_ref _) rfl).trans ?_
  refine (tq_getfield i_X12_code_315 (K10_s k1) (g_10_3 (K10_s k1)) (isV_I _) rfl).trans ?_
  refine (tq_aload_n i_X12_code_318 rfl (isA_ref _) rfl).trans ?_
  refine (tq_getfield i_X12_code_319 (K10_s k1) (g_10_4 (K10_s k1)) (isV_I _) rfl).trans ?_
  exact c_X12_smooths i_X12_code_322 (ltd d_X12_code (by decide)) (isA_ref _) stOk_0 rfl
theorem i_X12_code_325 : am_i m_X12_code 325 = some (325, .aload_n 0, 1, [], 0) := rfl
theorem i_X12_code_326 : am_i m_X12_code 326 = some (326, .aload 6, 2, [], 0) := rfl
theorem i_X12_code_328 : am_i m_X12_code 328 = some (328, .aload 7, 2, [], 0) := rfl
theorem i_X12_code_330 : am_i m_X12_code 330 = some (330, .aload 8, 2, [], 0) := rfl
theorem i_X12_code_332 : am_i m_X12_code 332 = some (332, .iload 9, 2, [], 0) := rfl
theorem i_X12_code_334 : am_i m_X12_code 334 = some (334, .iload_n 1, 1, [], 0) := rfl
theorem i_X12_code_335 : am_i m_X12_code 335 = some (335, .bipush 105, 2, [], 105) := rfl
theorem i_X12_code_337 : am_i m_X12_code 337 = some (337, .if_icmp .ne 7, 3, [], 0) := rfl
theorem i_X12_code_340 : am_i m_X12_code 340 = some (340, .iconst (-1), 1, [], -1) := rfl
theorem i_X12_code_341 : am_i m_X12_code 341 = some (341, .goto 4, 3, [], 0) := rfl
theorem i_X12_code_344 : am_i m_X12_code 344 = some (344, .iload_n 2, 1, [], 0) := rfl
theorem i_X12_code_345 : am_i m_X12_code 345 = some (345, .iload_n 1, 1, [], 0) := rfl
theorem i_X12_code_346 : am_i m_X12_code 346 = some (346, .bipush 98, 2, [], 98) := rfl
theorem i_X12_code_348 : am_i m_X12_code 348 = some (348, .if_icmp .ne 7, 3, [], 0) := rfl
theorem i_X12_code_351 : am_i m_X12_code 351 = some (351, .iload_n 3, 1, [], 0) := rfl
theorem i_X12_code_352 : am_i m_X12_code 352 = some (352, .goto 4, 3, [], 0) := rfl
theorem i_X12_code_355 : am_i m_X12_code 355 = some (355, .iconst (-1), 1, [], -1) := rfl
theorem i_X12_code_356 : am_i m_X12_code 356 = some (356, .invokevirtual 319, 3, [134, 10], 0) := rfl
theorem b_X12_code_325 {a0 a6 a7 : Nat} {x1 x2 x3 x9 x10 x1' : Int} {v4 v5 v11 : Value} {r8 : Option Nat} {h : am_H} (w1 : wr x1 = x1') (k1 : K10 h a0) : rn m_X12_code 325 [.ref a0, .int (mI x1), .int (mI x2), .int (mI x3), v4, v5, .ref a6, .ref a7, am_rv r8, .int (mI x9), .int (mI x10), v11] [] h = cl m_X12_code 359 [.ref a0, .int (mI x1), .int (mI x2), .int (mI x3), v4, v5, .ref a6, .ref a7, am_rv r8, .int (mI x9), .int (mI x10), v11] [] (rn m_X12_keeps 0 [.ref a0, .ref a6, .ref a7, am_rv r8, .int (mI x9), .int (mI (if ¬ x1' = 105 then (x2 : Int) else (-1))), .int (mI (if ¬ x1' = 98 then ((-1) : Int) else x3))] [] h) := by
  refine (tq_aload_n i_X12_code_325 rfl (isA_ref _) rfl).trans ?_
  refine (tq_aload i_X12_code_326 rfl (isA_ref _) rfl).trans ?_
  refine (tq_aload i_X12_code_328 rfl (isA_ref _) rfl).trans ?_
  refine (tq_aload i_X12_code_330 rfl (isA_rv _) rfl).trans ?_
  refine (tq_iload i_X12_code_332 rfl rfl).trans ?_
  refine (tq_iload_n i_X12_code_334 rfl rfl).trans ?_
  refine (tq_bipush i_X12_code_335 rfl).trans ?_
  refine (tq_icmp_ne (pt := 344) i_X12_code_337 w1 w_105 (by decide) rfl).trans ?_
  refine Eq.trans (b := if ¬ x1' = 105 then rn m_X12_code 345 [.ref a0, .int (mI x1), .int (mI x2), .int (mI x3), v4, v5, .ref a6, .ref a7, am_rv r8, .int (mI x9), .int (mI x10), v11] [.int (mI x2), .int (mI x9), am_rv r8, .ref a7, .ref a6, .ref a0] h else rn m_X12_code 345 [.ref a0, .int (mI x1), .int (mI x2), .int (mI x3), v4, v5, .ref a6, .ref a7, am_rv r8, .int (mI x9), .int (mI x10), v11] [.int (mI (-1)), .int (mI x9), am_rv r8, .ref a7, .ref a6, .ref a0] h) (ite_congr rfl (fun c1 => ?_) (fun c1 => ?_)) ?_
  · refine (tq_iload_n i_X12_code_344 rfl rfl).trans ?_
    rfl
  · refine (tq_iconst i_X12_code_340 rfl).trans ?_
    refine (tq_goto (pc' := 345) i_X12_code_341 (by decide)).trans ?_
    rfl
  refine Eq.trans ite_I ?_
  refine (tq_iload_n i_X12_code_345 rfl rfl).trans ?_
  refine (tq_bipush i_X12_code_346 rfl).trans ?_
  refine (tq_icmp_ne (pt := 355) i_X12_code_348 w1 w_98 (by decide) rfl).trans ?_
  refine Eq.trans (b := if ¬ x1' = 98 then rn m_X12_code 356 [.ref a0, .int (mI x1), .int (mI x2), .int (mI x3), v4, v5, .ref a6, .ref a7, am_rv r8, .int (mI x9), .int (mI x10), v11] [.int (mI (-1)), .int (mI (if ¬ x1' = 105 then (x2 : Int) else (-1))), .int (mI x9), am_rv r8, .ref a7, .ref a6, .ref a0] h else rn m_X12_code 356 [.ref a0, .int (mI x1), .int (mI x2), .int (mI x3), v4, v5, .ref a6, .ref a7, am_rv r8, .int (mI x9), .int (mI x10), v11] [.int (mI x3), .int (mI (if ¬ x1' = 105 then (x2 : Int) else (-1))), .int (mI x9), am_rv r8, .ref a7, .ref a6, .ref a0] h) (ite_congr rfl (fun c2 => ?_) (fun c2 => ?_)) ?_
  · refine (tq_iconst i_X12_code_355 rfl).trans ?_
    rfl
  · refine (tq_iload_n i_X12_code_351 rfl rfl).trans ?_
    refine (tq_goto (pc' := 356) i_X12_code_352 (by decide)).trans ?_
    rfl
  refine Eq.trans ite_I ?_
  exact c_X12_keeps i_X12_code_356 (K10_s k1) (ltd d_X12_code (by decide)) (isA_ref _) (isA_ref _) (isA_rv _) stOk_0 rfl
theorem i_X12_code_359 : am_i m_X12_code 359 = some (359, .aload_n 0, 1, [], 0) := rfl
theorem i_X12_code_360 : am_i m_X12_code 360 = some (360, .getfield 36, 3, [10, 8, 0], 0) := rfl
theorem i_X12_code_363 : am_i m_X12_code 363 = some (363, .iconst (-1), 1, [], -1) := rfl
theorem i_X12_code_364 : am_i m_X12_code 364 = some (364, .if_icmp .eq 64, 3, [], 0) := rfl
theorem i_X12_code_367 : am_i m_X12_code 367 = some (367, .aload_n 0, 1, [], 0) := rfl
theorem i_X12_code_368 : am_i m_X12_code 368 = some (368, .iload 10, 2, [], 0) := rfl
theorem i_X12_code_370 : am_i m_X12_code 370 = some (370, .putfield 36, 3, [10, 8, 0], 0) := rfl
theorem i_X12_code_373 : am_i m_X12_code 373 = some (373, .iconst 4, 1, [], 4) := rfl
theorem i_X12_code_374 : am_i m_X12_code 374 = some (374, .iload 10, 2, [], 0) := rfl
theorem i_X12_code_376 : am_i m_X12_code 376 = some (376, .imul, 1, [], 0) := rfl
theorem i_X12_code_377 : am_i m_X12_code 377 = some (377, .iconst 3, 1, [], 3) := rfl
theorem i_X12_code_378 : am_i m_X12_code 378 = some (378, .aload_n 0, 1, [], 0) := rfl
theorem i_X12_code_379 : am_i m_X12_code 379 = some (379, .getfield 131, 3, [10, 6, 0], 0) := rfl
theorem i_X12_code_382 : am_i m_X12_code 382 = some (382, .imul, 1, [], 0) := rfl
theorem i_X12_code_383 : am_i m_X12_code 383 = some (383, .if_icmp .le 7, 3, [], 0) := rfl
theorem i_X12_code_386 : am_i m_X12_code 386 = some (386, .iconst 1, 1, [], 1) := rfl
theorem i_X12_code_387 : am_i m_X12_code 387 = some (387, .goto 19, 3, [], 0) := rfl
theorem i_X12_code_390 : am_i m_X12_code 390 = some (390, .iconst 4, 1, [], 4) := rfl
theorem i_X12_code_391 : am_i m_X12_code 391 = some (391, .iload 10, 2, [], 0) := rfl
theorem i_X12_code_393 : am_i m_X12_code 393 = some (393, .imul, 1, [], 0) := rfl
theorem i_X12_code_394 : am_i m_X12_code 394 = some (394, .aload_n 0, 1, [], 0) := rfl
theorem i_X12_code_395 : am_i m_X12_code 395 = some (395, .getfield 131, 3, [10, 6, 0], 0) := rfl
theorem i_X12_code_398 : am_i m_X12_code 398 = some (398, .if_icmp .ge 7, 3, [], 0) := rfl
theorem i_X12_code_401 : am_i m_X12_code 401 = some (401, .iconst (-1), 1, [], -1) := rfl
theorem i_X12_code_402 : am_i m_X12_code 402 = some (402, .goto 4, 3, [], 0) := rfl
theorem i_X12_code_405 : am_i m_X12_code 405 = some (405, .iconst 0, 1, [], 0) := rfl
theorem i_X12_code_406 : am_i m_X12_code 406 = some (406, .istore 11, 2, [], 0) := rfl
theorem i_X12_code_408 : am_i m_X12_code 408 = some (408, .aload_n 0, 1, [], 0) := rfl
theorem i_X12_code_409 : am_i m_X12_code 409 = some (409, .iconst 1, 1, [], 1) := rfl
theorem i_X12_code_410 : am_i m_X12_code 410 = some (410, .bipush 40, 2, [], 40) := rfl
theorem i_X12_code_412 : am_i m_X12_code 412 = some (412, .aload_n 0, 1, [], 0) := rfl
theorem i_X12_code_413 : am_i m_X12_code 413 = some (413, .getfield 22, 3, [10, 2, 0], 0) := rfl
theorem i_X12_code_416 : am_i m_X12_code 416 = some (416, .iload 11, 2, [], 0) := rfl
theorem i_X12_code_418 : am_i m_X12_code 418 = some (418, .iadd, 1, [], 0) := rfl
theorem i_X12_code_419 : am_i m_X12_code 419 = some (419, .invokestatic 3, 3, [0, 2], 0) := rfl
theorem i_X12_code_422 : am_i m_X12_code 422 = some (422, .invokestatic 9, 3, [0, 1], 0) := rfl
theorem i_X12_code_425 : am_i m_X12_code 425 = some (425, .putfield 22, 3, [10, 2, 0], 0) := rfl
theorem i_X12_code_428 : am_i m_X12_code 428 = some (428, .iload 9, 2, [], 0) := rfl
theorem i_X12_code_430 : am_i m_X12_code 430 = some (430, .ireturn, 1, [], 0) := rfl
theorem b_X12_code_359 {a0 : Nat} {v1 v2 v3 v4 v5 v6 v7 v8 v11 : Value} {x9 x10 : Int} {h : am_H} (k1 : K10 h a0) : rn m_X12_code 359 [.ref a0, v1, v2, v3, v4, v5, v6, v7, v8, .int (mI x9), .int (mI x10), v11] [] h = if (fZ h a0 8) = (-1) then some (.inl (some (.int (mI x9))), h) else some (.inl (some (.int (mI x9))), uF 10 (uF 10 h a0 8 (.int (mI x10))) a0 2 (.int (mI (max 1 (min 40 (wr ((fZ h a0 2) + (if (wr (4 * x10)) ≤ (wr (3 * (fZ h a0 6))) then ((if (fZ h a0 6) ≤ (wr (4 * x10)) then (0 : Int) else (-1)) : Int) else 1)))))))) := by
  refine (tq_aload_n i_X12_code_359 rfl (isA_ref _) rfl).trans ?_
  refine (tq_getfield i_X12_code_360 (K10_s k1) (g_10_8 (K10_s k1)) (isV_I _) rfl).trans ?_
  refine (tq_iconst i_X12_code_363 rfl).trans ?_
  refine (tq_icmp_eq (pt := 428) i_X12_code_364 (wr_fZ _ _ _) w_m1 (by decide) rfl).trans ?_
  refine ite_congr rfl (fun c1 => ?_) (fun c1 => ?_)
  · refine (tq_iload i_X12_code_428 rfl rfl).trans ?_
    exact tq_ireturn i_X12_code_430 r_X12_code rfl
  · refine (tq_aload_n i_X12_code_367 rfl (isA_ref _) rfl).trans ?_
    refine (tq_iload i_X12_code_368 rfl rfl).trans ?_
    refine (tq_putfield i_X12_code_370 (K10_s k1) (okf_10_8 _) rfl).trans ?_
    refine (tq_iconst i_X12_code_373 rfl).trans ?_
    refine (tq_iload i_X12_code_374 rfl rfl).trans ?_
    refine (tq_imul i_X12_code_376 rfl).trans ?_
    refine (tq_iconst i_X12_code_377 rfl).trans ?_
    refine (tq_aload_n i_X12_code_378 rfl (isA_ref _) rfl).trans ?_
    refine (tq_getfield i_X12_code_379 ((sh_uF _ _ _ _ _ _).trans (K10_s k1)) ((g_10_6 ((sh_uF _ _ _ _ _ _).trans (K10_s k1))).trans (congrArg (fun z => Value.int (mI z)) (fZ_uF_nk (K10_s k1) (okf_10_8 _) (by decide)))) (isV_I _) rfl).trans ?_
    refine (tq_imul i_X12_code_382 rfl).trans ?_
    refine (tq_icmp_le (pt := 390) i_X12_code_383 rfl rfl (by decide) rfl).trans ?_
    refine Eq.trans (b := if (wr (4 * x10)) ≤ (wr (3 * (fZ h a0 6))) then rn m_X12_code 406 [.ref a0, v1, v2, v3, v4, v5, v6, v7, v8, .int (mI x9), .int (mI x10), v11] [.int (mI (if (fZ h a0 6) ≤ (wr (4 * x10)) then (0 : Int) else (-1)))] (uF 10 h a0 8 (.int (mI x10))) else rn m_X12_code 406 [.ref a0, v1, v2, v3, v4, v5, v6, v7, v8, .int (mI x9), .int (mI x10), v11] [.int (mI 1)] (uF 10 h a0 8 (.int (mI x10)))) (ite_congr rfl (fun c2 => ?_) (fun c2 => ?_)) ?_
    · refine (tq_iconst i_X12_code_390 rfl).trans ?_
      refine (tq_iload i_X12_code_391 rfl rfl).trans ?_
      refine (tq_imul i_X12_code_393 rfl).trans ?_
      refine (tq_aload_n i_X12_code_394 rfl (isA_ref _) rfl).trans ?_
      refine (tq_getfield i_X12_code_395 ((sh_uF _ _ _ _ _ _).trans (K10_s k1)) ((g_10_6 ((sh_uF _ _ _ _ _ _).trans (K10_s k1))).trans (congrArg (fun z => Value.int (mI z)) (fZ_uF_nk (K10_s k1) (okf_10_8 _) (by decide)))) (isV_I _) rfl).trans ?_
      refine (tq_icmp_ge (pt := 405) i_X12_code_398 rfl (wr_fZ _ _ _) (by decide) rfl).trans ?_
      refine Eq.trans (b := if (fZ h a0 6) ≤ (wr (4 * x10)) then rn m_X12_code 406 [.ref a0, v1, v2, v3, v4, v5, v6, v7, v8, .int (mI x9), .int (mI x10), v11] [.int (mI 0)] (uF 10 h a0 8 (.int (mI x10))) else rn m_X12_code 406 [.ref a0, v1, v2, v3, v4, v5, v6, v7, v8, .int (mI x9), .int (mI x10), v11] [.int (mI (-1))] (uF 10 h a0 8 (.int (mI x10)))) (ite_congr rfl (fun c3 => ?_) (fun c3 => ?_)) ?_
      · refine (tq_iconst i_X12_code_405 rfl).trans ?_
        rfl
      · refine (tq_iconst i_X12_code_401 rfl).trans ?_
        refine (tq_goto (pc' := 406) i_X12_code_402 (by decide)).trans ?_
        rfl
      exact ite_I
    · refine (tq_iconst i_X12_code_386 rfl).trans ?_
      refine (tq_goto (pc' := 406) i_X12_code_387 (by decide)).trans ?_
      rfl
    refine Eq.trans ite_I ?_
    refine (tq_istore (L' := [.ref a0, v1, v2, v3, v4, v5, v6, v7, v8, .int (mI x9), .int (mI x10), .int (mI (if (wr (4 * x10)) ≤ (wr (3 * (fZ h a0 6))) then ((if (fZ h a0 6) ≤ (wr (4 * x10)) then (0 : Int) else (-1)) : Int) else 1))]) i_X12_code_406 rfl rfl).trans ?_
    refine (tq_aload_n i_X12_code_408 rfl (isA_ref _) rfl).trans ?_
    refine (tq_iconst i_X12_code_409 rfl).trans ?_
    refine (tq_bipush i_X12_code_410 rfl).trans ?_
    refine (tq_aload_n i_X12_code_412 rfl (isA_ref _) rfl).trans ?_
    refine (tq_getfield i_X12_code_413 ((sh_uF _ _ _ _ _ _).trans (K10_s k1)) ((g_10_2 ((sh_uF _ _ _ _ _ _).trans (K10_s k1))).trans (congrArg (fun z => Value.int (mI z)) (fZ_uF_nk (K10_s k1) (okf_10_8 _) (by decide)))) (isV_I _) rfl).trans ?_
    refine (tq_iload i_X12_code_416 rfl rfl).trans ?_
    refine (tq_iadd i_X12_code_418 rfl).trans ?_
    refine (tq_min i_X12_code_419 w_40 rfl (Nat.le_of_ble_eq_true rfl) rfl).trans ?_
    refine (tq_max i_X12_code_422 w_1 (wr_min w_40 rfl) (Nat.le_of_ble_eq_true rfl) rfl).trans ?_
    refine (tq_putfield i_X12_code_425 ((sh_uF _ _ _ _ _ _).trans (K10_s k1)) (okf_10_2 _) rfl).trans ?_
    refine (tq_iload i_X12_code_428 rfl rfl).trans ?_
    exact tq_ireturn i_X12_code_430 r_X12_code rfl
theorem m_code_x (rm : RM σ h D) (wf : WfS σ c) {kd a b : Int} (wk : wr kd = kd) (wa : wr a = a) (wb : wr b = b) : (¬ isKind kd → MRs σ h D (rn m_X12_code 0 [.ref 51, .int (mI kd), .int (mI a), .int (mI b), am_J, am_J, am_J, am_J, am_J, am_J, am_J, am_J] [] h) (.int (mI 0)) 1 0 0) ∧ (isKind kd → ¬ isRq σ kd a b → MRs σ h D (rn m_X12_code 0 [.ref 51, .int (mI kd), .int (mI a), .int (mI b), am_J, am_J, am_J, am_J, am_J, am_J, am_J, am_J] [] h) (.int (mI 0)) 2 0 0) ∧ (isRq σ kd a b → ¬ tz σ 7 < 12 → MRs σ h D (rn m_X12_code 0 [.ref 51, .int (mI kd), .int (mI a), .int (mI b), am_J, am_J, am_J, am_J, am_J, am_J, am_J, am_J] [] h) (.int (mI 0)) 3 0 0) ∧ (isRq σ kd a b → tz σ 7 < 12 → ∃ v4 v5, rn m_X12_code 0 [.ref 51, .int (mI kd), .int (mI a), .int (mI b), am_J, am_J, am_J, am_J, am_J, am_J, am_J, am_J] [] h = rn m_X12_code 119 [.ref 51, .int (mI kd), .int (mI a), .int (mI b), v4, v5, am_J, am_J, am_J, am_J, am_J, am_J] [] (uF 10 h 51 0 (.int (mI 0)))) := by
  have n := WFn wf
  have b8 := wf.2.1.2.1
  have en : fZ h 51 9 = tz σ 7 := rm.2.2.2.1.2.2.1
  have e26 : fZ h 51 26 = tz σ 8 := rm.2.2.2.1.2.2.2
  have st := b_X12_code_0 (a0 := 51) (x1 := kd) (x2 := a) (x3 := b) (h := h) wk rm.1
  have s0 : isKind kd → rn m_X12_code 0 [.ref 51, .int (mI kd), .int (mI a), .int (mI b), am_J, am_J, am_J, am_J, am_J, am_J, am_J, am_J] [] h = rn m_X12_code 24 [.ref 51, .int (mI kd), .int (mI a), .int (mI b), am_J, am_J, am_J, am_J, am_J, am_J, am_J, am_J] [] h := fun hk => by
    rw [st]
    by_cases c1 : kd = 105
    · rw [if_pos c1]
    · rw [if_neg c1]
      by_cases c2 : kd = 112
      · rw [if_pos c2]
      · rw [if_neg c2, if_pos (by unfold isKind at hk; omega)]
  have st2 := b_X12_code_24 (a0 := 51) (x1 := kd) (x2 := a) (x3 := b) (v4 := am_J) (v5 := am_J) (v6 := am_J) (v7 := am_J) (v8 := am_J) (v9 := am_J) (v10 := am_J) (v11 := am_J) (h := h) wk wa wb rm.1
  obtain ⟨T, eT⟩ : ∃ T : Int, T = (if ((kd = 105) ∨ ((¬ (a < 0) ∧ (¬ (tz σ 8 - 1 < a))))) then ((if ((¬ kd = 98) ∨ ((¬ (b < 0) ∧ (¬ (tz σ 8 - 1 < b))))) then ((if ¬ tz σ 7 = 12 then (0 : Int) else 3) : Int) else 2) : Int) else 2) := ⟨_, rfl⟩
  rw [en, e26, wr_id (z := tz σ 8 - 1) (by omega) (by omega), ← eT] at st2
  have kT : isRq σ kd a b → T = if tz σ 7 < 12 then 0 else 3 := fun g => by
    obtain ⟨hk, ha, hb⟩ := g
    have c1 : (kd = 105) ∨ ((¬ (a < 0) ∧ (¬ (tz σ 8 - 1 < a)))) := by
      by_cases q : kd = 105
      · exact Or.inl q
      · have := ha q; exact Or.inr (by omega)
    have c2 : (¬ kd = 98) ∨ ((¬ (b < 0) ∧ (¬ (tz σ 8 - 1 < b)))) := by
      by_cases q : kd = 98
      · have := hb q; exact Or.inr (by omega)
      · exact Or.inl q
    rw [eT, if_pos c1, if_pos c2]
    by_cases q : tz σ 7 < 12
    · rw [if_pos q, if_pos (by omega)]
    · rw [if_neg q, if_neg (by omega)]
  refine ⟨fun g => ?_, fun hk g => ?_, fun g g7 => ?_, fun g g7 => ?_⟩
  · unfold isKind at g
    rw [if_neg (by omega), if_neg (by omega), if_neg (by omega)] at st
    exact MRs_thr rm (wr_id (by decide) (by decide)) st
  · have e2 : T = 2 := by
      rw [eT]
      by_cases c1 : (kd = 105) ∨ ((¬ (a < 0) ∧ (¬ (tz σ 8 - 1 < a))))
      · rw [if_pos c1]
        by_cases c2 : (¬ kd = 98) ∨ ((¬ (b < 0) ∧ (¬ (tz σ 8 - 1 < b))))
        · exact absurd ⟨hk, fun q => by omega, fun q => by omega⟩ g
        · rw [if_neg c2]
      · rw [if_neg c1]
    rw [e2, if_neg (by decide)] at st2
    exact MRs_thr rm (wr_id (by decide) (by decide)) ((s0 hk).trans st2)
  · rw [kT g, if_neg g7, if_neg (by decide)] at st2
    exact MRs_thr rm (wr_id (by decide) (by decide)) ((s0 g.1).trans st2)
  · rw [kT g, if_pos g7, if_pos (by decide)] at st2
    exact ⟨_, _, (s0 g.1).trans st2⟩
/-- an array made, and put into a field of the model -/
theorem in_step10 {g : am_H} {k n : Nat} (hn : n ≤ 65536) (s : sh g 51 = (5, 10)) (hA : 51 < hnx g) (ok : am_okV (am_ft 10 k) (.ref (hnx g)) = true) (sm : ∀ h v, Sm h (uF 10 h 51 k v)) : ∃ g', g' = uF 10 (aI 0 n g) 51 k (.ref (hnx g)) ∧ sh g' 51 = (5, 10) ∧ hnx g' = hnx g + 1 ∧ fA g' 51 k = some (hnx g) ∧ (∀ j, j ≠ k → fA g' 51 j = fA g 51 j) ∧ (sh g' (hnx g) = (1, 0) ∧ gn g' (hnx g) = n ∧ ∀ i, gZ g' (hnx g) i = 0) ∧ Fr (fun a j => a = 51 ∧ j = k) 1 n g g' := by
  have s' : sh (aI 0 n g) 51 = (5, 10) := (sh_aI_ne _ _ _ (by omega)).trans s
  have m : Md (fun a j => a = 51 ∧ j = k) (aI 0 n g) (uF 10 (aI 0 n g) 51 k (.ref (hnx g))) := Md_uF (sm _ _)
  refine ⟨_, rfl, (sh_uF _ _ _ _ _ _).trans s', (hnx_uF _ _ _ _ _).trans (hnx_aI _ _ _), fA_uF_eq (r := some (hnx g)) s' ok, fun j hj => ?_, ⟨(sh_uF _ _ _ _ _ _).trans (sh_aI hn), (gn_uF _ _ _ _ _ _).trans (gn_aI _ _ _), fun i => by rw [gZ_uF]; exact gZ_aI _ _ _ _⟩, Fr_mono (Fr_tr (U := fun a j => a = 51 ∧ j = k) (Fr_alc g n _) (md_fr m) (fun _ _ _ q => q.elim) (fun _ _ _ q => q)) (fun _ _ _ q => q) (by omega) (by omega)⟩
  rw [fA_uF_nk s' ok hj]
  exact fA_aI_ne _ _ _ _ (by omega)
end MA
