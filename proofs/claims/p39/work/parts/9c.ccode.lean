/-! ===== the class codes: up to the bucket ===== -/
def CF1 (σ : St) (kd a : Int) : Int → Int := if kd = 105 then (fun _ => 128) else tpd σ (tk σ a) 5
def CF2 (σ : St) (kd b : Int) : Int → Int := if kd = 98 then tpd σ (tk σ b) 5 else (fun _ => 128)
def ln0 (pd : Nat → Int → Int) (kd tl sl : Int) : Nat := (runA A0 (slS pd kd tl sl 0 16).1).2.2.2 + 4
def ln1 (pd : Nat → Int → Int) (kd tl sl : Int) : Nat := if sl = 2 then (runA A0 (slS pd kd tl sl 1 16).1).2.2.2 + 4 else 0
def dg0 (pd : Nat → Int → Int) (kd tl sl : Int) : Int := (runA A0 (slS pd kd tl sl 0 16).1).2.1
def dg1 (pd : Nat → Int → Int) (kd tl sl : Int) : Int := (runA A0 (slS pd kd tl sl 1 16).1).2.1
theorem ln_b {pd : Nat → Int → Int} {kd tl sl : Int} (h : ∀ s, 0 ≤ s → s < 16 → pdB pd s) : ln0 pd kd tl sl + ln1 pd kd tl sl ≤ 3972 := by
  have := len_b2 (kd := kd) (tl := tl) (sl := sl) h
  unfold ln0 ln1
  split <;> omega
theorem CF_pix {σ : St} {c kd a b : Int} (wf : WfS σ c) (ha : kd ≠ 105 → 0 ≤ a ∧ a < tz σ 8) (hb : kd = 98 → 0 ≤ b ∧ b < tz σ 8) : pixels (CF1 σ kd a) ∧ pixels (CF2 σ kd b) := by
  have g : pixels (fun _ => 128) := fun i _ _ => by simp only; omega
  have k : ∀ x, 0 ≤ x → x < tz σ 8 → pixels (tpd σ (tk σ x) 5) := fun x x0 x1 => by
    have b := wf.2.1.2.2 x x0 x1
    obtain ⟨-, -, -, -, -, -, -, -, -, -, p, -⟩ := wf.2.2.2.1 (tk σ x) b.1 b.2
    exact p
  unfold CF1 CF2
  constructor
  · split
    · exact g
    · rename_i q; exact k a (ha q).1 (ha q).2
  · split
    · rename_i q; exact k b (hb q).1 (hb q).2
    · exact g
section CC
variable {σ : St} {h h' : am_H} {D : Nat} {c : Int}
theorem i_X11_code_0 : am_i m_X11_code 0 = some (0, .iload_n 1, 1, [], 0) := rfl
theorem i_X11_code_1 : am_i m_X11_code 1 = some (1, .bipush 105, 2, [], 105) := rfl
theorem i_X11_code_3 : am_i m_X11_code 3 = some (3, .if_icmp .eq 25, 3, [], 0) := rfl
theorem i_X11_code_6 : am_i m_X11_code 6 = some (6, .iload_n 1, 1, [], 0) := rfl
theorem i_X11_code_7 : am_i m_X11_code 7 = some (7, .bipush 112, 2, [], 112) := rfl
theorem i_X11_code_9 : am_i m_X11_code 9 = some (9, .if_icmp .eq 19, 3, [], 0) := rfl
theorem i_X11_code_12 : am_i m_X11_code 12 = some (12, .iload_n 1, 1, [], 0) := rfl
theorem i_X11_code_13 : am_i m_X11_code 13 = some (13, .bipush 98, 2, [], 98) := rfl
theorem i_X11_code_15 : am_i m_X11_code 15 = some (15, .if_icmp .eq 13, 3, [], 0) := rfl
theorem i_X11_code_18 : am_i m_X11_code 18 = some (18, .new 86, 3, [0, 0], 0) := rfl
theorem b_X11_code_0 {a0 : Nat} {x1 x2 x3 x1' : Int} {h : am_H} (w1 : wr x1 = x1') : rn m_X11_code 0 [.ref a0, .int (mI x1), .int (mI x2), .int (mI x3), am_J] [] h = if x1' = 105 then rn m_X11_code 28 [.ref a0, .int (mI x1), .int (mI x2), .int (mI x3), am_J] [] h else if x1' = 112 then rn m_X11_code 28 [.ref a0, .int (mI x1), .int (mI x2), .int (mI x3), am_J] [] h else if x1' = 98 then rn m_X11_code 28 [.ref a0, .int (mI x1), .int (mI x2), .int (mI x3), am_J] [] h else some (.inr 0, hexc h) := by
  refine (tq_iload_n i_X11_code_0 rfl rfl).trans ?_
  refine (tq_bipush i_X11_code_1 rfl).trans ?_
  refine (tq_icmp_eq (pt := 28) i_X11_code_3 w1 w_105 (by decide) rfl).trans ?_
  refine ite_congr rfl (fun c1 => ?_) (fun c1 => ?_)
  · rfl
  · refine (tq_iload_n i_X11_code_6 rfl rfl).trans ?_
    refine (tq_bipush i_X11_code_7 rfl).trans ?_
    refine (tq_icmp_eq (pt := 28) i_X11_code_9 w1 w_112 (by decide) rfl).trans ?_
    refine ite_congr rfl (fun c2 => ?_) (fun c2 => ?_)
    · rfl
    · refine (tq_iload_n i_X11_code_12 rfl rfl).trans ?_
      refine (tq_bipush i_X11_code_13 rfl).trans ?_
      refine (tq_icmp_eq (pt := 28) i_X11_code_15 w1 w_98 (by decide) rfl).trans ?_
      refine ite_congr rfl (fun c3 => ?_) (fun c3 => ?_)
      · rfl
      · exact tq_newx i_X11_code_18
theorem i_X11_code_28 : am_i m_X11_code 28 = some (28, .iload_n 1, 1, [], 0) := rfl
theorem i_X11_code_29 : am_i m_X11_code 29 = some (29, .bipush 105, 2, [], 105) := rfl
theorem i_X11_code_31 : am_i m_X11_code 31 = some (31, .if_icmp .eq 11, 3, [], 0) := rfl
theorem i_X11_code_34 : am_i m_X11_code 34 = some (34, .aload_n 0, 1, [], 0) := rfl
theorem i_X11_code_35 : am_i m_X11_code 35 = some (35, .iload_n 2, 1, [], 0) := rfl
theorem i_X11_code_36 : am_i m_X11_code 36 = some (36, .invokevirtual 152, 3, [8, 9], 0) := rfl
theorem i_X11_code_39 : am_i m_X11_code 39 = some (39, .ifCond .eq 17, 3, [], 0) := rfl
theorem i_X11_code_42 : am_i m_X11_code 42 = some (42, .iload_n 1, 1, [], 0) := rfl
theorem i_X11_code_43 : am_i m_X11_code 43 = some (43, .bipush 98, 2, [], 98) := rfl
theorem i_X11_code_45 : am_i m_X11_code 45 = some (45, .if_icmp .ne 21, 3, [], 0) := rfl
theorem i_X11_code_48 : am_i m_X11_code 48 = some (48, .aload_n 0, 1, [], 0) := rfl
theorem i_X11_code_49 : am_i m_X11_code 49 = some (49, .iload_n 3, 1, [], 0) := rfl
theorem i_X11_code_50 : am_i m_X11_code 50 = some (50, .invokevirtual 152, 3, [8, 9], 0) := rfl
theorem i_X11_code_53 : am_i m_X11_code 53 = some (53, .ifCond .ne 13, 3, [], 0) := rfl
theorem i_X11_code_56 : am_i m_X11_code 56 = some (56, .new 155, 3, [1, 0], 0) := rfl
theorem b_X11_code_28 {a0 : Nat} {x1 x2 x3 x1' x2' x3' : Int} {v4 : Value} {h : am_H} (w1 : wr x1 = x1') (w2 : wr x2 = x2') (w3 : wr x3 = x3') (k1 : K9 h a0) : rn m_X11_code 28 [.ref a0, .int (mI x1), .int (mI x2), .int (mI x3), v4] [] h = if x1' = 105 then if ¬ x1' = 98 then rn m_X11_code 66 [.ref a0, .int (mI x1), .int (mI x2), .int (mI x3), v4] [] h else if (¬ (x3' < 0) ∧ (¬ ((fZ h a0 11) ≤ x3'))) then rn m_X11_code 66 [.ref a0, .int (mI x1), .int (mI x2), .int (mI x3), v4] [] h else some (.inr 1, hexc h) else if (¬ (x2' < 0) ∧ (¬ ((fZ h a0 11) ≤ x2'))) then if ¬ x1' = 98 then rn m_X11_code 66 [.ref a0, .int (mI x1), .int (mI x2), .int (mI x3), v4] [] h else if (¬ (x3' < 0) ∧ (¬ ((fZ h a0 11) ≤ x3'))) then rn m_X11_code 66 [.ref a0, .int (mI x1), .int (mI x2), .int (mI x3), v4] [] h else some (.inr 1, hexc h) else some (.inr 1, hexc h) := by
  refine (tq_iload_n i_X11_code_28 rfl rfl).trans ?_
  refine (tq_bipush i_X11_code_29 rfl).trans ?_
  refine (tq_icmp_eq (pt := 42) i_X11_code_31 w1 w_105 (by decide) rfl).trans ?_
  refine ite_congr rfl (fun c1 => ?_) (fun c1 => ?_)
  · refine (tq_iload_n i_X11_code_42 rfl rfl).trans ?_
    refine (tq_bipush i_X11_code_43 rfl).trans ?_
    refine (tq_icmp_ne (pt := 66) i_X11_code_45 w1 w_98 (by decide) rfl).trans ?_
    refine ite_congr rfl (fun c2 => ?_) (fun c2 => ?_)
    · rfl
    · refine (tq_aload_n i_X11_code_48 rfl (isA_ref _) rfl).trans ?_
      refine (tq_iload_n i_X11_code_49 rfl rfl).trans ?_
      refine (c_X11_isKeptPlace i_X11_code_50 (K9_s k1) (ltd d_X11_code (by decide)) stOk_0 rfl).trans ?_
      refine (congrArg (cl _ _ _ _) (b_X11_isKeptPlace_0 w3 k1)).trans ?_
      refine (cl_v _ _ _ _ _ _).trans ?_
      refine (tq_ifb_ne (pt := 66) i_X11_code_53 (by decide) rfl).trans ?_
      refine ite_congr rfl (fun c3 => ?_) (fun c3 => ?_)
      · rfl
      · exact tq_newx i_X11_code_56
  · refine (tq_aload_n i_X11_code_34 rfl (isA_ref _) rfl).trans ?_
    refine (tq_iload_n i_X11_code_35 rfl rfl).trans ?_
    refine (c_X11_isKeptPlace i_X11_code_36 (K9_s k1) (ltd d_X11_code (by decide)) stOk_0 rfl).trans ?_
    refine (congrArg (cl _ _ _ _) (b_X11_isKeptPlace_0 w2 k1)).trans ?_
    refine (cl_v _ _ _ _ _ _).trans ?_
    refine (tq_ifb_eq (pt := 56) i_X11_code_39 (by decide) rfl).trans ?_
    refine ite_congr rfl (fun c4 => ?_) (fun c4 => ?_)
    · refine (tq_iload_n i_X11_code_42 rfl rfl).trans ?_
      refine (tq_bipush i_X11_code_43 rfl).trans ?_
      refine (tq_icmp_ne (pt := 66) i_X11_code_45 w1 w_98 (by decide) rfl).trans ?_
      refine ite_congr rfl (fun c5 => ?_) (fun c5 => ?_)
      · rfl
      · refine (tq_aload_n i_X11_code_48 rfl (isA_ref _) rfl).trans ?_
        refine (tq_iload_n i_X11_code_49 rfl rfl).trans ?_
        refine (c_X11_isKeptPlace i_X11_code_50 (K9_s k1) (ltd d_X11_code (by decide)) stOk_0 rfl).trans ?_
        refine (congrArg (cl _ _ _ _) (b_X11_isKeptPlace_0 w3 k1)).trans ?_
        refine (cl_v _ _ _ _ _ _).trans ?_
        refine (tq_ifb_ne (pt := 66) i_X11_code_53 (by decide) rfl).trans ?_
        refine ite_congr rfl (fun c6 => ?_) (fun c6 => ?_)
        · rfl
        · exact tq_newx i_X11_code_56
    · exact tq_newx i_X11_code_56
theorem i_X11_code_66 : am_i m_X11_code 66 = some (66, .aload_n 0, 1, [], 0) := rfl
theorem i_X11_code_67 : am_i m_X11_code 67 = some (67, .getfield 43, 3, [9, 8, 0], 0) := rfl
theorem i_X11_code_70 : am_i m_X11_code 70 = some (70, .bipush 12, 2, [], 12) := rfl
theorem i_X11_code_72 : am_i m_X11_code 72 = some (72, .if_icmp .lt 13, 3, [], 0) := rfl
theorem i_X11_code_75 : am_i m_X11_code 75 = some (75, .new 160, 3, [2, 0], 0) := rfl
theorem b_X11_code_66 {a0 : Nat} {x1 x2 x3 : Int} {v4 : Value} {h : am_H} (k1 : K9 h a0) : rn m_X11_code 66 [.ref a0, .int (mI x1), .int (mI x2), .int (mI x3), v4] [] h = if (fZ h a0 8) < 12 then rn m_X11_code 85 [.ref a0, .int (mI x1), .int (mI x2), .int (mI x3), v4] [] h else some (.inr 2, hexc h) := by
  refine (tq_aload_n i_X11_code_66 rfl (isA_ref _) rfl).trans ?_
  refine (tq_getfield i_X11_code_67 (K9_s k1) (g_9_8 (K9_s k1)) (isV_I _) rfl).trans ?_
  refine (tq_bipush i_X11_code_70 rfl).trans ?_
  refine (tq_icmp_lt (pt := 85) i_X11_code_72 (wr_fZ _ _ _) w_12 (by decide) rfl).trans ?_
  refine ite_congr rfl (fun c1 => ?_) (fun c1 => ?_)
  · rfl
  · exact tq_newx i_X11_code_75
theorem i_X11_code_85 : am_i m_X11_code 85 = some (85, .aload_n 0, 1, [], 0) := rfl
theorem i_X11_code_86 : am_i m_X11_code 86 = some (86, .getfield 47, 3, [9, 9, 0], 0) := rfl
theorem i_X11_code_89 : am_i m_X11_code 89 = some (89, .iload_n 1, 1, [], 0) := rfl
theorem i_X11_code_90 : am_i m_X11_code 90 = some (90, .iload_n 2, 1, [], 0) := rfl
theorem i_X11_code_91 : am_i m_X11_code 91 = some (91, .iload_n 3, 1, [], 0) := rfl
theorem i_X11_code_92 : am_i m_X11_code 92 = some (92, .invokevirtual 165, 3, [25, 6], 0) := rfl
theorem b_X11_code_85 {a0 a0_draft : Nat} {x1 x2 x3 x1' : Int} {v4 : Value} {h : am_H} (w1 : wr x1 = x1') (k1 : K9 h a0) (e2 : fA h a0 9 = some a0_draft) (k3 : K6 h a0_draft) (g4 : 0 ≤ x1' ∧ x1' ≤ 65535) : rn m_X11_code 85 [.ref a0, .int (mI x1), .int (mI x2), .int (mI x3), v4] [] h = rn m_X11_code 95 [.ref a0, .int (mI x1), .int (mI x2), .int (mI x3), v4] [] (uF 6 (uF 6 (uF 6 h a0_draft 0 (.int (mI x1))) a0_draft 1 (.int (mI x2))) a0_draft 2 (.int (mI x3))) := by
  refine (tq_aload_n i_X11_code_85 rfl (isA_ref _) rfl).trans ?_
  refine (tq_getfield i_X11_code_86 (K9_s k1) (gR (g_9_9 (K9_s k1)) e2) (isV_ref _) rfl).trans ?_
  refine (tq_iload_n i_X11_code_89 rfl rfl).trans ?_
  refine (tq_iload_n i_X11_code_90 rfl rfl).trans ?_
  refine (tq_iload_n i_X11_code_91 rfl rfl).trans ?_
  refine (c_X6_describe i_X11_code_92 (K6_s k3) (ltd d_X11_code (by decide)) stOk_0 rfl).trans ?_
  refine (congrArg (cl _ _ _ _) (b_X6_describe_0 w1 g4 k3)).trans ?_
  refine (cl_n _ _ _ _ _).trans ?_
  rfl
theorem i_X11_code_95 : am_i m_X11_code 95 = some (95, .aload_n 0, 1, [], 0) := rfl
theorem i_X11_code_96 : am_i m_X11_code 96 = some (96, .getfield 47, 3, [9, 9, 0], 0) := rfl
theorem i_X11_code_99 : am_i m_X11_code 99 = some (99, .aload_n 0, 1, [], 0) := rfl
theorem i_X11_code_100 : am_i m_X11_code 100 = some (100, .getfield 16, 3, [9, 2, 0], 0) := rfl
theorem i_X11_code_103 : am_i m_X11_code 103 = some (103, .aload_n 0, 1, [], 0) := rfl
theorem i_X11_code_104 : am_i m_X11_code 104 = some (104, .getfield 20, 3, [9, 3, 0], 0) := rfl
theorem i_X11_code_107 : am_i m_X11_code 107 = some (107, .aload_n 0, 1, [], 0) := rfl
theorem i_X11_code_108 : am_i m_X11_code 108 = some (108, .getfield 23, 3, [9, 4, 0], 0) := rfl
theorem i_X11_code_111 : am_i m_X11_code 111 = some (111, .aload_n 0, 1, [], 0) := rfl
theorem i_X11_code_112 : am_i m_X11_code 112 = some (112, .getfield 26, 3, [9, 5, 0], 0) := rfl
theorem i_X11_code_115 : am_i m_X11_code 115 = some (115, .invokevirtual 169, 3, [30, 6], 0) := rfl
theorem b_X11_code_95 {a0 a0_draft : Nat} {v1 v4 : Value} {x2 x3 : Int} {h : am_H} (k1 : K9 h a0) (e2 : fA h a0 9 = some a0_draft) (k3 : K6 h a0_draft) : rn m_X11_code 95 [.ref a0, v1, .int (mI x2), .int (mI x3), v4] [] h = rn m_X11_code 118 [.ref a0, v1, .int (mI x2), .int (mI x3), v4] [] (uF 6 (uF 6 (uF 6 (uF 6 h a0_draft 3 (.int (mI (fZ h a0 2)))) a0_draft 4 (.int (mI (fZ h a0 3)))) a0_draft 5 (.int (mI (fZ h a0 4)))) a0_draft 6 (.int (mI (fZ h a0 5)))) := by
  refine (tq_aload_n i_X11_code_95 rfl (isA_ref _) rfl).trans ?_
  refine (tq_getfield i_X11_code_96 (K9_s k1) (gR (g_9_9 (K9_s k1)) e2) (isV_ref _) rfl).trans ?_
  refine (tq_aload_n i_X11_code_99 rfl (isA_ref _) rfl).trans ?_
  refine (tq_getfield i_X11_code_100 (K9_s k1) (g_9_2 (K9_s k1)) (isV_I _) rfl).trans ?_
  refine (tq_aload_n i_X11_code_103 rfl (isA_ref _) rfl).trans ?_
  refine (tq_getfield i_X11_code_104 (K9_s k1) (g_9_3 (K9_s k1)) (isV_I _) rfl).trans ?_
  refine (tq_aload_n i_X11_code_107 rfl (isA_ref _) rfl).trans ?_
  refine (tq_getfield i_X11_code_108 (K9_s k1) (g_9_4 (K9_s k1)) (isV_I _) rfl).trans ?_
  refine (tq_aload_n i_X11_code_111 rfl (isA_ref _) rfl).trans ?_
  refine (tq_getfield i_X11_code_112 (K9_s k1) (g_9_5 (K9_s k1)) (isV_I _) rfl).trans ?_
  refine (c_X6_useSettings i_X11_code_115 (K6_s k3) (ltd d_X11_code (by decide)) stOk_0 rfl).trans ?_
  refine (congrArg (cl _ _ _ _) (b_X6_useSettings_0 (wr_fZ _ _ _) k3 (fb_9_5 (K9_s k1)))).trans ?_
  refine (cl_n _ _ _ _ _).trans ?_
  rfl
theorem i_X11_code_118 : am_i m_X11_code 118 = some (118, .aload_n 0, 1, [], 0) := rfl
theorem i_X11_code_119 : am_i m_X11_code 119 = some (119, .getfield 60, 3, [9, 12, 0], 0) := rfl
theorem i_X11_code_122 : am_i m_X11_code 122 = some (122, .aload_n 0, 1, [], 0) := rfl
theorem i_X11_code_123 : am_i m_X11_code 123 = some (123, .getfield 47, 3, [9, 9, 0], 0) := rfl
theorem i_X11_code_126 : am_i m_X11_code 126 = some (126, .aload_n 0, 1, [], 0) := rfl
theorem i_X11_code_127 : am_i m_X11_code 127 = some (127, .iload_n 2, 1, [], 0) := rfl
theorem i_X11_code_128 : am_i m_X11_code 128 = some (128, .invokevirtual 173, 3, [129, 9], 0) := rfl
theorem b_X11_code_118 {a0 a0_draft : Nat} {v1 v4 : Value} {x2 x3 : Int} {h : am_H} (k1 : K9 h a0) (e2 : fA h a0 9 = some a0_draft) : rn m_X11_code 118 [.ref a0, v1, .int (mI x2), .int (mI x3), v4] [] h = cl m_X11_code 131 [.ref a0, v1, .int (mI x2), .int (mI x3), v4] [.ref a0_draft, .ref (a0 + 15)] (rn m_X11_keptPixels 0 [.ref a0, .int (mI x2)] [] h) := by
  refine (tq_aload_n i_X11_code_118 rfl (isA_ref _) rfl).trans ?_
  refine (tq_getfield i_X11_code_119 (K9_s k1) (gR (g_9_12 (K9_s k1)) (K9_e12 k1)) (isV_ref _) rfl).trans ?_
  refine (tq_aload_n i_X11_code_122 rfl (isA_ref _) rfl).trans ?_
  refine (tq_getfield i_X11_code_123 (K9_s k1) (gR (g_9_9 (K9_s k1)) e2) (isV_ref _) rfl).trans ?_
  refine (tq_aload_n i_X11_code_126 rfl (isA_ref _) rfl).trans ?_
  refine (tq_iload_n i_X11_code_127 rfl rfl).trans ?_
  exact c_X11_keptPixels i_X11_code_128 (K9_s k1) (ltd d_X11_code (by decide)) (stOk_2 _ _) rfl
theorem i_X11_code_131 : am_i m_X11_code 131 = some (131, .aload_n 0, 1, [], 0) := rfl
theorem i_X11_code_132 : am_i m_X11_code 132 = some (132, .iload_n 3, 1, [], 0) := rfl
theorem i_X11_code_133 : am_i m_X11_code 133 = some (133, .invokevirtual 173, 3, [129, 9], 0) := rfl
theorem b_X11_code_131 {a0 as1 as2 : Nat} {v1 v2 v4 : Value} {x3 : Int} {rs0 : Option Nat} {h : am_H} (k1 : K9 h a0) : rn m_X11_code 131 [.ref a0, v1, v2, .int (mI x3), v4] [am_rv rs0, .ref as1, .ref as2] h = cl m_X11_code 136 [.ref a0, v1, v2, .int (mI x3), v4] [am_rv rs0, .ref as1, .ref as2] (rn m_X11_keptPixels 0 [.ref a0, .int (mI x3)] [] h) := by
  refine (tq_aload_n i_X11_code_131 rfl (isA_ref _) rfl).trans ?_
  refine (tq_iload_n i_X11_code_132 rfl rfl).trans ?_
  exact c_X11_keptPixels i_X11_code_133 (K9_s k1) (ltd d_X11_code (by decide)) (stOk_3 _ _ _) rfl
theorem i_X11_code_136 : am_i m_X11_code 136 = some (136, .invokevirtual 177, 3, [92, 2], 0) := rfl
theorem b_X11_code_136 {a0 as2 as3 : Nat} {v1 v2 v3 v4 : Value} {rs0 rs1 : Option Nat} {h : am_H} (k1 : K2 h as3) : rn m_X11_code 136 [.ref a0, v1, v2, v3, v4] [am_rv rs0, am_rv rs1, .ref as2, .ref as3] h = cl m_X11_code 139 [.ref a0, v1, v2, v3, v4] [] (rn m_X2_lean 0 [.ref as3, .ref as2, am_rv rs1, am_rv rs0] [] h) := by
  exact c_X2_lean i_X11_code_136 (K2_s k1) (ltd d_X11_code (by decide)) (isA_ref _) (isA_rv _) (isA_rv _) stOk_0 rfl
theorem i_X11_code_139 : am_i m_X11_code 139 = some (139, .aload_n 0, 1, [], 0) := rfl
theorem i_X11_code_140 : am_i m_X11_code 140 = some (140, .getfield 60, 3, [9, 12, 0], 0) := rfl
theorem i_X11_code_143 : am_i m_X11_code 143 = some (143, .aload_n 0, 1, [], 0) := rfl
theorem i_X11_code_144 : am_i m_X11_code 144 = some (144, .getfield 47, 3, [9, 9, 0], 0) := rfl
theorem i_X11_code_147 : am_i m_X11_code 147 = some (147, .aload_n 0, 1, [], 0) := rfl
theorem i_X11_code_148 : am_i m_X11_code 148 = some (148, .getfield 9, 3, [9, 0, 0], 0) := rfl
theorem i_X11_code_151 : am_i m_X11_code 151 = some (151, .invokevirtual 181, 3, [103, 2], 0) := rfl
theorem b_X11_code_139 {a0 a0_draft : Nat} {v1 v2 v3 v4 : Value} {h : am_H} (k1 : K9 h a0) (e2 : fA h a0 9 = some a0_draft) : rn m_X11_code 139 [.ref a0, v1, v2, v3, v4] [] h = cl m_X11_code 154 [.ref a0, v1, v2, v3, v4] [] (rn m_X2_choose 0 [.ref (a0 + 15), .ref a0_draft, .ref (a0 + 1), am_J, am_J, am_J, am_J] [] h) := by
  refine (tq_aload_n i_X11_code_139 rfl (isA_ref _) rfl).trans ?_
  refine (tq_getfield i_X11_code_140 (K9_s k1) (gR (g_9_12 (K9_s k1)) (K9_e12 k1)) (isV_ref _) rfl).trans ?_
  refine (tq_aload_n i_X11_code_143 rfl (isA_ref _) rfl).trans ?_
  refine (tq_getfield i_X11_code_144 (K9_s k1) (gR (g_9_9 (K9_s k1)) e2) (isV_ref _) rfl).trans ?_
  refine (tq_aload_n i_X11_code_147 rfl (isA_ref _) rfl).trans ?_
  refine (tq_getfield i_X11_code_148 (K9_s k1) (gR (g_9_0 (K9_s k1)) (K9_e0 k1)) (isV_ref _) rfl).trans ?_
  exact c_X2_choose i_X11_code_151 (K2_s (K9_k12 k1)) (ltd d_X11_code (by decide)) (isA_ref _) (isA_ref _) stOk_0 rfl
theorem i_X11_code_154 : am_i m_X11_code 154 = some (154, .aload_n 0, 1, [], 0) := rfl
theorem i_X11_code_155 : am_i m_X11_code 155 = some (155, .getfield 67, 3, [9, 13, 0], 0) := rfl
theorem i_X11_code_158 : am_i m_X11_code 158 = some (158, .aload_n 0, 1, [], 0) := rfl
theorem i_X11_code_159 : am_i m_X11_code 159 = some (159, .getfield 47, 3, [9, 9, 0], 0) := rfl
theorem i_X11_code_162 : am_i m_X11_code 162 = some (162, .iconst 0, 1, [], 0) := rfl
theorem i_X11_code_163 : am_i m_X11_code 163 = some (163, .invokevirtual 185, 3, [105, 7], 0) := rfl
theorem b_X11_code_154 {a0 a0_draft : Nat} {v1 v2 v3 v4 : Value} {h : am_H} (k1 : K9 h a0) (e2 : fA h a0 9 = some a0_draft) : rn m_X11_code 154 [.ref a0, v1, v2, v3, v4] [] h = cl m_X11_code 166 [.ref a0, v1, v2, v3, v4] [] (rn m_X8_writeSlice 0 [.ref (a0 + 26), .ref a0_draft, .int (mI 0), am_J, am_J, am_J] [] h) := by
  refine (tq_aload_n i_X11_code_154 rfl (isA_ref _) rfl).trans ?_
  refine (tq_getfield i_X11_code_155 (K9_s k1) (gR (g_9_13 (K9_s k1)) (K9_e13 k1)) (isV_ref _) rfl).trans ?_
  refine (tq_aload_n i_X11_code_158 rfl (isA_ref _) rfl).trans ?_
  refine (tq_getfield i_X11_code_159 (K9_s k1) (gR (g_9_9 (K9_s k1)) e2) (isV_ref _) rfl).trans ?_
  refine (tq_iconst i_X11_code_162 rfl).trans ?_
  exact c_X8_writeSlice i_X11_code_163 (K7_s (K9_k13 k1)) (ltd d_X11_code (by decide)) (isA_ref _) stOk_0 rfl
theorem i_X11_code_166 : am_i m_X11_code 166 = some (166, .aload_n 0, 1, [], 0) := rfl
theorem i_X11_code_167 : am_i m_X11_code 167 = some (167, .getfield 67, 3, [9, 13, 0], 0) := rfl
theorem i_X11_code_170 : am_i m_X11_code 170 = some (170, .aload_n 0, 1, [], 0) := rfl
theorem i_X11_code_171 : am_i m_X11_code 171 = some (171, .getfield 47, 3, [9, 9, 0], 0) := rfl
theorem i_X11_code_174 : am_i m_X11_code 174 = some (174, .iconst 1, 1, [], 1) := rfl
theorem i_X11_code_175 : am_i m_X11_code 175 = some (175, .invokevirtual 185, 3, [105, 7], 0) := rfl
theorem b_X11_code_166 {a0 a0_draft : Nat} {v1 v2 v3 v4 : Value} {h : am_H} (k1 : K9 h a0) (e2 : fA h a0 9 = some a0_draft) : rn m_X11_code 166 [.ref a0, v1, v2, v3, v4] [] h = cl m_X11_code 178 [.ref a0, v1, v2, v3, v4] [] (rn m_X8_writeSlice 0 [.ref (a0 + 26), .ref a0_draft, .int (mI 1), am_J, am_J, am_J] [] h) := by
  refine (tq_aload_n i_X11_code_166 rfl (isA_ref _) rfl).trans ?_
  refine (tq_getfield i_X11_code_167 (K9_s k1) (gR (g_9_13 (K9_s k1)) (K9_e13 k1)) (isV_ref _) rfl).trans ?_
  refine (tq_aload_n i_X11_code_170 rfl (isA_ref _) rfl).trans ?_
  refine (tq_getfield i_X11_code_171 (K9_s k1) (gR (g_9_9 (K9_s k1)) e2) (isV_ref _) rfl).trans ?_
  refine (tq_iconst i_X11_code_174 rfl).trans ?_
  exact c_X8_writeSlice i_X11_code_175 (K7_s (K9_k13 k1)) (ltd d_X11_code (by decide)) (isA_ref _) stOk_0 rfl
theorem i_X11_code_178 : am_i m_X11_code 178 = some (178, .aload_n 0, 1, [], 0) := rfl
theorem i_X11_code_179 : am_i m_X11_code 179 = some (179, .getfield 67, 3, [9, 13, 0], 0) := rfl
theorem i_X11_code_182 : am_i m_X11_code 182 = some (182, .invokevirtual 189, 3, [36, 7], 0) := rfl
theorem b_X11_code_178 {a0 : Nat} {v1 v2 v3 v4 : Value} {h : am_H} (k1 : K9 h a0) : rn m_X11_code 178 [.ref a0, v1, v2, v3, v4] [] h = cl m_X11_code 185 [.ref a0, v1, v2, v3, v4] [] (rn m_X8_bits 0 [.ref (a0 + 26)] [] h) := by
  refine (tq_aload_n i_X11_code_178 rfl (isA_ref _) rfl).trans ?_
  refine (tq_getfield i_X11_code_179 (K9_s k1) (gR (g_9_13 (K9_s k1)) (K9_e13 k1)) (isV_ref _) rfl).trans ?_
  exact c_X8_bits i_X11_code_182 (K7_s (K9_k13 k1)) (ltd d_X11_code (by decide)) stOk_0 rfl
theorem i_X11_code_185 : am_i m_X11_code 185 = some (185, .istore 4, 2, [], 0) := rfl
theorem i_X11_code_187 : am_i m_X11_code 187 = some (187, .aload_n 0, 1, [], 0) := rfl
theorem i_X11_code_188 : am_i m_X11_code 188 = some (188, .getfield 33, 3, [9, 6, 0], 0) := rfl
theorem i_X11_code_191 : am_i m_X11_code 191 = some (191, .iload 4, 2, [], 0) := rfl
theorem i_X11_code_193 : am_i m_X11_code 193 = some (193, .invokevirtual 192, 3, [40, 0], 0) := rfl
theorem i_X11_code_196 : am_i m_X11_code 196 = some (196, .ifCond .ne 13, 3, [], 0) := rfl
theorem i_X11_code_199 : am_i m_X11_code 199 = some (199, .new 195, 3, [3, 0], 0) := rfl
theorem i_X11_code_209 : am_i m_X11_code 209 = some (209, .aload_n 0, 1, [], 0) := rfl
theorem i_X11_code_210 : am_i m_X11_code 210 = some (210, .getfield 47, 3, [9, 9, 0], 0) := rfl
theorem i_X11_code_213 : am_i m_X11_code 213 = some (213, .aload_n 0, 1, [], 0) := rfl
theorem i_X11_code_214 : am_i m_X11_code 214 = some (214, .getfield 67, 3, [9, 13, 0], 0) := rfl
theorem i_X11_code_217 : am_i m_X11_code 217 = some (217, .iconst 0, 1, [], 0) := rfl
theorem i_X11_code_218 : am_i m_X11_code 218 = some (218, .invokevirtual 200, 3, [86, 7], 0) := rfl
theorem b_X11_code_185 {a0 a0_draft : Nat} {v1 v2 v3 v4 : Value} {xs0 : Int} {h : am_H} (k1 : K9 h a0) (e2 : fA h a0 9 = some a0_draft) : rn m_X11_code 185 [.ref a0, v1, v2, v3, v4] [.int (mI xs0)] h = if (¬ (¬ ((fZ h (a0 + 3) 0) ≤ 0)) ∨ (¬ ((fZ h (a0 + 3) 0) < (wr ((if (fZ h (a0 + 3) 2) ≤ (fZ h (a0 + 3) 1) then 0 else (fZ h (a0 + 3) 2) - (fZ h (a0 + 3) 1)) + xs0))))) then cl m_X11_code 221 [.ref a0, v1, v2, (am_k1 v3), .int (mI xs0)] [.ref a0_draft] (rn m_X8_slice 0 [.ref (a0 + 26), .int (mI 0)] [] h) else some (.inr 3, hexc h) := by
  refine (tq_istore (L' := [.ref a0, v1, v2, (am_k1 v3), .int (mI xs0)]) i_X11_code_185 rfl rfl).trans ?_
  refine (tq_aload_n i_X11_code_187 rfl (isA_ref _) rfl).trans ?_
  refine (tq_getfield i_X11_code_188 (K9_s k1) (gR (g_9_6 (K9_s k1)) (K9_e6 k1)) (isV_ref _) rfl).trans ?_
  refine (tq_iload i_X11_code_191 rfl rfl).trans ?_
  refine (c_X0_hasRoomFor i_X11_code_193 (K0_s (K9_k6 k1)) (ltd d_X11_code (by decide)) stOk_0 rfl).trans ?_
  refine (congrArg (cl _ _ _ _) (b_X0_hasRoomFor_0 (K9_k6 k1))).trans ?_
  refine (cl_v _ _ _ _ _ _).trans ?_
  refine (tq_ifb_ne (pt := 209) i_X11_code_196 (by decide) rfl).trans ?_
  refine ite_congr rfl (fun c1 => ?_) (fun c1 => ?_)
  · refine (tq_aload_n i_X11_code_209 rfl (isA_ref _) rfl).trans ?_
    refine (tq_getfield i_X11_code_210 (K9_s k1) (gR (g_9_9 (K9_s k1)) e2) (isV_ref _) rfl).trans ?_
    refine (tq_aload_n i_X11_code_213 rfl (isA_ref _) rfl).trans ?_
    refine (tq_getfield i_X11_code_214 (K9_s k1) (gR (g_9_13 (K9_s k1)) (K9_e13 k1)) (isV_ref _) rfl).trans ?_
    refine (tq_iconst i_X11_code_217 rfl).trans ?_
    exact c_X8_slice i_X11_code_218 (K7_s (K9_k13 k1)) (ltd d_X11_code (by decide)) (stOk_1 _) rfl
  · exact tq_newx i_X11_code_199
theorem i_X11_code_221 : am_i m_X11_code 221 = some (221, .aload_n 0, 1, [], 0) := rfl
theorem i_X11_code_222 : am_i m_X11_code 222 = some (222, .getfield 67, 3, [9, 13, 0], 0) := rfl
theorem i_X11_code_225 : am_i m_X11_code 225 = some (225, .iconst 1, 1, [], 1) := rfl
theorem i_X11_code_226 : am_i m_X11_code 226 = some (226, .invokevirtual 200, 3, [86, 7], 0) := rfl
theorem b_X11_code_221 {a0 as0 as1 : Nat} {v1 v2 v3 : Value} {x4 : Int} {h : am_H} (k1 : K9 h a0) : rn m_X11_code 221 [.ref a0, v1, v2, v3, .int (mI x4)] [.ref as0, .ref as1] h = cl m_X11_code 229 [.ref a0, v1, v2, v3, .int (mI x4)] [.ref as0, .ref as1] (rn m_X8_slice 0 [.ref (a0 + 26), .int (mI 1)] [] h) := by
  refine (tq_aload_n i_X11_code_221 rfl (isA_ref _) rfl).trans ?_
  refine (tq_getfield i_X11_code_222 (K9_s k1) (gR (g_9_13 (K9_s k1)) (K9_e13 k1)) (isV_ref _) rfl).trans ?_
  refine (tq_iconst i_X11_code_225 rfl).trans ?_
  exact c_X8_slice i_X11_code_226 (K7_s (K9_k13 k1)) (ltd d_X11_code (by decide)) (stOk_2 _ _) rfl
theorem i_X11_code_229 : am_i m_X11_code 229 = some (229, .aload_n 0, 1, [], 0) := rfl
theorem i_X11_code_230 : am_i m_X11_code 230 = some (230, .getfield 9, 3, [9, 0, 0], 0) := rfl
theorem i_X11_code_233 : am_i m_X11_code 233 = some (233, .invokevirtual 203, 3, [65, 6], 0) := rfl
theorem b_X11_code_229 {a0 as0 as1 as2 : Nat} {v1 v2 v3 : Value} {x4 : Int} {h : am_H} (k1 : K9 h a0) (k2 : K6 h as2) : rn m_X11_code 229 [.ref a0, v1, v2, v3, .int (mI x4)] [.ref as0, .ref as1, .ref as2] h = cl m_X11_code 236 [.ref a0, v1, v2, v3, .int (mI x4)] [] (rn m_X6_finish 0 [.ref as2, .ref as1, .ref as0, .ref (a0 + 1), am_J, am_J] [] h) := by
  refine (tq_aload_n i_X11_code_229 rfl (isA_ref _) rfl).trans ?_
  refine (tq_getfield i_X11_code_230 (K9_s k1) (gR (g_9_0 (K9_s k1)) (K9_e0 k1)) (isV_ref _) rfl).trans ?_
  exact c_X6_finish i_X11_code_233 (K6_s k2) (ltd d_X11_code (by decide)) (isA_ref _) (isA_ref _) (isA_ref _) stOk_0 rfl
theorem i_X11_code_236 : am_i m_X11_code 236 = some (236, .aload_n 0, 1, [], 0) := rfl
theorem i_X11_code_237 : am_i m_X11_code 237 = some (237, .getfield 33, 3, [9, 6, 0], 0) := rfl
theorem i_X11_code_240 : am_i m_X11_code 240 = some (240, .iload 4, 2, [], 0) := rfl
theorem i_X11_code_242 : am_i m_X11_code 242 = some (242, .invokevirtual 207, 3, [43, 0], 0) := rfl
theorem b_X11_code_236 {a0 : Nat} {v1 v2 v3 : Value} {x4 : Int} {h : am_H} (k1 : K9 h a0) : rn m_X11_code 236 [.ref a0, v1, v2, v3, .int (mI x4)] [] h = cl m_X11_code 245 [.ref a0, v1, v2, v3, .int (mI x4)] [] (rn m_X0_take 0 [.ref (a0 + 3), .int (mI x4)] [] h) := by
  refine (tq_aload_n i_X11_code_236 rfl (isA_ref _) rfl).trans ?_
  refine (tq_getfield i_X11_code_237 (K9_s k1) (gR (g_9_6 (K9_s k1)) (K9_e6 k1)) (isV_ref _) rfl).trans ?_
  refine (tq_iload i_X11_code_240 rfl rfl).trans ?_
  exact c_X0_take i_X11_code_242 (K0_s (K9_k6 k1)) (ltd d_X11_code (by decide)) stOk_0 rfl
theorem i_X11_code_245 : am_i m_X11_code 245 = some (245, .aload_n 0, 1, [], 0) := rfl
theorem i_X11_code_246 : am_i m_X11_code 246 = some (246, .aload_n 0, 1, [], 0) := rfl
theorem i_X11_code_247 : am_i m_X11_code 247 = some (247, .getfield 33, 3, [9, 6, 0], 0) := rfl
theorem i_X11_code_250 : am_i m_X11_code 250 = some (250, .aload_n 0, 1, [], 0) := rfl
theorem i_X11_code_251 : am_i m_X11_code 251 = some (251, .getfield 16, 3, [9, 2, 0], 0) := rfl
theorem i_X11_code_254 : am_i m_X11_code 254 = some (254, .invokevirtual 210, 3, [42, 0], 0) := rfl
theorem b_X11_code_245 {a0 : Nat} {v1 v2 v3 : Value} {x4 : Int} {h : am_H} (k1 : K9 h a0) : rn m_X11_code 245 [.ref a0, v1, v2, v3, .int (mI x4)] [] h = cl m_X11_code 257 [.ref a0, v1, v2, v3, .int (mI x4)] [.ref a0] (rn m_X0_steer 0 [.ref (a0 + 3), .int (mI (fZ h a0 2))] [] h) := by
  refine (tq_aload_n i_X11_code_245 rfl (isA_ref _) rfl).trans ?_
  refine (tq_aload_n i_X11_code_246 rfl (isA_ref _) rfl).trans ?_
  refine (tq_getfield i_X11_code_247 (K9_s k1) (gR (g_9_6 (K9_s k1)) (K9_e6 k1)) (isV_ref _) rfl).trans ?_
  refine (tq_aload_n i_X11_code_250 rfl (isA_ref _) rfl).trans ?_
  refine (tq_getfield i_X11_code_251 (K9_s k1) (g_9_2 (K9_s k1)) (isV_I _) rfl).trans ?_
  exact c_X0_steer i_X11_code_254 (K0_s (K9_k6 k1)) (ltd d_X11_code (by decide)) (stOk_1 _) rfl
theorem i_X11_code_257 : am_i m_X11_code 257 = some (257, .putfield 16, 3, [9, 2, 0], 0) := rfl
theorem i_X11_code_260 : am_i m_X11_code 260 = some (260, .aload_n 0, 1, [], 0) := rfl
theorem i_X11_code_261 : am_i m_X11_code 261 = some (261, .invokevirtual 213, 3, [74, 9], 0) := rfl
theorem b_X11_code_257 {a0 as1 : Nat} {v1 v2 v3 : Value} {x4 xs0 : Int} {h : am_H} (k1 : K9 h as1) (k2 : K9 h a0) : rn m_X11_code 257 [.ref a0, v1, v2, v3, .int (mI x4)] [.int (mI xs0), .ref as1] h = cl m_X11_code 264 [.ref a0, v1, v2, v3, .int (mI x4)] [] (rn m_X11_takeDraft 0 [.ref a0] [] (uF 9 h as1 2 (.int (mI xs0)))) := by
  refine (tq_putfield i_X11_code_257 (K9_s k1) (okf_9_2 _) rfl).trans ?_
  refine (tq_aload_n i_X11_code_260 rfl (isA_ref _) rfl).trans ?_
  exact c_X11_takeDraft i_X11_code_261 ((sh_uF _ _ _ _ _ _).trans (K9_s k2)) (ltd d_X11_code (by decide)) stOk_0 rfl
theorem i_X11_code_264 : am_i m_X11_code 264 = some (264, .iload 4, 2, [], 0) := rfl
theorem i_X11_code_266 : am_i m_X11_code 266 = some (266, .ireturn, 1, [], 0) := rfl
theorem b_X11_code_264 {v0 v1 v2 v3 : Value} {x4 : Int} {h : am_H} : rn m_X11_code 264 [v0, v1, v2, v3, .int (mI x4)] [] h = some (.inl (some (.int (mI x4))), h) := by
  refine (tq_iload i_X11_code_264 rfl rfl).trans ?_
  exact tq_ireturn i_X11_code_266 r_X11_code rfl
/-- which requests are taken -/
def isRq (σ : St) (kd a b : Int) : Prop := isKind kd ∧ (kd ≠ 105 → 0 ≤ a ∧ a < tz σ 8) ∧ (kd = 98 → 0 ≤ b ∧ b < tz σ 8)
theorem c_code_x (rc : RC σ h D) (wf : WfS σ c) {kd a b : Int} (wk : wr kd = kd) (wa : wr a = a) (wb : wr b = b) : (¬ isKind kd → rn m_X11_code 0 [.ref 2, .int (mI kd), .int (mI a), .int (mI b), am_J] [] h = some (.inr 0, hexc h)) ∧ (isKind kd → ¬ isRq σ kd a b → rn m_X11_code 0 [.ref 2, .int (mI kd), .int (mI a), .int (mI b), am_J] [] h = some (.inr 1, hexc h)) ∧ (isRq σ kd a b → rn m_X11_code 0 [.ref 2, .int (mI kd), .int (mI a), .int (mI b), am_J] [] h = rn m_X11_code 66 [.ref 2, .int (mI kd), .int (mI a), .int (mI b), am_J] [] h) := by
  have en : fZ h 2 11 = tz σ 8 := rc.2.2.2.1.2.2.2
  have st := b_X11_code_0 (a0 := 2) (x1 := kd) (x2 := a) (x3 := b) (h := h) wk
  have st2 := b_X11_code_28 (a0 := 2) (x1 := kd) (x2 := a) (x3 := b) (v4 := am_J) (h := h) wk wa wb rc.1
  rw [en] at st2
  have s0 : isKind kd → rn m_X11_code 0 [.ref 2, .int (mI kd), .int (mI a), .int (mI b), am_J] [] h = rn m_X11_code 28 [.ref 2, .int (mI kd), .int (mI a), .int (mI b), am_J] [] h := fun hk => by
    rw [st]
    by_cases c1 : kd = 105
    · rw [if_pos c1]
    · rw [if_neg c1]
      by_cases c2 : kd = 112
      · rw [if_pos c2]
      · rw [if_neg c2, if_pos (by unfold isKind at hk; omega)]
  refine ⟨fun g => ?_, fun hk g => ?_, fun g => ?_⟩
  · unfold isKind at g
    rw [if_neg (by omega), if_neg (by omega), if_neg (by omega)] at st
    exact st
  · rw [s0 hk, st2]
    unfold isRq at g
    by_cases c1 : kd = 105
    · exact absurd ⟨hk, fun q => absurd c1 q, fun q => by omega⟩ g
    · rw [if_neg c1]
      by_cases c2 : 0 ≤ a ∧ a < tz σ 8
      · rw [if_pos (by omega)]
        by_cases c3 : kd = 98
        · rw [if_neg (fun q => q c3)]
          by_cases c4 : 0 ≤ b ∧ b < tz σ 8
          · exact absurd ⟨hk, fun _ => c2, fun _ => c4⟩ g
          · rw [if_neg (by omega)]
        · exact absurd ⟨hk, fun _ => c2, fun q => absurd q c3⟩ g
      · rw [if_neg (by omega)]
  · obtain ⟨hk, ha, hb⟩ := g
    rw [s0 hk, st2]
    by_cases c1 : kd = 105
    · rw [if_pos c1, if_pos (by omega)]
    · have := ha c1
      rw [if_neg c1, if_pos (by omega)]
      by_cases c3 : kd = 98
      · have := hb c3
        rw [if_neg (fun q => q c3), if_pos (by omega)]
      · rw [if_pos c3]
theorem i_X8_bits_0 : am_i m_X8_bits 0 = some (0, .bipush 8, 2, [], 8) := rfl
theorem i_X8_bits_2 : am_i m_X8_bits 2 = some (2, .aload_n 0, 1, [], 0) := rfl
theorem i_X8_bits_3 : am_i m_X8_bits 3 = some (3, .getfield 12, 3, [7, 0, 0], 0) := rfl
theorem i_X8_bits_6 : am_i m_X8_bits 6 = some (6, .getfield 112, 3, [8, 2, 1], 0) := rfl
theorem i_X8_bits_9 : am_i m_X8_bits 9 = some (9, .aload_n 0, 1, [], 0) := rfl
theorem i_X8_bits_10 : am_i m_X8_bits 10 = some (10, .getfield 18, 3, [7, 1, 0], 0) := rfl
theorem i_X8_bits_13 : am_i m_X8_bits 13 = some (13, .getfield 112, 3, [8, 2, 1], 0) := rfl
theorem i_X8_bits_16 : am_i m_X8_bits 16 = some (16, .iadd, 1, [], 0) := rfl
theorem i_X8_bits_17 : am_i m_X8_bits 17 = some (17, .imul, 1, [], 0) := rfl
theorem i_X8_bits_18 : am_i m_X8_bits 18 = some (18, .ireturn, 1, [], 0) := rfl
theorem b_X8_bits_0 {a0 : Nat} {h : am_H} (k1 : K7 h a0) : rn m_X8_bits 0 [.ref a0] [] h = some (.inl (some (.int (mI (8 * ((fZ h (a0 + 1) 2) + (fZ h (a0 + 4) 2)))))), h) := by
  refine (tq_bipush i_X8_bits_0 rfl).trans ?_
  refine (tq_aload_n i_X8_bits_2 rfl (isA_ref _) rfl).trans ?_
  refine (tq_getfield i_X8_bits_3 (K7_s k1) (gR (g_7_0 (K7_s k1)) (K7_e0 k1)) (isV_ref _) rfl).trans ?_
  refine (tq_getfield i_X8_bits_6 (K8_s (K7_k0 k1)) (g_8_2 (K8_s (K7_k0 k1))) (isV_I _) rfl).trans ?_
  refine (tq_aload_n i_X8_bits_9 rfl (isA_ref _) rfl).trans ?_
  refine (tq_getfield i_X8_bits_10 (K7_s k1) (gR (g_7_1 (K7_s k1)) (K7_e1 k1)) (isV_ref _) rfl).trans ?_
  refine (tq_getfield i_X8_bits_13 (K8_s (K7_k1 k1)) (g_8_2 (K8_s (K7_k1 k1))) (isV_I _) rfl).trans ?_
  refine (tq_iadd i_X8_bits_16 rfl).trans ?_
  refine (tq_imul i_X8_bits_17 rfl).trans ?_
  exact tq_ireturn i_X8_bits_18 r_X8_bits rfl
theorem c_code_pre (rc : RC σ h D) (rd : pixels (gZ h (D + 8))) (wf : WfS σ c) {kd a b : Int} (wk : wr kd = kd) (wa : wr a = a) (wb : wr b = b) (rq : isRq σ kd a b) (h7 : tz σ 7 < 12) : ∃ (h5 : am_H) (pd : Nat → Int → Int) (p : Int → Int), rn m_X11_code 0 [.ref 2, .int (mI kd), .int (mI a), .int (mI b), am_J] [] h = rn m_X11_code 185 [.ref 2, .int (mI kd), .int (mI a), .int (mI b), am_J] [.int (mI (8 * (ln0 pd kd (tz σ 1) (tz σ 2) + ln1 pd kd (tz σ 1) (tz σ 2))))] h5 ∧ Md (SKD D) h h5 ∧ pixels p ∧ (∀ s, 0 ≤ s → s < 16 → Cod (tc σ) (CF1 σ kd a) (CF2 σ kd b) kd (tz σ 1) (tz σ 2) (tz σ 0) pd p s) ∧ gZ h5 (D + 8) = smo (tz σ 0) (tz σ 1) (tz σ 2) p ∧ (fZ h5 D 0 = kd ∧ fZ h5 D 1 = a ∧ fZ h5 D 2 = b ∧ fZ h5 D 3 = tz σ 0 ∧ fZ h5 D 4 = tz σ 1 ∧ fZ h5 D 5 = tz σ 2 ∧ fZ h5 D 6 = tz σ 3) ∧ (fZ h5 29 2 = (ln0 pd kd (tz σ 1) (tz σ 2) : Nat) ∧ Dig (gZ h5 31) (ln0 pd kd (tz σ 1) (tz σ 2)) (dg0 pd kd (tz σ 1) (tz σ 2))) ∧ fZ h5 32 2 = (ln1 pd kd (tz σ 1) (tz σ 2) : Nat) ∧ (tz σ 2 = 2 → Dig (gZ h5 34) (ln1 pd kd (tz σ 1) (tz σ 2)) (dg1 pd kd (tz σ 1) (tz σ 2))) ∧ ∀ n, n < 5 → pdh h5 D n = pd n := by
  obtain ⟨a1, a2, al⟩ := RC_al rc
  have n := WFn wf
  obtain ⟨w0, w1, w2, w3, -⟩ := wf.1
  obtain ⟨s1, -⟩ := rc.2.2.2.1
  have en : fZ h 2 8 = tz σ 7 := rc.2.2.2.1.2.2.1
  have cpx := CF_pix wf rq.2.1 rq.2.2
  have kb : kd = 105 ∨ kd = 112 ∨ kd = 98 := rq.1
  have st := (c_code_x rc wf wk wa wb).2.2 rq
  have k0 := K6_s rc.2.1.2.1
  rw [b_X11_code_66 rc.1, en, if_pos h7, b_X11_code_85 wk rc.1 rc.2.1.1 rc.2.1.2.1 (by omega)] at st
  obtain ⟨hA, eA⟩ : ∃ u, u = uF 6 (uF 6 (uF 6 h D 0 (.int (mI kd))) D 1 (.int (mI a))) D 2 (.int (mI b)) := ⟨_, rfl⟩
  rw [← eA] at st
  have mA : Md (fun x k => x = D ∧ k ≤ 2) h hA := by
    rw [eA]
    exact Md_tr (Md_mono (Md_uF (Sm_uF_6_0 _ _ _)) fun a k q => ⟨q.1, by omega⟩) (Md_tr (Md_mono (Md_uF (Sm_uF_6_1 _ _ _)) fun a k q => ⟨q.1, by omega⟩) (Md_mono (Md_uF (Sm_uF_6_2 _ _ _)) fun a k q => ⟨q.1, by omega⟩))
  have fA0 : fZ hA D 0 = kd := by rw [eA, fZ_uF_k (by decide), fZ_uF_k (by decide), fZ_uF_eq k0 (okfC_6_0 wk (by omega)), wk]
  have fA1 : fZ hA D 1 = a := by rw [eA, fZ_uF_k (by decide), fZ_uF_eq ((sh_uF _ _ _ _ _ _).trans k0) (okf_6_1 _), wa]
  have fA2 : fZ hA D 2 = b := by rw [eA, fZ_uF_eq ((sh_uF _ _ _ _ _ _).trans ((sh_uF _ _ _ _ _ _).trans k0)) (okf_6_2 _), wb]
  have kA : sh hA D = (5, 6) := (md_sh mA _).trans k0
  clear eA
  rw [b_X11_code_95 (K9_sm mA.1 rc.1) ((md_fA mA (by omega)).trans rc.2.1.1) (K6_sm mA.1 rc.2.1.2.1), (md_fZ mA (a := 2) (k := 2) (by omega)).trans s1.1, (md_fZ mA (a := 2) (k := 3) (by omega)).trans s1.2.1, (md_fZ mA (a := 2) (k := 4) (by omega)).trans s1.2.2.1, (md_fZ mA (a := 2) (k := 5) (by omega)).trans s1.2.2.2] at st
  obtain ⟨h1, e1⟩ : ∃ u, u = uF 6 (uF 6 (uF 6 (uF 6 hA D 3 (.int (mI (tz σ 0)))) D 4 (.int (mI (tz σ 1)))) D 5 (.int (mI (tz σ 2)))) D 6 (.int (mI (tz σ 3))) := ⟨_, rfl⟩
  rw [← e1] at st
  have mB : Md (fun x k => x = D ∧ (3 ≤ k ∧ k ≤ 6)) hA h1 := by
    rw [e1]
    exact Md_tr (Md_mono (Md_uF (Sm_uF_6_3 _ _ _)) fun a k q => ⟨q.1, by omega⟩) (Md_tr (Md_mono (Md_uF (Sm_uF_6_4 _ _ _)) fun a k q => ⟨q.1, by omega⟩) (Md_tr (Md_mono (Md_uF (Sm_uF_6_5 _ _ _)) fun a k q => ⟨q.1, by omega⟩) (Md_mono (Md_uF (Sm_uF_6_6 _ _ _)) fun a k q => ⟨q.1, by omega⟩)))
  have m1 : Md (fun x k => x = D ∧ k ≤ 6) h h1 := Md_tr (Md_mono mA fun x k q => ⟨q.1, by omega⟩) (Md_mono mB fun x k q => ⟨q.1, by omega⟩)
  have S1 : ∀ (x : Nat) (v : Value), sh (uF 6 hA D x v) D = (5, 6) := fun x v => (sh_uF _ _ _ _ _ _).trans kA
  have fs : fZ h1 D 0 = kd ∧ fZ h1 D 1 = a ∧ fZ h1 D 2 = b ∧ fZ h1 D 3 = tz σ 0 ∧ fZ h1 D 4 = tz σ 1 ∧ fZ h1 D 5 = tz σ 2 ∧ fZ h1 D 6 = tz σ 3 := by
    refine ⟨(md_fZ mB (by omega)).trans fA0, (md_fZ mB (by omega)).trans fA1, (md_fZ mB (by omega)).trans fA2, ?_, ?_, ?_, ?_⟩
    · rw [e1, fZ_uF_k (by decide), fZ_uF_k (by decide), fZ_uF_k (by decide), fZ_uF_eq kA (okf_6_3 _), wr_id (by omega) (by omega)]
    · rw [e1, fZ_uF_k (by decide), fZ_uF_k (by decide), fZ_uF_eq (S1 _ _) (okf_6_4 _), wr_id (by omega) (by omega)]
    · rw [e1, fZ_uF_k (by decide), fZ_uF_eq ((sh_uF _ _ _ _ _ _).trans (S1 _ _)) (okf_6_5 _), wr_id (by omega) (by omega)]
    · rw [e1, fZ_uF_eq ((sh_uF _ _ _ _ _ _).trans ((sh_uF _ _ _ _ _ _).trans (S1 _ _))) (okfB_6_6 (w := tz σ 3) (wr_id (by omega) (by omega)) w3), wr_id (by omega) (by omega)]
  clear e1 S1
  have n1 : Md (SKD D) h h1 := Md_mono m1 fun x k q => by unfold SKD; omega
  have rc1 := RC_own n1 rc
  obtain ⟨r2, er2, kr2⟩ := kp_ok rc1 wf wa
  obtain ⟨r3, er3, kr3⟩ := kp_ok rc1 wf wb
  rw [b_X11_code_118 rc1.1 rc1.2.1.1] at st
  simp only [Nat.reduceAdd] at st
  rw [er2, cl_v, b_X11_code_131 rc1.1, er3, cl_v] at st
  have k2 : K2 h1 17 := K9_k12 rc1.1
  rw [b_X11_code_136 k2] at st
  have kept : ∀ (x : Int) (r : Option Nat), (0 ≤ x ∧ x < tz σ 8 → ∃ P, r = some (P + 8) ∧ PC h1 D P (tpz σ (tk σ x)) (tpd σ (tk σ x))) → 0 ≤ x ∧ x < tz σ 8 → ∃ b, r = some b ∧ (sh h1 b = (1, 0) ∧ gn h1 b = 256) ∧ (51 < b ∨ b = 15) ∧ pixels (tpd σ (tk σ x) 5) ∧ ∀ i, 0 ≤ i → i < 256 → gZ h1 b i = tpd σ (tk σ x) 5 i := by
    intro x r hr hx
    obtain ⟨P, e, pc⟩ := hr hx
    have bx := wf.2.1.2.2 x hx.1 hx.2
    obtain ⟨-, -, -, -, -, -, -, -, -, -, pp, -⟩ := wf.2.2.2.1 (tk σ x) bx.1 bx.2
    exact ⟨P + 8, e, ⟨K6_s15 pc.1, K6_n15 pc.1⟩, by have := pc.2.1.1; omega, pp, fun i i0 i1 => (pc.2.2.2.2.2.2 i i0 i1).2⟩
  obtain ⟨h2, el, m2, ro⟩ := lean_ok (kd := kd) (f1 := CF1 σ kd a) (f2 := CF2 σ kd b) (r2 := r2) (r3 := r3) k2 rc1.2.1.2.1 fs.1 (fun q => by unfold CF1; rw [if_neg q]; exact kept a r2 kr2 (rq.2.1 q)) (fun q => by unfold CF2; rw [if_pos q]; exact kept b r3 kr3 (rq.2.2 q)) a1.1
  have n2 : Md (SKD D) h1 h2 := Md_mono m2 fun x k q => by unfold SKD; omega
  have rc2 := RC_own n2 rc1
  rw [el, cl_n, b_X11_code_139 rc2.1 rc2.2.1.1] at st
  simp only [Nat.reduceAdd] at st
  have fs2 : fZ h2 D 0 = kd ∧ fZ h2 D 3 = tz σ 0 ∧ fZ h2 D 4 = tz σ 1 ∧ fZ h2 D 5 = tz σ 2 := ⟨(md_fZ m2 (by omega)).trans fs.1, (md_fZ m2 (by omega)).trans fs.2.2.2.1, (md_fZ m2 (by omega)).trans fs.2.2.2.2.1, (md_fZ m2 (by omega)).trans fs.2.2.2.2.2.1⟩
  have cy : Cy 17 D 3 (tc σ) kd (tz σ 1) (tz σ 2) (tz σ 0) := ⟨by omega, by omega, by omega, wf.2.2.1, rq.1, w1, w2, w0⟩
  have cx' : Cx h2 17 D 3 (tc σ) (CF1 σ kd a) (CF2 σ kd b) kd (tz σ 1) (tz σ 2) (tz σ 0) := ⟨K9_k12 rc2.1, rc2.2.1.2.1, K9_s0 rc2.1, K9_n0 rc2.1, rc2.2.2.1, fs2.1, fs2.2.1, fs2.2.2.1, fs2.2.2.2, ro⟩
  have d8 : gZ h2 (D + 8) = gZ h (D + 8) := (md_Z m2 (by omega)).trans (md_Z m1 (by omega))
  obtain ⟨h3, p, e3, m3, pp, cod, g8⟩ := choose_ok cy cx' (by rw [d8]; exact rd)
  have n3 : Md (SKD D) h2 h3 := Md_mono m3 fun x k q => by unfold SCo at q; unfold SKD; omega
  have rc3 := RC_own n3 rc2
  rw [e3, cl_n, b_X11_code_154 rc3.1 rc3.2.1.1] at st
  simp only [Nat.reduceAdd] at st
  have nn : ∀ k, ¬ SCo 17 D D k := fun k q => by unfold SCo at q; omega
  have fs3 : fZ h3 D 0 = kd ∧ fZ h3 D 1 = a ∧ fZ h3 D 2 = b ∧ fZ h3 D 3 = tz σ 0 ∧ fZ h3 D 4 = tz σ 1 ∧ fZ h3 D 5 = tz σ 2 ∧ fZ h3 D 6 = tz σ 3 := by
    have e := fun k => (md_fZ m3 (nn k)).trans (md_fZ m2 (a := D) (k := k) (by omega))
    exact ⟨(e _).trans fs.1, (e _).trans fs.2.1, (e _).trans fs.2.2.1, (e _).trans fs.2.2.2.1, (e _).trans fs.2.2.2.2.1, (e _).trans fs.2.2.2.2.2.1, (e _).trans fs.2.2.2.2.2.2⟩
  have hb3 : ∀ s, 0 ≤ s → s < 16 → pdB (pdh h3 D) s := fun s s0 s1 => Cod_pdB rq.1 wf.2.2.1 pp (fun _ => cpx.1) (fun _ => cpx.2) w0 ⟨s0, s1⟩ (cod s s0 s1)
  have pw3 : Pw h3 D (pdh h3 D) kd (tz σ 1) (tz σ 2) := ⟨rc3.2.1.2.1, fs3.1, fs3.2.2.2.2.1, fs3.2.2.2.2.2.1, fun n _ => rfl⟩
  obtain ⟨h4, e4, m4, l4, -⟩ := wSlice_ok (S := 28) (D := D) (w := 29) (x2 := 0) (by decide) (K9_k13 rc3.1) rc3.2.2.2.2.2.2.2 pw3 (by omega) w1 w2 hb3 (by omega)
  have n4 : Md (SKD D) h3 h4 := Md_mono m4 fun x k q => by unfold SLs SL SW at q; unfold SKD; omega
  have rc4 := RC_own n4 rc3
  rw [e4, cl_n, b_X11_code_166 rc4.1 rc4.2.1.1] at st
  simp only [Nat.reduceAdd] at st
  have o4 : ∀ a k, D ≤ a → a ≤ D + 8 → ¬ SLs 28 29 a k := fun a k ha hb q => by unfold SLs SL SW at q; omega
  have pw4 : Pw h4 D (pdh h3 D) kd (tz σ 1) (tz σ 2) := ⟨rc4.2.1.2.1, (md_fZ m4 (o4 _ _ (by omega) (by omega))).trans fs3.1, (md_fZ m4 (o4 _ _ (by omega) (by omega))).trans fs3.2.2.2.2.1, (md_fZ m4 (o4 _ _ (by omega) (by omega))).trans fs3.2.2.2.2.2.1, fun n hn => md_Z m4 (o4 _ _ (by omega) (by omega))⟩
  obtain ⟨h5, e5, m5, l5, l5'⟩ := wSlice_ok (S := 28) (D := D) (w := 32) (x2 := 1) (by decide) (K9_k13 rc4.1) rc4.2.2.2.2.2.2.2 pw4 (by omega) w1 w2 hb3 (by omega)
  have n5 : Md (SKD D) h4 h5 := Md_mono m5 fun x k q => by unfold SLs SL SW at q; unfold SKD; omega
  have rc5 := RC_own n5 rc4
  have o5 : ∀ a k, D ≤ a → a ≤ D + 8 → ¬ SLs 28 32 a k := fun a k ha hb q => by unfold SLs SL SW at q; omega
  have pd5 : ∀ n, n < 5 → pdh h5 D n = pdh h3 D n := by
    intro n hn
    exact (md_Z m5 (o5 _ _ (by omega) (by omega))).trans (md_Z m4 (o4 _ _ (by omega) (by omega)))
  obtain ⟨l41, l42⟩ := l4 (by omega)
  have f29 : fZ h5 29 2 = (ln0 (pdh h3 D) kd (tz σ 1) (tz σ 2) : Nat) := by
    exact (md_fZ m5 (by unfold SLs SL SW; omega)).trans l41
  have g31 : gZ h5 31 = gZ h4 31 := md_Z m5 (by unfold SLs SL SW; omega)
  have f32 : fZ h5 32 2 = (ln1 (pdh h3 D) kd (tz σ 1) (tz σ 2) : Nat) := by
    unfold ln1
    by_cases q : tz σ 2 = 2
    · rw [if_pos q]; exact (l5 (by omega)).1
    · rw [if_neg q]; exact l5' (by omega)
  have lb := ln_b (kd := kd) (tl := tz σ 1) (sl := tz σ 2) hb3
  rw [e5, cl_n, b_X11_code_178 rc5.1] at st
  have sb := b_X8_bits_0 (a0 := 28) (h := h5) (K9_k13 rc5.1)
  simp only [Nat.reduceAdd] at st sb
  rw [f29, f32] at sb
  rw [sb, cl_v] at st
  have e5' := fun k => (md_fZ m5 (o5 D k (Nat.le_refl _) (by omega))).trans (md_fZ m4 (o4 D k (Nat.le_refl _) (by omega)))
  refine ⟨h5, pdh h3 D, p, st, Md_tr n1 (Md_tr n2 (Md_tr n3 (Md_tr n4 n5))), pp, cod, ?_, ⟨(e5' _).trans fs3.1, (e5' _).trans fs3.2.1, (e5' _).trans fs3.2.2.1, (e5' _).trans fs3.2.2.2.1, (e5' _).trans fs3.2.2.2.2.1, (e5' _).trans fs3.2.2.2.2.2.1, (e5' _).trans fs3.2.2.2.2.2.2⟩, ⟨f29, ?_⟩, f32, fun q => ?_, pd5⟩
  · rw [← g8]
    exact (md_Z m5 (o5 _ _ (by omega) (by omega))).trans (md_Z m4 (o4 _ _ (by omega) (by omega)))
  · rw [g31]; exact l42
  · unfold ln1
    rw [if_pos q]
    exact (l5 (by omega)).2
end CC
