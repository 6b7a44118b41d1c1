/-! ===== the class codes: its parts ===== -/
theorem isH_hv {h : am_H} {a : Nat} {f g : Int → Int} (e : hv f = hv g) (q : isH h a f) : isH h a g := by
  unfold isH at *
  rw [← e]
  exact q
/-- what coding writes on the way -/
def SKD (D : Nat) : Nat → Nat → Prop := fun a _ => (D ≤ a ∧ a ≤ D + 8) ∨ (17 ≤ a ∧ a ≤ 35)
section CP
variable {σ : St} {h h' : am_H} {D : Nat} {c : Int}
theorem RC_own (m : Md (SKD D) h h') (rc : RC σ h D) : RC σ h' D := by
  obtain ⟨a1, a2, al⟩ := RC_al rc
  have F := md_fr m
  have nx := F.1.nx
  have n : ∀ a k, (a < D ∨ D + 8 < a) → (a < 17 ∨ 35 < a) → ¬ SKD D a k := fun a k h1 h2 q => by unfold SKD at q; omega
  obtain ⟨r1, r2, r6, r7, r8, r9, r10, rw⟩ := rc
  refine ⟨K9_sm m.1 r1, ⟨(md_fA m (n _ _ (by omega) (by omega))).trans r2.1, K6_sm m.1 r2.2.1, ⟨r2.2.2.1.1, by omega⟩, by omega⟩, (md_Z m (n _ _ (by omega) (by omega))).trans r6, RCs_fr F al (fun k _ => n _ _ (by omega) (by omega)) (fun k _ => n _ _ (by omega) (by omega)) r7, RCk_fr F al (n _ _ (by omega) (by omega)) r8, RCp_fr F al (n _ _ (by omega) (by omega)) (fun a k q w => ?_) r9, RCd_fr F al (fun a k a0 _ => n _ _ (by omega) (by omega)) r10, RW_fr F al (n _ _ (by omega) (by omega)) rw⟩
  have := q.1
  have := q.2.2
  unfold SKD at w
  omega
theorem i_X11_keptPixels_0 : am_i m_X11_keptPixels 0 = some (0, .aload_n 0, 1, [], 0) := rfl
theorem i_X11_keptPixels_1 : am_i m_X11_keptPixels 1 = some (1, .iload_n 1, 1, [], 0) := rfl
theorem i_X11_keptPixels_2 : am_i m_X11_keptPixels 2 = some (2, .invokevirtual 152, 3, [8, 9], 0) := rfl
theorem i_X11_keptPixels_5 : am_i m_X11_keptPixels 5 = some (5, .ifCond .eq 21, 3, [], 0) := rfl
theorem i_X11_keptPixels_8 : am_i m_X11_keptPixels 8 = some (8, .aload_n 0, 1, [], 0) := rfl
theorem i_X11_keptPixels_9 : am_i m_X11_keptPixels 9 = some (9, .aload_n 0, 1, [], 0) := rfl
theorem i_X11_keptPixels_10 : am_i m_X11_keptPixels 10 = some (10, .getfield 51, 3, [9, 10, 0], 0) := rfl
theorem i_X11_keptPixels_13 : am_i m_X11_keptPixels 13 = some (13, .iload_n 1, 1, [], 0) := rfl
theorem i_X11_keptPixels_14 : am_i m_X11_keptPixels 14 = some (14, .invokestatic 103, 3, [32], 0) := rfl
theorem i_X11_keptPixels_17 : am_i m_X11_keptPixels 17 = some (17, .invokevirtual 223, 3, [113, 9], 0) := rfl
theorem i_X11_keptPixels_26 : am_i m_X11_keptPixels 26 = some (26, .aconst_null, 1, [], 0) := rfl
theorem i_X11_keptPixels_27 : am_i m_X11_keptPixels 27 = some (27, .areturn, 1, [], 0) := rfl
theorem b_X11_keptPixels_0 {a0 : Nat} {x1 x1' : Int} {h : am_H} (w1 : wr x1 = x1') (k1 : K9 h a0) (g2 : ((¬ (x1' < 0) ∧ (¬ ((fZ h a0 11) ≤ x1')))) → (0 ≤ x1' ∧ x1' < (3 : Int))) : rn m_X11_keptPixels 0 [.ref a0, .int (mI x1)] [] h = if (¬ (x1' < 0) ∧ (¬ ((fZ h a0 11) ≤ x1'))) then cl m_X11_keptPixels 20 [.ref a0, .int (mI x1)] [] (rn m_X11_pictureAt 0 [.ref a0, .int (mI (gZ h (a0 + 14) x1')), am_J] [] h) else some (.inl (some (.null)), h) := by
  refine (tq_aload_n i_X11_keptPixels_0 rfl (isA_ref _) rfl).trans ?_
  refine (tq_iload_n i_X11_keptPixels_1 rfl rfl).trans ?_
  refine (c_X11_isKeptPlace i_X11_keptPixels_2 (K9_s k1) (ltd d_X11_keptPixels (by decide)) stOk_0 rfl).trans ?_
  refine (congrArg (cl _ _ _ _) (b_X11_isKeptPlace_0 w1 k1)).trans ?_
  refine (cl_v _ _ _ _ _ _).trans ?_
  refine (tq_ifb_eq (pt := 26) i_X11_keptPixels_5 (by decide) rfl).trans ?_
  refine ite_congr rfl (fun c1 => ?_) (fun c1 => ?_)
  · refine (tq_aload_n i_X11_keptPixels_8 rfl (isA_ref _) rfl).trans ?_
    refine (tq_aload_n i_X11_keptPixels_9 rfl (isA_ref _) rfl).trans ?_
    refine (tq_getfield i_X11_keptPixels_10 (K9_s k1) (gR (g_9_10 (K9_s k1)) (K9_e10 k1)) (isV_ref _) rfl).trans ?_
    refine (tq_iload_n i_X11_keptPixels_13 rfl rfl).trans ?_
    refine (c_X7_get i_X11_keptPixels_14 (ltd d_X11_keptPixels (by decide)) (isA_ref _) (stOk_1 _) rfl).trans ?_
    refine (congrArg (cl _ _ _ _) (get_ok w1 (K9_n10 k1) (K9_s10 k1) (by decide) (g2 c1))).trans ?_
    refine (cl_v _ _ _ _ _ _).trans ?_
    exact c_X11_pictureAt i_X11_keptPixels_17 (K9_s k1) (ltd d_X11_keptPixels (by decide)) stOk_0 rfl
  · refine (tq_aconst_null i_X11_keptPixels_26 rfl).trans ?_
    exact tq_areturn i_X11_keptPixels_27 isA_null r_X11_keptPixels rfl
theorem i_X11_keptPixels_20 : am_i m_X11_keptPixels 20 = some (20, .getfield 260, 3, [6, 15, 1], 0) := rfl
theorem i_X11_keptPixels_23 : am_i m_X11_keptPixels 23 = some (23, .goto 4, 3, [], 0) := rfl
theorem b_X11_keptPixels_20 {v0 v1 : Value} {as0 : Nat} {h : am_H} (k1 : K6 h as0) : rn m_X11_keptPixels 20 [v0, v1] [.ref as0] h = some (.inl (some (.ref (as0 + 8))), h) := by
  refine (tq_getfield i_X11_keptPixels_20 (K6_s k1) (gR (g_6_15 (K6_s k1)) (K6_e15 k1)) (isV_ref _) rfl).trans ?_
  refine (tq_goto (pc' := 27) i_X11_keptPixels_23 (by decide)).trans ?_
  exact tq_areturn i_X11_keptPixels_27 (isA_ref _) r_X11_keptPixels rfl
theorem kp_ok (rc : RC σ h D) (wf : WfS σ c) {x : Int} (w : wr x = x) : ∃ r : Option Nat, rn m_X11_keptPixels 0 [.ref 2, .int (mI x)] [] h = some (.inl (some (am_rv r)), h) ∧ (0 ≤ x ∧ x < tz σ 8 → ∃ P, r = some (P + 8) ∧ PC h D P (tpz σ (tk σ x)) (tpd σ (tk σ x))) := by
  have n := WFn wf
  have en : fZ h 2 11 = tz σ 8 := rc.2.2.2.1.2.2.2
  have b8 := wf.2.1.2.1
  have st := b_X11_keptPixels_0 (a0 := 2) (x1 := x) (h := h) w rc.1 (fun g => by rw [en] at g; omega)
  simp only [Nat.reduceAdd] at st
  rw [en] at st
  by_cases g : 0 ≤ x ∧ x < tz σ 8
  · have b := wf.2.1.2.2 x g.1 g.2
    obtain ⟨P, eP, pc⟩ := PA_good rc wf (i := tk σ x) (wr_id (by omega) (by omega)) b
    rw [if_pos (by omega), rc.2.2.2.2.1 x g.1 g.2, eP, cl_v, b_X11_keptPixels_20 pc.1] at st
    exact ⟨some (P + 8), st, fun _ => ⟨P, rfl, pc⟩⟩
  · rw [if_neg (by omega)] at st
    exact ⟨none, st, fun q => absurd q g⟩
theorem i_X2_lean_0 : am_i m_X2_lean 0 = some (0, .aload_n 1, 1, [], 0) := rfl
theorem i_X2_lean_1 : am_i m_X2_lean 1 = some (1, .invokevirtual 25, 3, [27, 6], 0) := rfl
theorem i_X2_lean_4 : am_i m_X2_lean 4 = some (4, .ifCond .eq 15, 3, [], 0) := rfl
theorem i_X2_lean_7 : am_i m_X2_lean 7 = some (7, .aload_n 0, 1, [], 0) := rfl
theorem i_X2_lean_8 : am_i m_X2_lean 8 = some (8, .getfield 12, 3, [2, 0, 0], 0) := rfl
theorem i_X2_lean_11 : am_i m_X2_lean 11 = some (11, .getfield 31, 3, [1, 0, 1], 0) := rfl
theorem i_X2_lean_14 : am_i m_X2_lean 14 = some (14, .aload_n 2, 1, [], 0) := rfl
theorem i_X2_lean_15 : am_i m_X2_lean 15 = some (15, .iconst 0, 1, [], 0) := rfl
theorem i_X2_lean_16 : am_i m_X2_lean 16 = some (16, .invokevirtual 35, 3, [81, 4], 0) := rfl
theorem b_X2_lean_0 {a0 a1 : Nat} {r2 r3 : Option Nat} {h : am_H} (k1 : K6 h a1) (k2 : K2 h a0) : rn m_X2_lean 0 [.ref a0, .ref a1, am_rv r2, am_rv r3] [] h = if (¬ ((fZ h a1 0) = 105)) then cl m_X2_lean 19 [.ref a0, .ref a1, am_rv r2, am_rv r3] [] (rn m_X4_take 0 [.ref (a0 + 2), am_rv r2, .int (mI 0), am_J, am_J] [] h) else rn m_X2_lean 19 [.ref a0, .ref a1, am_rv r2, am_rv r3] [] h := by
  refine (tq_aload_n i_X2_lean_0 rfl (isA_ref _) rfl).trans ?_
  refine (c_X6_leansOnFirst i_X2_lean_1 (K6_s k1) (ltd d_X2_lean (by decide)) stOk_0 rfl).trans ?_
  refine (congrArg (cl _ _ _ _) (b_X6_leansOnFirst_0 k1)).trans ?_
  refine (cl_v _ _ _ _ _ _).trans ?_
  refine (tq_ifb_eq (pt := 19) i_X2_lean_4 (by decide) rfl).trans ?_
  refine ite_congr rfl (fun c1 => ?_) (fun c1 => ?_)
  · refine (tq_aload_n i_X2_lean_7 rfl (isA_ref _) rfl).trans ?_
    refine (tq_getfield i_X2_lean_8 (K2_s k2) (gR (g_2_0 (K2_s k2)) (K2_e0 k2)) (isV_ref _) rfl).trans ?_
    refine (tq_getfield i_X2_lean_11 (K1_s (K2_k0 k2)) (gR (g_1_0 (K1_s (K2_k0 k2))) (K1_e0 (K2_k0 k2))) (isV_ref _) rfl).trans ?_
    refine (tq_aload_n i_X2_lean_14 rfl (isA_rv _) rfl).trans ?_
    refine (tq_iconst i_X2_lean_15 rfl).trans ?_
    exact c_X4_take i_X2_lean_16 (K4_s (K1_k0 (K2_k0 k2))) (ltd d_X2_lean (by decide)) (isA_rv _) stOk_0 rfl
  · rfl
theorem i_X2_lean_19 : am_i m_X2_lean 19 = some (19, .aload_n 1, 1, [], 0) := rfl
theorem i_X2_lean_20 : am_i m_X2_lean 20 = some (20, .invokevirtual 41, 3, [28, 6], 0) := rfl
theorem i_X2_lean_23 : am_i m_X2_lean 23 = some (23, .ifCond .eq 15, 3, [], 0) := rfl
theorem i_X2_lean_26 : am_i m_X2_lean 26 = some (26, .aload_n 0, 1, [], 0) := rfl
theorem i_X2_lean_27 : am_i m_X2_lean 27 = some (27, .getfield 12, 3, [2, 0, 0], 0) := rfl
theorem i_X2_lean_30 : am_i m_X2_lean 30 = some (30, .getfield 44, 3, [1, 1, 1], 0) := rfl
theorem i_X2_lean_33 : am_i m_X2_lean 33 = some (33, .aload_n 3, 1, [], 0) := rfl
theorem i_X2_lean_34 : am_i m_X2_lean 34 = some (34, .iconst 0, 1, [], 0) := rfl
theorem i_X2_lean_35 : am_i m_X2_lean 35 = some (35, .invokevirtual 35, 3, [81, 4], 0) := rfl
theorem b_X2_lean_19 {a0 a1 : Nat} {v2 : Value} {r3 : Option Nat} {h : am_H} (k1 : K6 h a1) (k2 : K2 h a0) : rn m_X2_lean 19 [.ref a0, .ref a1, v2, am_rv r3] [] h = if (¬ (¬ (fZ h a1 0) = 98)) then cl m_X2_lean 38 [.ref a0, .ref a1, v2, am_rv r3] [] (rn m_X4_take 0 [.ref (a0 + 4), am_rv r3, .int (mI 0), am_J, am_J] [] h) else rn m_X2_lean 38 [.ref a0, .ref a1, v2, am_rv r3] [] h := by
  refine (tq_aload_n i_X2_lean_19 rfl (isA_ref _) rfl).trans ?_
  refine (c_X6_leansOnSecond i_X2_lean_20 (K6_s k1) (ltd d_X2_lean (by decide)) stOk_0 rfl).trans ?_
  refine (congrArg (cl _ _ _ _) (b_X6_leansOnSecond_0 k1)).trans ?_
  refine (cl_v _ _ _ _ _ _).trans ?_
  refine (tq_ifb_eq (pt := 38) i_X2_lean_23 (by decide) rfl).trans ?_
  refine ite_congr rfl (fun c1 => ?_) (fun c1 => ?_)
  · refine (tq_aload_n i_X2_lean_26 rfl (isA_ref _) rfl).trans ?_
    refine (tq_getfield i_X2_lean_27 (K2_s k2) (gR (g_2_0 (K2_s k2)) (K2_e0 k2)) (isV_ref _) rfl).trans ?_
    refine (tq_getfield i_X2_lean_30 (K1_s (K2_k0 k2)) (gR (g_1_1 (K1_s (K2_k0 k2))) (K1_e1 (K2_k0 k2))) (isV_ref _) rfl).trans ?_
    refine (tq_aload_n i_X2_lean_33 rfl (isA_rv _) rfl).trans ?_
    refine (tq_iconst i_X2_lean_34 rfl).trans ?_
    exact c_X4_take i_X2_lean_35 (K4_s (K1_k1 (K2_k0 k2))) (ltd d_X2_lean (by decide)) (isA_rv _) stOk_0 rfl
  · rfl
theorem i_X2_lean_38 : am_i m_X2_lean 38 = some (38, .return_, 1, [], 0) := rfl
theorem b_X2_lean_38 {v0 v1 v2 v3 : Value} {h : am_H} : rn m_X2_lean 38 [v0, v1, v2, v3] [] h = some (.inl none, h) := by
  exact tq_return i_X2_lean_38 r_X2_lean
theorem lean_ok (k2 : K2 h 17) (k6 : K6 h D) {kd : Int} {f1 f2 : Int → Int} {r2 r3 : Option Nat} (e0 : fZ h D 0 = kd) (h1 : kd ≠ 105 → ∃ b, r2 = some b ∧ (sh h b = (1, 0) ∧ gn h b = 256) ∧ (51 < b ∨ b = 15) ∧ pixels f1 ∧ ∀ i, 0 ≤ i → i < 256 → gZ h b i = f1 i) (h2 : kd = 98 → ∃ b, r3 = some b ∧ (sh h b = (1, 0) ∧ gn h b = 256) ∧ (51 < b ∨ b = 15) ∧ pixels f2 ∧ ∀ i, 0 ≤ i → i < 256 → gZ h b i = f2 i) (hD : 51 < D ∨ D = 7) : ∃ h', rn m_X2_lean 0 [.ref 17, .ref D, am_rv r2, am_rv r3] [] h = some (.inl none, h') ∧ Md (fun c _ => c = 20 ∨ c = 22) h h' ∧ refOk h' 18 kd f1 f2 := by
  have st := b_X2_lean_0 (a0 := 17) (a1 := D) (r2 := r2) (r3 := r3) (h := h) k6 k2
  rw [e0] at st
  have k19 : K4 h 19 := K1_k0 (K2_k0 k2)
  have k21 : K4 h 21 := K1_k1 (K2_k0 k2)
  have one : ∃ ha, rn m_X2_lean 0 [.ref 17, .ref D, am_rv r2, am_rv r3] [] h = rn m_X2_lean 19 [.ref 17, .ref D, am_rv r2, am_rv r3] [] ha ∧ Md (fun c _ => c = 20) h ha ∧ (kd ≠ 105 → isH ha 19 f1 ∧ pixels f1) := by
    by_cases c1 : kd = 105
    · rw [if_neg (fun q => q c1)] at st
      exact ⟨h, st, Md_rf _ _, fun q => absurd c1 q⟩
    · obtain ⟨b, er, ⟨sb, nb⟩, b75, p1, g1⟩ := h1 c1
      have e1 : hv (fun i => gZ h b (0 + i)) = hv f1 := hv_congr fun i i0 i1 => by rw [Int.zero_add]; exact g1 i i0 i1
      obtain ⟨ha, ea, ma, ia⟩ := take_ok (a := 19) (b := b) (f := 0) k19 sb nb (by omega) (by omega) (by omega) (fun i i0 i1 => by show 0 ≤ gZ h b (0 + i) ∧ gZ h b (0 + i) ≤ 255; rw [Int.zero_add, g1 i i0 i1]; exact p1 i i0 i1)
      subst er
      have ea' : rn m_X4_take 0 [.ref (17 + 2), am_rv (some b), .int (mI 0), am_J, am_J] [] h = some (.inl none, ha) := ea
      rw [if_pos c1, ea', cl_n] at st
      exact ⟨ha, st, ma, fun _ => ⟨isH_hv e1 ia, p1⟩⟩
  obtain ⟨ha, ea, ma, ra⟩ := one
  rw [ea]
  have st2 := b_X2_lean_19 (a0 := 17) (a1 := D) (v2 := am_rv r2) (r3 := r3) (h := ha) (K6_sm ma.1 k6) (K2_sm ma.1 k2)
  rw [(md_fZ ma (by omega)).trans e0] at st2
  by_cases c2 : kd = 98
  · obtain ⟨b, er, ⟨sb, nb⟩, b75, p2, g2⟩ := h2 c2
    have gb : ∀ i, gZ ha b i = gZ h b i := fun i => md_gZ ma (by omega) i
    have e2 : hv (fun i => gZ ha b (0 + i)) = hv f2 := hv_congr fun i i0 i1 => by rw [Int.zero_add, gb]; exact g2 i i0 i1
    obtain ⟨hb, eb, mb, ib⟩ := take_ok (h := ha) (a := 21) (b := b) (f := 0) (K1_k1 (K2_k0 (K2_sm ma.1 k2))) ((md_sh ma _).trans sb) ((md_gn ma _).trans nb) (by omega) (by omega) (by omega) (fun i i0 i1 => by show 0 ≤ gZ ha b (0 + i) ∧ gZ ha b (0 + i) ≤ 255; rw [Int.zero_add, gb, g2 i i0 i1]; exact p2 i i0 i1)
    subst er
    have eb' : rn m_X4_take 0 [.ref (17 + 4), am_rv (some b), .int (mI 0), am_J, am_J] [] ha = some (.inl none, hb) := eb
    rw [if_pos (fun q => q c2), eb', cl_n, b_X2_lean_38] at st2
    exact ⟨hb, st2, Md_tr (Md_mono ma fun _ _ q => Or.inl q) (Md_mono mb fun _ _ q => Or.inr q), fun q => ⟨isH_md mb (by omega) (ra q).1, (ra q).2⟩, fun _ => ⟨isH_hv e2 ib, p2⟩⟩
  · rw [if_neg (fun q => q c2), b_X2_lean_38] at st2
    exact ⟨ha, st2, Md_mono ma fun _ _ q => Or.inl q, ra, fun q => absurd q c2⟩
theorem sq255 {x : Int} (h : -255 ≤ x ∧ x ≤ 255) : 0 ≤ x * x ∧ x * x ≤ 65025 := by
  have e := Int.natAbs_mul_self (a := x)
  have m := Nat.mul_le_mul (show x.natAbs ≤ 255 by omega) (show x.natAbs ≤ 255 by omega)
  omega
def erK (P C : Int → Int) : Nat → Int := fun n => sm n (fun i => (P i - C i) * (P i - C i))
theorem erK_b {P C : Int → Int} (hP : pixels P) (hC : pixels C) {n : Nat} (hn : n ≤ 256) : 0 ≤ erK P C n ∧ erK P C n ≤ n * 65025 := sm_le fun i i0 i1 => by
  have a := hP i i0 (by omega)
  have b := hC i i0 (by omega)
  exact sq255 (by omega)
theorem i_X6_finish_0 : am_i m_X6_finish 0 = some (0, .aload_n 0, 1, [], 0) := rfl
theorem i_X6_finish_1 : am_i m_X6_finish 1 = some (1, .aload_n 1, 1, [], 0) := rfl
theorem i_X6_finish_2 : am_i m_X6_finish 2 = some (2, .putfield 39, 3, [6, 8, 0], 0) := rfl
theorem i_X6_finish_5 : am_i m_X6_finish 5 = some (5, .aload_n 0, 1, [], 0) := rfl
theorem i_X6_finish_6 : am_i m_X6_finish 6 = some (6, .aload_n 2, 1, [], 0) := rfl
theorem i_X6_finish_7 : am_i m_X6_finish 7 = some (7, .putfield 43, 3, [6, 9, 0], 0) := rfl
theorem i_X6_finish_10 : am_i m_X6_finish 10 = some (10, .aload_n 0, 1, [], 0) := rfl
theorem i_X6_finish_11 : am_i m_X6_finish 11 = some (11, .lconst 0, 1, [], 0) := rfl
theorem i_X6_finish_12 : am_i m_X6_finish 12 = some (12, .putfield 35, 3, [6, 7, 0], 0) := rfl
theorem i_X6_finish_15 : am_i m_X6_finish 15 = some (15, .iconst 0, 1, [], 0) := rfl
theorem i_X6_finish_16 : am_i m_X6_finish 16 = some (16, .istore 4, 2, [], 0) := rfl
theorem b_X6_finish_0 {a0 a1 a2 a3 : Nat} {h : am_H} (k1 : K6 h a0) : rn m_X6_finish 0 [.ref a0, .ref a1, .ref a2, .ref a3, am_J, am_J] [] h = rn m_X6_finish 18 [.ref a0, .ref a1, .ref a2, .ref a3, .int (mI 0), am_J] [] (uF 6 (uF 6 (uF 6 h a0 8 (.ref a1)) a0 9 (.ref a2)) a0 7 (.long (mL 0))) := by
  refine (tq_aload_n i_X6_finish_0 rfl (isA_ref _) rfl).trans ?_
  refine (tq_aload_n i_X6_finish_1 rfl (isA_ref _) rfl).trans ?_
  refine (tq_putfield i_X6_finish_2 (K6_s k1) (okfA_6_8 (isA_ref _)) rfl).trans ?_
  refine (tq_aload_n i_X6_finish_5 rfl (isA_ref _) rfl).trans ?_
  refine (tq_aload_n i_X6_finish_6 rfl (isA_ref _) rfl).trans ?_
  refine (tq_putfield i_X6_finish_7 ((sh_uF _ _ _ _ _ _).trans (K6_s k1)) (okfA_6_9 (isA_ref _)) rfl).trans ?_
  refine (tq_aload_n i_X6_finish_10 rfl (isA_ref _) rfl).trans ?_
  refine (tq_lconst i_X6_finish_11 rfl).trans ?_
  refine (tq_putfield i_X6_finish_12 ((sh_uF _ _ _ _ _ _).trans ((sh_uF _ _ _ _ _ _).trans (K6_s k1))) (okf_6_7 _) rfl).trans ?_
  refine (tq_iconst i_X6_finish_15 rfl).trans ?_
  refine (tq_istore (L' := [.ref a0, .ref a1, .ref a2, .ref a3, .int (mI 0), am_J]) i_X6_finish_16 rfl rfl).trans ?_
  rfl
theorem i_X6_finish_18 : am_i m_X6_finish 18 = some (18, .iload 4, 2, [], 0) := rfl
theorem i_X6_finish_20 : am_i m_X6_finish 20 = some (20, .sipush 256, 3, [], 256) := rfl
theorem i_X6_finish_23 : am_i m_X6_finish 23 = some (23, .if_icmp .ge 42, 3, [], 0) := rfl
theorem i_X6_finish_26 : am_i m_X6_finish 26 = some (26, .aload_n 0, 1, [], 0) := rfl
theorem i_X6_finish_27 : am_i m_X6_finish 27 = some (27, .getfield 61, 3, [6, 15, 0], 0) := rfl
theorem i_X6_finish_30 : am_i m_X6_finish 30 = some (30, .iload 4, 2, [], 0) := rfl
theorem i_X6_finish_32 : am_i m_X6_finish 32 = some (32, .invokestatic 64, 3, [32], 0) := rfl
theorem i_X6_finish_35 : am_i m_X6_finish 35 = some (35, .aload_n 3, 1, [], 0) := rfl
theorem i_X6_finish_36 : am_i m_X6_finish 36 = some (36, .iload 4, 2, [], 0) := rfl
theorem i_X6_finish_38 : am_i m_X6_finish 38 = some (38, .invokestatic 64, 3, [32], 0) := rfl
theorem i_X6_finish_41 : am_i m_X6_finish 41 = some (41, .isub, 1, [], 0) := rfl
theorem i_X6_finish_42 : am_i m_X6_finish 42 = some (42, .istore 5, 2, [], 0) := rfl
theorem i_X6_finish_44 : am_i m_X6_finish 44 = some (44, .aload_n 0, 1, [], 0) := rfl
theorem i_X6_finish_45 : am_i m_X6_finish 45 = some (45, .dup, 1, [], 0) := rfl
theorem i_X6_finish_46 : am_i m_X6_finish 46 = some (46, .getfield 35, 3, [6, 7, 0], 0) := rfl
theorem i_X6_finish_49 : am_i m_X6_finish 49 = some (49, .iload 5, 2, [], 0) := rfl
theorem i_X6_finish_51 : am_i m_X6_finish 51 = some (51, .iload 5, 2, [], 0) := rfl
theorem i_X6_finish_53 : am_i m_X6_finish 53 = some (53, .imul, 1, [], 0) := rfl
theorem i_X6_finish_54 : am_i m_X6_finish 54 = some (54, .i2l, 1, [], 0) := rfl
theorem i_X6_finish_55 : am_i m_X6_finish 55 = some (55, .ladd, 1, [], 0) := rfl
theorem i_X6_finish_56 : am_i m_X6_finish 56 = some (56, .putfield 35, 3, [6, 7, 0], 0) := rfl
theorem i_X6_finish_59 : am_i m_X6_finish 59 = some (59, .iinc 4 1, 3, [], 0) := rfl
theorem i_X6_finish_62 : am_i m_X6_finish 62 = some (62, .goto (-44), 3, [], 0) := rfl
theorem i_X6_finish_65 : am_i m_X6_finish 65 = some (65, .return_, 1, [], 0) := rfl
theorem b_X6_finish_18 {a0 a3 n_a3 : Nat} {v1 v2 v5 : Value} {x4 x4' : Int} {h : am_H} (w4 : wr x4 = x4') (k1 : K6 h a0) (g2 : (¬ (256 ≤ x4')) → (0 ≤ x4' ∧ x4' < (256 : Int))) (n3 : gn h a3 = n_a3) (s4 : sh h a3 = (1, 0)) (g5 : (¬ (256 ≤ x4')) → (0 ≤ x4' ∧ x4' < (n_a3 : Int))) : rn m_X6_finish 18 [.ref a0, v1, v2, .ref a3, .int (mI x4), v5] [] h = if 256 ≤ x4' then some (.inl none, h) else rn m_X6_finish 18 [.ref a0, v1, v2, .ref a3, .int (mI (x4 + 1)), .int (mI ((gZ h (a0 + 8) x4') - (gZ h a3 x4')))] [] (uF 6 h a0 7 (.long (mL ((fJ h a0 7) + (wr (((gZ h (a0 + 8) x4') - (gZ h a3 x4')) * ((gZ h (a0 + 8) x4') - (gZ h a3 x4')))))))) := by
  refine (tq_iload i_X6_finish_18 rfl rfl).trans ?_
  refine (tq_sipush i_X6_finish_20 rfl).trans ?_
  refine (tq_icmp_ge (pt := 65) i_X6_finish_23 w4 w_256 (by decide) rfl).trans ?_
  refine ite_congr rfl (fun c1 => ?_) (fun c1 => ?_)
  · exact tq_return i_X6_finish_65 r_X6_finish
  · refine (tq_aload_n i_X6_finish_26 rfl (isA_ref _) rfl).trans ?_
    refine (tq_getfield i_X6_finish_27 (K6_s k1) (gR (g_6_15 (K6_s k1)) (K6_e15 k1)) (isV_ref _) rfl).trans ?_
    refine (tq_iload i_X6_finish_30 rfl rfl).trans ?_
    refine (c_X7_get i_X6_finish_32 (ltd d_X6_finish (by decide)) (isA_ref _) stOk_0 rfl).trans ?_
    refine (congrArg (cl _ _ _ _) (get_ok w4 (K6_n15 k1) (K6_s15 k1) (by decide) (g2 c1))).trans ?_
    refine (cl_v _ _ _ _ _ _).trans ?_
    refine (tq_aload_n i_X6_finish_35 rfl (isA_ref _) rfl).trans ?_
    refine (tq_iload i_X6_finish_36 rfl rfl).trans ?_
    refine (c_X7_get i_X6_finish_38 (ltd d_X6_finish (by decide)) (isA_ref _) (stOk_1 _) rfl).trans ?_
    refine (congrArg (cl _ _ _ _) (get_ok w4 n3 s4 (by decide) (g5 c1))).trans ?_
    refine (cl_v _ _ _ _ _ _).trans ?_
    refine (tq_isub i_X6_finish_41 rfl).trans ?_
    refine (tq_istore (L' := [.ref a0, v1, v2, .ref a3, .int (mI x4), .int (mI ((gZ h (a0 + 8) x4') - (gZ h a3 x4')))]) i_X6_finish_42 rfl rfl).trans ?_
    refine (tq_aload_n i_X6_finish_44 rfl (isA_ref _) rfl).trans ?_
    refine (tq_dup i_X6_finish_45 rfl rfl).trans ?_
    refine (tq_getfield i_X6_finish_46 (K6_s k1) (g_6_7 (K6_s k1)) (isV_J _) rfl).trans ?_
    refine (tq_iload i_X6_finish_49 rfl rfl).trans ?_
    refine (tq_iload i_X6_finish_51 rfl rfl).trans ?_
    refine (tq_imul i_X6_finish_53 rfl).trans ?_
    refine (tq_i2l i_X6_finish_54 rfl rfl).trans ?_
    refine (tq_ladd i_X6_finish_55 rfl).trans ?_
    refine (tq_putfield i_X6_finish_56 (K6_s k1) (okf_6_7 _) rfl).trans ?_
    refine (tq_iinc (L' := [.ref a0, v1, v2, .ref a3, .int (mI (x4 + 1)), .int (mI ((gZ h (a0 + 8) x4') - (gZ h a3 x4')))]) i_X6_finish_59 rfl rfl rfl).trans ?_
    refine (tq_goto (pc' := 18) i_X6_finish_62 (by decide)).trans ?_
    rfl
theorem finish_ok (k : K6 h D) (hD : 51 < D ∨ D = 7) (sC : sh h 3 = (1, 0)) (nC : gn h 3 = 256) (hP : pixels (gZ h (D + 8))) (hC : pixels (gZ h 3)) (U V : Nat) : ∃ h', rn m_X6_finish 0 [.ref D, .ref U, .ref V, .ref 3, am_J, am_J] [] h = some (.inl none, h') ∧ Md (fun a k => a = D ∧ (k = 7 ∨ k = 8 ∨ k = 9)) h h' ∧ fA h' D 8 = some U ∧ fA h' D 9 = some V ∧ fJ h' D 7 = erK (gZ h (D + 8)) (gZ h 3) 256 := by
  have st := b_X6_finish_0 (a0 := D) (a1 := U) (a2 := V) (a3 := 3) (h := h) k
  have k0 := K6_s k
  obtain ⟨hB, eB⟩ : ∃ u, u = uF 6 (uF 6 (uF 6 h D 8 (.ref U)) D 9 (.ref V)) D 7 (.long (mL 0)) := ⟨_, rfl⟩
  rw [← eB] at st
  have m1 : Md (fun a k => a = D ∧ k = 8) h (uF 6 h D 8 (.ref U)) := Md_uF (Sm_uF_6_8 _ _ _)
  have m2 : Md (fun a k => a = D ∧ k = 9) (uF 6 h D 8 (.ref U)) (uF 6 (uF 6 h D 8 (.ref U)) D 9 (.ref V)) := Md_uF (Sm_uF_6_9 _ _ _)
  have m3 : Md (fun a k => a = D ∧ k = 7) (uF 6 (uF 6 h D 8 (.ref U)) D 9 (.ref V)) hB := by rw [eB]; exact Md_uF (Sm_uF_6_7 _ _ _)
  have f8 : fA hB D 8 = some U := (md_fA m3 (by omega)).trans ((md_fA m2 (by omega)).trans (fA_uF_eq (r := some U) k0 (okfA_6_8 (isA_ref U))))
  have f9 : fA hB D 9 = some V := (md_fA m3 (by omega)).trans (fA_uF_eq (r := some V) ((sh_uF _ _ _ _ _ _).trans k0) (okfA_6_9 (isA_ref V)))
  have f7 : fJ hB D 7 = 0 := by
    rw [eB, fJ_uF_eq ((sh_uF _ _ _ _ _ _).trans ((sh_uF _ _ _ _ _ _).trans k0)) (okf_6_7 _)]
    decide
  have mB : Md (fun a k => a = D ∧ (k = 7 ∨ k = 8 ∨ k = 9)) h hB := Md_tr (Md_mono m1 fun a k q => ⟨q.1, by omega⟩) (Md_tr (Md_mono m2 fun a k q => ⟨q.1, by omega⟩) (Md_mono m3 fun a k q => ⟨q.1, by omega⟩))
  clear eB m1 m2 m3
  rw [st]
  refine lp (m := m_X6_finish) (pc := 18) (L := fun i (v : Value) => [.ref D, .ref U, .ref V, .ref 3, .int (mI i), v]) (N := 256) (P := fun r => ∃ h', r = some (.inl none, h') ∧ Md (fun a k => a = D ∧ (k = 7 ∨ k = 8 ∨ k = 9)) h h' ∧ fA h' D 8 = some U ∧ fA h' D 9 = some V ∧ fJ h' D 7 = erK (gZ h (D + 8)) (gZ h 3) 256) (fun i _ h' => 0 ≤ i ∧ Md (fun a k => a = D ∧ k = 7) hB h' ∧ fJ h' D 7 = erK (gZ h (D + 8)) (gZ h 3) i.toNat) ?_ ?_ 0 am_J hB (by omega) ⟨by omega, Md_rf _ _, f7⟩
  · intro i v h' hi ⟨i0, md, ej⟩
    have mT := Md_tr mB (Md_mono md fun a k q => ⟨q.1, Or.inl q.2⟩)
    have k' := K6_sm mT.1 k
    have st2 := b_X6_finish_18 (a0 := D) (a3 := 3) (n_a3 := 256) (v1 := .ref U) (v2 := .ref V) (v5 := v) (h := h') (wr_id (z := i) (by omega) (by omega)) k' (fun _ => ⟨i0, hi⟩) ((md_gn mT _).trans nC) ((md_sh mT _).trans sC) (fun _ => ⟨i0, by omega⟩)
    have g1 : gZ h' (D + 8) i = gZ h (D + 8) i := md_gZ mT (by omega) i
    have g2 : gZ h' 3 i = gZ h 3 i := md_gZ mT (by omega) i
    have a := hP i i0 hi
    have b := hC i i0 hi
    have q2 := sq255 (x := gZ h (D + 8) i - gZ h 3 i) (by omega)
    have eb := erK_b hP hC (n := i.toNat) (by omega)
    rw [if_neg (by omega), g1, g2, ej, wr_id (z := (gZ h (D + 8) i - gZ h 3 i) * (gZ h (D + 8) i - gZ h 3 i)) (by omega) (by omega)] at st2
    refine ⟨_, _, st2, by omega, Md_tr md (Md_uF (Sm_uF_6_7 _ _ _)), ?_⟩
    rw [fJ_uF_eq (K6_s k') (okf_6_7 _), wl_id (by omega) (by omega)]
    unfold erK
    rw [sm_succ i0]
  · intro v h' ⟨i0, md, ej⟩
    have mT := Md_tr mB (Md_mono md fun a k q => ⟨q.1, Or.inl q.2⟩)
    have k' := K6_sm mT.1 k
    have st2 := b_X6_finish_18 (a0 := D) (a3 := 3) (n_a3 := 256) (v1 := .ref U) (v2 := .ref V) (x4 := 256) (v5 := v) (h := h') (wr_id (by decide) (by decide)) k' (fun q => absurd (by decide) q) ((md_gn mT _).trans nC) ((md_sh mT _).trans sC) (fun q => absurd (by decide) q)
    rw [if_pos (by decide)] at st2
    exact ⟨h', st2, mT, (md_fA md (by omega)).trans f8, (md_fA md (by omega)).trans f9, ej⟩
/-- an array made, and put into a field -/
theorem in_step {g : am_H} {A k n : Nat} (hn : n ≤ 65536) (s : sh g A = (5, 6)) (hA : A < hnx g) (ok : am_okV (am_ft 6 k) (.ref (hnx g)) = true) : ∃ g', g' = uF 6 (aI 0 n g) A k (.ref (hnx g)) ∧ sh g' A = (5, 6) ∧ hnx g' = hnx g + 1 ∧ fA g' A k = some (hnx g) ∧ (∀ j, j ≠ k → fA g' A j = fA g A j) ∧ (sh g' (hnx g) = (1, 0) ∧ gn g' (hnx g) = n ∧ ∀ i, gZ g' (hnx g) i = 0) ∧ (∀ b, b < hnx g → sh g' b = sh g b ∧ gn g' b = gn g b ∧ ∀ i, gZ g' b i = gZ g b i) ∧ Fx (fun a _ => a = A) 1 n g g' := by
  have s' : sh (aI 0 n g) A = (5, 6) := (sh_aI_ne _ _ _ (by omega)).trans s
  refine ⟨_, rfl, (sh_uF _ _ _ _ _ _).trans s', (hnx_uF _ _ _ _ _).trans (hnx_aI _ _ _), fA_uF_eq (r := some (hnx g)) s' ok, fun j hj => ?_, ⟨(sh_uF _ _ _ _ _ _).trans (sh_aI hn), (gn_uF _ _ _ _ _ _).trans (gn_aI _ _ _), fun i => by rw [gZ_uF]; exact gZ_aI _ _ _ _⟩, fun b hb => ⟨(sh_uF _ _ _ _ _ _).trans (sh_aI_ne _ _ _ (by omega)), (gn_uF _ _ _ _ _ _).trans (gn_aI_ne _ _ _ (by omega)), fun i => by rw [gZ_uF]; exact gZ_aI_ne _ _ _ _ (by omega)⟩, ?_⟩
  · rw [fA_uF_nk s' ok hj]
    exact fA_aI_ne _ _ _ _ (by omega)
  · exact ((Fx_alc g n _).trans (Fx_uF s' ok)).mono (fun a j _ q => q.elim (fun x => x.elim) fun x => x.1) (Nat.le_refl _) (Nat.le_refl _)
theorem i_X6_init_0 : am_i m_X6_init 0 = some (0, .aload_n 0, 1, [], 0) := rfl
theorem i_X6_init_1 : am_i m_X6_init 1 = some (1, .invokespecial 3, 3, [], 0) := rfl
theorem i_X6_init_4 : am_i m_X6_init 4 = some (4, .aload_n 0, 1, [], 0) := rfl
theorem i_X6_init_5 : am_i m_X6_init 5 = some (5, .bipush 105, 2, [], 105) := rfl
theorem i_X6_init_7 : am_i m_X6_init 7 = some (7, .putfield 9, 3, [6, 0, 0], 0) := rfl
theorem i_X6_init_10 : am_i m_X6_init 10 = some (10, .aload_n 0, 1, [], 0) := rfl
theorem i_X6_init_11 : am_i m_X6_init 11 = some (11, .iconst 0, 1, [], 0) := rfl
theorem i_X6_init_12 : am_i m_X6_init 12 = some (12, .putfield 15, 3, [6, 1, 0], 0) := rfl
theorem i_X6_init_15 : am_i m_X6_init 15 = some (15, .aload_n 0, 1, [], 0) := rfl
theorem i_X6_init_16 : am_i m_X6_init 16 = some (16, .iconst 0, 1, [], 0) := rfl
theorem i_X6_init_17 : am_i m_X6_init 17 = some (17, .putfield 19, 3, [6, 2, 0], 0) := rfl
theorem i_X6_init_20 : am_i m_X6_init 20 = some (20, .aload_n 0, 1, [], 0) := rfl
theorem i_X6_init_21 : am_i m_X6_init 21 = some (21, .iconst 1, 1, [], 1) := rfl
theorem i_X6_init_22 : am_i m_X6_init 22 = some (22, .putfield 22, 3, [6, 3, 0], 0) := rfl
theorem i_X6_init_25 : am_i m_X6_init 25 = some (25, .aload_n 0, 1, [], 0) := rfl
theorem i_X6_init_26 : am_i m_X6_init 26 = some (26, .iconst 0, 1, [], 0) := rfl
theorem i_X6_init_27 : am_i m_X6_init 27 = some (27, .putfield 25, 3, [6, 4, 0], 0) := rfl
theorem i_X6_init_30 : am_i m_X6_init 30 = some (30, .aload_n 0, 1, [], 0) := rfl
theorem i_X6_init_31 : am_i m_X6_init 31 = some (31, .iconst 1, 1, [], 1) := rfl
theorem i_X6_init_32 : am_i m_X6_init 32 = some (32, .putfield 28, 3, [6, 5, 0], 0) := rfl
theorem i_X6_init_35 : am_i m_X6_init 35 = some (35, .aload_n 0, 1, [], 0) := rfl
theorem i_X6_init_36 : am_i m_X6_init 36 = some (36, .iconst 0, 1, [], 0) := rfl
theorem i_X6_init_37 : am_i m_X6_init 37 = some (37, .putfield 31, 3, [6, 6, 0], 0) := rfl
theorem i_X6_init_40 : am_i m_X6_init 40 = some (40, .aload_n 0, 1, [], 0) := rfl
theorem i_X6_init_41 : am_i m_X6_init 41 = some (41, .lconst 0, 1, [], 0) := rfl
theorem i_X6_init_42 : am_i m_X6_init 42 = some (42, .putfield 35, 3, [6, 7, 0], 0) := rfl
theorem i_X6_init_45 : am_i m_X6_init 45 = some (45, .aload_n 0, 1, [], 0) := rfl
theorem i_X6_init_46 : am_i m_X6_init 46 = some (46, .iconst 0, 1, [], 0) := rfl
theorem i_X6_init_47 : am_i m_X6_init 47 = some (47, .newarray .int, 2, [], 0) := rfl
theorem b_X6_init_0 {a0 : Nat} {h : am_H} (s1 : sh h a0 = (5, 6)) : rn m_X6_init 0 [.ref a0] [] h = rn m_X6_init 49 [.ref a0] [.ref (hnx (uF 6 (uF 6 (uF 6 (uF 6 (uF 6 (uF 6 (uF 6 (uF 6 h a0 0 (.int (mI 105))) a0 1 (.int (mI 0))) a0 2 (.int (mI 0))) a0 3 (.int (mI 1))) a0 4 (.int (mI 0))) a0 5 (.int (mI 1))) a0 6 (.int (mI 0))) a0 7 (.long (mL 0)))), .ref a0] (aI 0 0 (uF 6 (uF 6 (uF 6 (uF 6 (uF 6 (uF 6 (uF 6 (uF 6 h a0 0 (.int (mI 105))) a0 1 (.int (mI 0))) a0 2 (.int (mI 0))) a0 3 (.int (mI 1))) a0 4 (.int (mI 0))) a0 5 (.int (mI 1))) a0 6 (.int (mI 0))) a0 7 (.long (mL 0)))) := by
  refine (tq_aload_n i_X6_init_0 rfl (isA_ref _) rfl).trans ?_
  refine (tq_init i_X6_init_1 (Nat.le_of_ble_eq_true rfl) rfl).trans ?_
  refine (tq_aload_n i_X6_init_4 rfl (isA_ref _) rfl).trans ?_
  refine (tq_bipush i_X6_init_5 rfl).trans ?_
  refine (tq_putfield i_X6_init_7 s1 (okfC_6_0 w_105 (by decide)) rfl).trans ?_
  refine (tq_aload_n i_X6_init_10 rfl (isA_ref _) rfl).trans ?_
  refine (tq_iconst i_X6_init_11 rfl).trans ?_
  refine (tq_putfield i_X6_init_12 ((sh_uF _ _ _ _ _ _).trans s1) (okf_6_1 _) rfl).trans ?_
  refine (tq_aload_n i_X6_init_15 rfl (isA_ref _) rfl).trans ?_
  refine (tq_iconst i_X6_init_16 rfl).trans ?_
  refine (tq_putfield i_X6_init_17 ((sh_uF _ _ _ _ _ _).trans ((sh_uF _ _ _ _ _ _).trans s1)) (okf_6_2 _) rfl).trans ?_
  refine (tq_aload_n i_X6_init_20 rfl (isA_ref _) rfl).trans ?_
  refine (tq_iconst i_X6_init_21 rfl).trans ?_
  refine (tq_putfield i_X6_init_22 ((sh_uF _ _ _ _ _ _).trans ((sh_uF _ _ _ _ _ _).trans ((sh_uF _ _ _ _ _ _).trans s1))) (okf_6_3 _) rfl).trans ?_
  refine (tq_aload_n i_X6_init_25 rfl (isA_ref _) rfl).trans ?_
  refine (tq_iconst i_X6_init_26 rfl).trans ?_
  refine (tq_putfield i_X6_init_27 ((sh_uF _ _ _ _ _ _).trans ((sh_uF _ _ _ _ _ _).trans ((sh_uF _ _ _ _ _ _).trans ((sh_uF _ _ _ _ _ _).trans s1)))) (okf_6_4 _) rfl).trans ?_
  refine (tq_aload_n i_X6_init_30 rfl (isA_ref _) rfl).trans ?_
  refine (tq_iconst i_X6_init_31 rfl).trans ?_
  refine (tq_putfield i_X6_init_32 ((sh_uF _ _ _ _ _ _).trans ((sh_uF _ _ _ _ _ _).trans ((sh_uF _ _ _ _ _ _).trans ((sh_uF _ _ _ _ _ _).trans ((sh_uF _ _ _ _ _ _).trans s1))))) (okf_6_5 _) rfl).trans ?_
  refine (tq_aload_n i_X6_init_35 rfl (isA_ref _) rfl).trans ?_
  refine (tq_iconst i_X6_init_36 rfl).trans ?_
  refine (tq_putfield i_X6_init_37 ((sh_uF _ _ _ _ _ _).trans ((sh_uF _ _ _ _ _ _).trans ((sh_uF _ _ _ _ _ _).trans ((sh_uF _ _ _ _ _ _).trans ((sh_uF _ _ _ _ _ _).trans ((sh_uF _ _ _ _ _ _).trans s1)))))) (okfB_6_6 w_0 (by decide)) rfl).trans ?_
  refine (tq_aload_n i_X6_init_40 rfl (isA_ref _) rfl).trans ?_
  refine (tq_lconst i_X6_init_41 rfl).trans ?_
  refine (tq_putfield i_X6_init_42 ((sh_uF _ _ _ _ _ _).trans ((sh_uF _ _ _ _ _ _).trans ((sh_uF _ _ _ _ _ _).trans ((sh_uF _ _ _ _ _ _).trans ((sh_uF _ _ _ _ _ _).trans ((sh_uF _ _ _ _ _ _).trans ((sh_uF _ _ _ _ _ _).trans s1))))))) (okf_6_7 _) rfl).trans ?_
  refine (tq_aload_n i_X6_init_45 rfl (isA_ref _) rfl).trans ?_
  refine (tq_iconst i_X6_init_46 rfl).trans ?_
  exact tq_newI (n := 0) (t := 0) i_X6_init_47 w_0 (by decide) rfl (by decide) rfl rfl
theorem i_X6_init_49 : am_i m_X6_init 49 = some (49, .putfield 39, 3, [6, 8, 0], 0) := rfl
theorem i_X6_init_52 : am_i m_X6_init 52 = some (52, .aload_n 0, 1, [], 0) := rfl
theorem i_X6_init_53 : am_i m_X6_init 53 = some (53, .iconst 0, 1, [], 0) := rfl
theorem i_X6_init_54 : am_i m_X6_init 54 = some (54, .newarray .int, 2, [], 0) := rfl
theorem b_X6_init_49 {a0 as0 as1 : Nat} {h : am_H} (s1 : sh h as1 = (5, 6)) : rn m_X6_init 49 [.ref a0] [.ref as0, .ref as1] h = rn m_X6_init 56 [.ref a0] [.ref (hnx (uF 6 h as1 8 (.ref as0))), .ref a0] (aI 0 0 (uF 6 h as1 8 (.ref as0))) := by
  refine (tq_putfield i_X6_init_49 s1 (okfA_6_8 (isA_ref _)) rfl).trans ?_
  refine (tq_aload_n i_X6_init_52 rfl (isA_ref _) rfl).trans ?_
  refine (tq_iconst i_X6_init_53 rfl).trans ?_
  exact tq_newI (n := 0) (t := 0) i_X6_init_54 w_0 (by decide) rfl (by decide) rfl rfl
theorem i_X6_init_56 : am_i m_X6_init 56 = some (56, .putfield 43, 3, [6, 9, 0], 0) := rfl
theorem i_X6_init_59 : am_i m_X6_init 59 = some (59, .aload_n 0, 1, [], 0) := rfl
theorem i_X6_init_60 : am_i m_X6_init 60 = some (60, .bipush 16, 2, [], 16) := rfl
theorem i_X6_init_62 : am_i m_X6_init 62 = some (62, .newarray .int, 2, [], 0) := rfl
theorem b_X6_init_56 {a0 as0 as1 : Nat} {h : am_H} (s1 : sh h as1 = (5, 6)) : rn m_X6_init 56 [.ref a0] [.ref as0, .ref as1] h = rn m_X6_init 64 [.ref a0] [.ref (hnx (uF 6 h as1 9 (.ref as0))), .ref a0] (aI 0 16 (uF 6 h as1 9 (.ref as0))) := by
  refine (tq_putfield i_X6_init_56 s1 (okfA_6_9 (isA_ref _)) rfl).trans ?_
  refine (tq_aload_n i_X6_init_59 rfl (isA_ref _) rfl).trans ?_
  refine (tq_bipush i_X6_init_60 rfl).trans ?_
  exact tq_newI (n := 16) (t := 0) i_X6_init_62 w_16 (by decide) rfl (by decide) rfl rfl
theorem i_X6_init_64 : am_i m_X6_init 64 = some (64, .putfield 46, 3, [6, 10, 2], 0) := rfl
theorem i_X6_init_67 : am_i m_X6_init 67 = some (67, .aload_n 0, 1, [], 0) := rfl
theorem i_X6_init_68 : am_i m_X6_init 68 = some (68, .bipush 16, 2, [], 16) := rfl
theorem i_X6_init_70 : am_i m_X6_init 70 = some (70, .newarray .int, 2, [], 0) := rfl
theorem b_X6_init_64 {a0 as0 as1 : Nat} {h : am_H} (s1 : sh h as1 = (5, 6)) : rn m_X6_init 64 [.ref a0] [.ref as0, .ref as1] h = rn m_X6_init 72 [.ref a0] [.ref (hnx (uF 6 h as1 10 (.ref as0))), .ref a0] (aI 0 16 (uF 6 h as1 10 (.ref as0))) := by
  refine (tq_putfield i_X6_init_64 s1 (okfA_6_10 (isA_ref _)) rfl).trans ?_
  refine (tq_aload_n i_X6_init_67 rfl (isA_ref _) rfl).trans ?_
  refine (tq_bipush i_X6_init_68 rfl).trans ?_
  exact tq_newI (n := 16) (t := 0) i_X6_init_70 w_16 (by decide) rfl (by decide) rfl rfl
theorem i_X6_init_72 : am_i m_X6_init 72 = some (72, .putfield 49, 3, [6, 11, 2], 0) := rfl
theorem i_X6_init_75 : am_i m_X6_init 75 = some (75, .aload_n 0, 1, [], 0) := rfl
theorem i_X6_init_76 : am_i m_X6_init 76 = some (76, .bipush 16, 2, [], 16) := rfl
theorem i_X6_init_78 : am_i m_X6_init 78 = some (78, .newarray .int, 2, [], 0) := rfl
theorem b_X6_init_72 {a0 as0 as1 : Nat} {h : am_H} (s1 : sh h as1 = (5, 6)) : rn m_X6_init 72 [.ref a0] [.ref as0, .ref as1] h = rn m_X6_init 80 [.ref a0] [.ref (hnx (uF 6 h as1 11 (.ref as0))), .ref a0] (aI 0 16 (uF 6 h as1 11 (.ref as0))) := by
  refine (tq_putfield i_X6_init_72 s1 (okfA_6_11 (isA_ref _)) rfl).trans ?_
  refine (tq_aload_n i_X6_init_75 rfl (isA_ref _) rfl).trans ?_
  refine (tq_bipush i_X6_init_76 rfl).trans ?_
  exact tq_newI (n := 16) (t := 0) i_X6_init_78 w_16 (by decide) rfl (by decide) rfl rfl
theorem i_X6_init_80 : am_i m_X6_init 80 = some (80, .putfield 52, 3, [6, 12, 2], 0) := rfl
theorem i_X6_init_83 : am_i m_X6_init 83 = some (83, .aload_n 0, 1, [], 0) := rfl
theorem i_X6_init_84 : am_i m_X6_init 84 = some (84, .bipush 16, 2, [], 16) := rfl
theorem i_X6_init_86 : am_i m_X6_init 86 = some (86, .newarray .int, 2, [], 0) := rfl
theorem b_X6_init_80 {a0 as0 as1 : Nat} {h : am_H} (s1 : sh h as1 = (5, 6)) : rn m_X6_init 80 [.ref a0] [.ref as0, .ref as1] h = rn m_X6_init 88 [.ref a0] [.ref (hnx (uF 6 h as1 12 (.ref as0))), .ref a0] (aI 0 16 (uF 6 h as1 12 (.ref as0))) := by
  refine (tq_putfield i_X6_init_80 s1 (okfA_6_12 (isA_ref _)) rfl).trans ?_
  refine (tq_aload_n i_X6_init_83 rfl (isA_ref _) rfl).trans ?_
  refine (tq_bipush i_X6_init_84 rfl).trans ?_
  exact tq_newI (n := 16) (t := 0) i_X6_init_86 w_16 (by decide) rfl (by decide) rfl rfl
theorem i_X6_init_88 : am_i m_X6_init 88 = some (88, .putfield 55, 3, [6, 13, 2], 0) := rfl
theorem i_X6_init_91 : am_i m_X6_init 91 = some (91, .aload_n 0, 1, [], 0) := rfl
theorem i_X6_init_92 : am_i m_X6_init 92 = some (92, .sipush 256, 3, [], 256) := rfl
theorem i_X6_init_95 : am_i m_X6_init 95 = some (95, .newarray .int, 2, [], 0) := rfl
theorem b_X6_init_88 {a0 as0 as1 : Nat} {h : am_H} (s1 : sh h as1 = (5, 6)) : rn m_X6_init 88 [.ref a0] [.ref as0, .ref as1] h = rn m_X6_init 97 [.ref a0] [.ref (hnx (uF 6 h as1 13 (.ref as0))), .ref a0] (aI 0 256 (uF 6 h as1 13 (.ref as0))) := by
  refine (tq_putfield i_X6_init_88 s1 (okfA_6_13 (isA_ref _)) rfl).trans ?_
  refine (tq_aload_n i_X6_init_91 rfl (isA_ref _) rfl).trans ?_
  refine (tq_sipush i_X6_init_92 rfl).trans ?_
  exact tq_newI (n := 256) (t := 0) i_X6_init_95 w_256 (by decide) rfl (by decide) rfl rfl
theorem i_X6_init_97 : am_i m_X6_init 97 = some (97, .putfield 58, 3, [6, 14, 2], 0) := rfl
theorem i_X6_init_100 : am_i m_X6_init 100 = some (100, .aload_n 0, 1, [], 0) := rfl
theorem i_X6_init_101 : am_i m_X6_init 101 = some (101, .sipush 256, 3, [], 256) := rfl
theorem i_X6_init_104 : am_i m_X6_init 104 = some (104, .newarray .int, 2, [], 0) := rfl
theorem b_X6_init_97 {a0 as0 as1 : Nat} {h : am_H} (s1 : sh h as1 = (5, 6)) : rn m_X6_init 97 [.ref a0] [.ref as0, .ref as1] h = rn m_X6_init 106 [.ref a0] [.ref (hnx (uF 6 h as1 14 (.ref as0))), .ref a0] (aI 0 256 (uF 6 h as1 14 (.ref as0))) := by
  refine (tq_putfield i_X6_init_97 s1 (okfA_6_14 (isA_ref _)) rfl).trans ?_
  refine (tq_aload_n i_X6_init_100 rfl (isA_ref _) rfl).trans ?_
  refine (tq_sipush i_X6_init_101 rfl).trans ?_
  exact tq_newI (n := 256) (t := 0) i_X6_init_104 w_256 (by decide) rfl (by decide) rfl rfl
theorem i_X6_init_106 : am_i m_X6_init 106 = some (106, .putfield 61, 3, [6, 15, 2], 0) := rfl
theorem i_X6_init_109 : am_i m_X6_init 109 = some (109, .return_, 1, [], 0) := rfl
theorem b_X6_init_106 {v0 : Value} {as0 as1 : Nat} {h : am_H} (s1 : sh h as1 = (5, 6)) : rn m_X6_init 106 [v0] [.ref as0, .ref as1] h = some (.inl none, uF 6 h as1 15 (.ref as0)) := by
  refine (tq_putfield i_X6_init_106 s1 (okfA_6_15 (isA_ref _)) rfl).trans ?_
  exact tq_return i_X6_init_109 r_X6_init
theorem x6init_ok (hh : am_H) : ∃ h', rn m_X6_init 0 [.ref (hnx hh)] [] (aO 6 hh) = some (.inl none, h') ∧ Fr (fun _ _ => False) 9 592 hh h' ∧ hnx h' = hnx hh + 9 ∧ K6 h' (hnx hh) ∧ ∀ i, gZ h' (hnx hh + 8) i = 0 := by
  have s0 : sh (aO 6 hh) (hnx hh) = (5, 6) := sh_aO (by decide)
  have F0 : Fx (fun _ _ => False) 1 16 hh (aO 6 hh) := Fx_alc hh _ _
  have nx0 : hnx (aO 6 hh) = hnx hh + 1 := rfl
  generalize hA : hnx hh = A at *
  generalize aO 6 hh = h0 at *
  have st := b_X6_init_0 (a0 := A) (h := h0) s0
  obtain ⟨g0, eg⟩ : ∃ u, u = uF 6 (uF 6 (uF 6 (uF 6 (uF 6 (uF 6 (uF 6 (uF 6 h0 A 0 (.int (mI 105))) A 1 (.int (mI 0))) A 2 (.int (mI 0))) A 3 (.int (mI 1))) A 4 (.int (mI 0))) A 5 (.int (mI 1))) A 6 (.int (mI 0))) A 7 (.long (mL 0)) := ⟨_, rfl⟩
  have m0 : Md (fun a k => a = A ∧ k ≤ 7) h0 g0 := by
    rw [eg]
    exact Md_tr (Md_mono (Md_uF (Sm_uF_6_0 _ _ _)) fun a k q => ⟨q.1, by omega⟩) (Md_tr (Md_mono (Md_uF (Sm_uF_6_1 _ _ _)) fun a k q => ⟨q.1, by omega⟩) (Md_tr (Md_mono (Md_uF (Sm_uF_6_2 _ _ _)) fun a k q => ⟨q.1, by omega⟩) (Md_tr (Md_mono (Md_uF (Sm_uF_6_3 _ _ _)) fun a k q => ⟨q.1, by omega⟩) (Md_tr (Md_mono (Md_uF (Sm_uF_6_4 _ _ _)) fun a k q => ⟨q.1, by omega⟩) (Md_tr (Md_mono (Md_uF (Sm_uF_6_5 _ _ _)) fun a k q => ⟨q.1, by omega⟩) (Md_tr (Md_mono (Md_uF (Sm_uF_6_6 _ _ _)) fun a k q => ⟨q.1, by omega⟩) (Md_mono (Md_uF (Sm_uF_6_7 _ _ _)) fun a k q => ⟨q.1, by omega⟩)))))))
  rw [← eg] at st
  clear eg
  have t0 : sh g0 A = (5, 6) := (md_sh m0 _).trans s0
  have y0 : hnx g0 = A + 1 := m0.1.2.2.2.1.trans nx0
  obtain ⟨g1, e1, t1, y1, -, -, -, -, F1⟩ := in_step (g := g0) (k := 8) (n := 0) (by decide) t0 (by omega) (okfA_6_8 (isA_ref _))
  rw [b_X6_init_49 ((sh_aI_ne _ _ _ (by omega)).trans t0), ← e1] at st
  clear e1
  obtain ⟨g2, e2, t2, y2, -, -, -, -, F2⟩ := in_step (g := g1) (k := 9) (n := 0) (by decide) t1 (by omega) (okfA_6_9 (isA_ref _))
  rw [b_X6_init_56 ((sh_aI_ne _ _ _ (by omega)).trans t1), ← e2] at st
  clear e2
  obtain ⟨g3, e3, t3, y3, a3, -, b3, -, F3⟩ := in_step (g := g2) (k := 10) (n := 16) (by decide) t2 (by omega) (okfA_6_10 (isA_ref _))
  rw [b_X6_init_64 ((sh_aI_ne _ _ _ (by omega)).trans t2), ← e3] at st
  clear e3
  obtain ⟨g4, e4, t4, y4, a4, k4, b4, c4, F4⟩ := in_step (g := g3) (k := 11) (n := 16) (by decide) t3 (by omega) (okfA_6_11 (isA_ref _))
  rw [b_X6_init_72 ((sh_aI_ne _ _ _ (by omega)).trans t3), ← e4] at st
  clear e4
  obtain ⟨g5, e5, t5, y5, a5, k5, b5, c5, F5⟩ := in_step (g := g4) (k := 12) (n := 16) (by decide) t4 (by omega) (okfA_6_12 (isA_ref _))
  rw [b_X6_init_80 ((sh_aI_ne _ _ _ (by omega)).trans t4), ← e5] at st
  clear e5
  obtain ⟨g6, e6, t6, y6, a6, k6, b6, c6, F6⟩ := in_step (g := g5) (k := 13) (n := 16) (by decide) t5 (by omega) (okfA_6_13 (isA_ref _))
  rw [b_X6_init_88 ((sh_aI_ne _ _ _ (by omega)).trans t5), ← e6] at st
  clear e6
  obtain ⟨g7, e7, t7, y7, a7, k7, b7, c7, F7⟩ := in_step (g := g6) (k := 14) (n := 256) (by decide) t6 (by omega) (okfA_6_14 (isA_ref _))
  rw [b_X6_init_97 ((sh_aI_ne _ _ _ (by omega)).trans t6), ← e7] at st
  clear e7
  obtain ⟨g8, e8, t8, y8, a8, k8, b8, c8, F8⟩ := in_step (g := g7) (k := 15) (n := 256) (by decide) t7 (by omega) (okfA_6_15 (isA_ref _))
  rw [b_X6_init_106 ((sh_aI_ne _ _ _ (by omega)).trans t7), ← e8] at st
  clear e8
  have z1 : hnx g1 = A + 2 := by omega
  have z2 : hnx g2 = A + 3 := by omega
  have z3 : hnx g3 = A + 4 := by omega
  have z4 : hnx g4 = A + 5 := by omega
  have z5 : hnx g5 = A + 6 := by omega
  have z6 : hnx g6 = A + 7 := by omega
  have z7 : hnx g7 = A + 8 := by omega
  rw [z2] at a3 b3
  rw [z3] at a4 b4
  rw [z4] at a5 b5
  rw [z5] at a6 b6
  rw [z6] at a7 b7
  rw [z7] at a8 b8
  have FT := ((((((((F0.trans (md_fx m0)).trans F1).trans F2).trans F3).trans F4).trans F5).trans F6).trans F7).trans F8
  have FF : Fx (fun _ _ => False) 9 592 hh g8 := FT.mono (fun a k ha q => by
    have ha' : a < A := by rw [← hA]; exact ha
    rcases q with (((((((((q | q) | q) | q) | q) | q) | q) | q) | q) | q)
    · exact q
    · have e : a = A := q.1
      omega
    all_goals
      have e : a = A := q
      omega) (by omega) (by omega)
  refine ⟨g8, st, ⟨FF, fun a _ k ha _ _ => FF.fA1 ha (fun x => x)⟩, by omega, ⟨t8, ?_, ?_, ?_, ?_, ?_, ?_, ?_, ?_, ?_, ?_, ?_, ?_, ?_, ?_, ?_, a8, b8.1, b8.2.1⟩, b8.2.2⟩
  · rw [k8 _ (by decide), k7 _ (by decide), k6 _ (by decide), k5 _ (by decide), k4 _ (by decide)]; exact a3
  · rw [(c8 _ (by omega)).1, (c7 _ (by omega)).1, (c6 _ (by omega)).1, (c5 _ (by omega)).1, (c4 _ (by omega)).1]; exact b3.1
  · rw [(c8 _ (by omega)).2.1, (c7 _ (by omega)).2.1, (c6 _ (by omega)).2.1, (c5 _ (by omega)).2.1, (c4 _ (by omega)).2.1]; exact b3.2.1
  · rw [k8 _ (by decide), k7 _ (by decide), k6 _ (by decide), k5 _ (by decide)]; exact a4
  · rw [(c8 _ (by omega)).1, (c7 _ (by omega)).1, (c6 _ (by omega)).1, (c5 _ (by omega)).1]; exact b4.1
  · rw [(c8 _ (by omega)).2.1, (c7 _ (by omega)).2.1, (c6 _ (by omega)).2.1, (c5 _ (by omega)).2.1]; exact b4.2.1
  · rw [k8 _ (by decide), k7 _ (by decide), k6 _ (by decide)]; exact a5
  · rw [(c8 _ (by omega)).1, (c7 _ (by omega)).1, (c6 _ (by omega)).1]; exact b5.1
  · rw [(c8 _ (by omega)).2.1, (c7 _ (by omega)).2.1, (c6 _ (by omega)).2.1]; exact b5.2.1
  · rw [k8 _ (by decide), k7 _ (by decide)]; exact a6
  · rw [(c8 _ (by omega)).1, (c7 _ (by omega)).1]; exact b6.1
  · rw [(c8 _ (by omega)).2.1, (c7 _ (by omega)).2.1]; exact b6.2.1
  · rw [k8 _ (by decide)]; exact a7
  · rw [(c8 _ (by omega)).1]; exact b7.1
  · rw [(c8 _ (by omega)).2.1]; exact b7.2.1
end CP
