/-! ===== the class's writer ===== -/
def vrow (r : Int → Int) : Nat → Int
  | 0 => 0
  | n + 1 => vrow r n * 256 + r n
theorem vrow_congr {r r' : Int → Int} : ∀ {n : Nat}, (∀ i : Int, 0 ≤ i → i < n → r i = r' i) → vrow r n = vrow r' n
  | 0, _ => rfl
  | n + 1, h => by
    unfold vrow
    rw [vrow_congr fun i i0 i1 => h i i0 (by omega), h n (by omega) (by omega)]
theorem vrow_nn {r : Int → Int} : ∀ {n : Nat}, (∀ i : Int, 0 ≤ i → i < n → 0 ≤ r i) → 0 ≤ vrow r n
  | 0, _ => by unfold vrow; omega
  | n + 1, h => by
    have h1 := vrow_nn (n := n) fun i i0 i1 => h i i0 (by omega)
    have h2 := h n (by omega) (by omega)
    unfold vrow
    omega
/-- the writer's fields hold row, low and width -/
def WF (h : am_H) (w : Nat) (ch : Int → Int) (L wd : Int) (len e : Nat) : Prop := K8 h w ∧ (∀ i, 0 ≤ i → i < 70 → gZ h (w + 1) i = ch i) ∧ fZ h w 2 = len ∧ fJ h w 4 = wd ∧ (0 ≤ fJ h w 3 ∧ fJ h w 3 < 4294967296) ∧ vrow (gZ h (w + 2)) len * 4294967296 + fJ h w 3 = L ∧ ∀ i, 0 ≤ i → i < (len : Int) → 0 ≤ gZ h (w + 2) i ∧ gZ h (w + 2) i ≤ 255 + e
def WR (h : am_H) (w : Nat) (A : cA) (e : Nat) : Prop := WF h w A.1 A.2.1 A.2.2.1 A.2.2.2 e
def SW (w : Nat) : Nat → Nat → Prop := fun c k => c = w + 1 ∨ c = w + 2 ∨ (c = w ∧ (k = 2 ∨ k = 3 ∨ k = 4))
theorem fJ_uF_k {c : Nat} {h : am_H} {a k b j : Nat} {v : Value} (n : j ≠ k) : fJ (uF c h a k v) b j = fJ h b j := by
  unfold fJ
  rw [gV_uF_nj _ _ _ _ _ (fun q => n q.2)]
theorem fJ_b (h : am_H) (a k : Nat) : wl (fJ h a k) = fJ h a k := wl_fJ _ _ _
theorem i_X10_giveByte_0 : am_i m_X10_giveByte 0 = some (0, .aload_n 0, 1, [], 0) := rfl
theorem i_X10_giveByte_1 : am_i m_X10_giveByte 1 = some (1, .getfield 16, 3, [8, 2, 0], 0) := rfl
theorem i_X10_giveByte_4 : am_i m_X10_giveByte 4 = some (4, .ifCond .lt 42, 3, [], 0) := rfl
theorem i_X10_giveByte_7 : am_i m_X10_giveByte 7 = some (7, .aload_n 0, 1, [], 0) := rfl
theorem i_X10_giveByte_8 : am_i m_X10_giveByte 8 = some (8, .getfield 16, 3, [8, 2, 0], 0) := rfl
theorem i_X10_giveByte_11 : am_i m_X10_giveByte 11 = some (11, .aload_n 0, 1, [], 0) := rfl
theorem i_X10_giveByte_12 : am_i m_X10_giveByte 12 = some (12, .getfield 13, 3, [8, 1, 0], 0) := rfl
theorem i_X10_giveByte_15 : am_i m_X10_giveByte 15 = some (15, .arraylength, 1, [], 0) := rfl
theorem i_X10_giveByte_16 : am_i m_X10_giveByte 16 = some (16, .if_icmp .ge 30, 3, [], 0) := rfl
theorem i_X10_giveByte_19 : am_i m_X10_giveByte 19 = some (19, .aload_n 0, 1, [], 0) := rfl
theorem i_X10_giveByte_20 : am_i m_X10_giveByte 20 = some (20, .getfield 13, 3, [8, 1, 0], 0) := rfl
theorem i_X10_giveByte_23 : am_i m_X10_giveByte 23 = some (23, .aload_n 0, 1, [], 0) := rfl
theorem i_X10_giveByte_24 : am_i m_X10_giveByte 24 = some (24, .getfield 16, 3, [8, 2, 0], 0) := rfl
theorem i_X10_giveByte_27 : am_i m_X10_giveByte 27 = some (27, .aload_n 0, 1, [], 0) := rfl
theorem i_X10_giveByte_28 : am_i m_X10_giveByte 28 = some (28, .getfield 20, 3, [8, 3, 0], 0) := rfl
theorem i_X10_giveByte_31 : am_i m_X10_giveByte 31 = some (31, .bipush 24, 2, [], 24) := rfl
theorem i_X10_giveByte_33 : am_i m_X10_giveByte 33 = some (33, .lshr, 1, [], 0) := rfl
theorem i_X10_giveByte_34 : am_i m_X10_giveByte 34 = some (34, .l2i, 1, [], 0) := rfl
theorem i_X10_giveByte_35 : am_i m_X10_giveByte 35 = some (35, .iastore, 1, [], 0) := rfl
theorem i_X10_giveByte_36 : am_i m_X10_giveByte 36 = some (36, .aload_n 0, 1, [], 0) := rfl
theorem i_X10_giveByte_37 : am_i m_X10_giveByte 37 = some (37, .dup, 1, [], 0) := rfl
theorem i_X10_giveByte_38 : am_i m_X10_giveByte 38 = some (38, .getfield 16, 3, [8, 2, 0], 0) := rfl
theorem i_X10_giveByte_41 : am_i m_X10_giveByte 41 = some (41, .iconst 1, 1, [], 1) := rfl
theorem i_X10_giveByte_42 : am_i m_X10_giveByte 42 = some (42, .iadd, 1, [], 0) := rfl
theorem i_X10_giveByte_43 : am_i m_X10_giveByte 43 = some (43, .putfield 16, 3, [8, 2, 0], 0) := rfl
theorem i_X10_giveByte_46 : am_i m_X10_giveByte 46 = some (46, .aload_n 0, 1, [], 0) := rfl
theorem i_X10_giveByte_47 : am_i m_X10_giveByte 47 = some (47, .aload_n 0, 1, [], 0) := rfl
theorem i_X10_giveByte_48 : am_i m_X10_giveByte 48 = some (48, .getfield 20, 3, [8, 3, 0], 0) := rfl
theorem i_X10_giveByte_51 : am_i m_X10_giveByte 51 = some (51, .bipush 8, 2, [], 8) := rfl
theorem i_X10_giveByte_53 : am_i m_X10_giveByte 53 = some (53, .lshl, 1, [], 0) := rfl
theorem i_X10_giveByte_54 : am_i m_X10_giveByte 54 = some (54, .ldc2_w 24, 3, [], 4294967295) := rfl
theorem i_X10_giveByte_57 : am_i m_X10_giveByte 57 = some (57, .land, 1, [], 0) := rfl
theorem i_X10_giveByte_58 : am_i m_X10_giveByte 58 = some (58, .putfield 20, 3, [8, 3, 0], 0) := rfl
theorem i_X10_giveByte_61 : am_i m_X10_giveByte 61 = some (61, .return_, 1, [], 0) := rfl
theorem b_X10_giveByte_0 {a0 : Nat} {h : am_H} (k1 : K8 h a0) (g2 : (¬ ((fZ h a0 2) < 0)) → (¬ ((4096 : Int) ≤ (fZ h a0 2))) → (0 ≤ fZ h a0 2 ∧ fZ h a0 2 < (4096 : Int))) : rn m_X10_giveByte 0 [.ref a0] [] h = if (fZ h a0 2) < 0 then some (.inl none, uF 8 h a0 3 (.long (mL ((wl ((fJ h a0 3) * 2 ^ 8)) % 2 ^ 32)))) else if (4096 : Int) ≤ (fZ h a0 2) then some (.inl none, uF 8 h a0 3 (.long (mL ((wl ((fJ h a0 3) * 2 ^ 8)) % 2 ^ 32)))) else some (.inl none, uF 8 (uF 8 (uZ h (a0 + 2) (fZ h a0 2) ((fJ h a0 3) / 2 ^ 24)) a0 2 (.int (mI ((fZ h a0 2) + 1)))) a0 3 (.long (mL ((wl ((fJ h a0 3) * 2 ^ 8)) % 2 ^ 32)))) := by
  refine (tq_aload_n i_X10_giveByte_0 rfl (isA_ref _) rfl).trans ?_
  refine (tq_getfield i_X10_giveByte_1 (K8_s k1) (g_8_2 (K8_s k1)) (isV_I _) rfl).trans ?_
  refine (tq_if_lt (pt := 46) i_X10_giveByte_4 (wr_fZ _ _ _) (by decide) rfl).trans ?_
  refine ite_congr rfl (fun c1 => ?_) (fun c1 => ?_)
  · refine (tq_aload_n i_X10_giveByte_46 rfl (isA_ref _) rfl).trans ?_
    refine (tq_aload_n i_X10_giveByte_47 rfl (isA_ref _) rfl).trans ?_
    refine (tq_getfield i_X10_giveByte_48 (K8_s k1) (g_8_3 (K8_s k1)) (isV_J _) rfl).trans ?_
    refine (tq_bipush i_X10_giveByte_51 rfl).trans ?_
    refine (tq_lshl (k := 8) i_X10_giveByte_53 w_8 (by decide) rfl).trans ?_
    refine (tq_ldc2_w i_X10_giveByte_54 rfl).trans ?_
    refine (tq_lmask 32 i_X10_giveByte_57 rfl (by decide) (by decide) rfl).trans ?_
    refine (tq_putfield i_X10_giveByte_58 (K8_s k1) (okf_8_3 _) rfl).trans ?_
    exact tq_return i_X10_giveByte_61 r_X10_giveByte
  · refine (tq_aload_n i_X10_giveByte_7 rfl (isA_ref _) rfl).trans ?_
    refine (tq_getfield i_X10_giveByte_8 (K8_s k1) (g_8_2 (K8_s k1)) (isV_I _) rfl).trans ?_
    refine (tq_aload_n i_X10_giveByte_11 rfl (isA_ref _) rfl).trans ?_
    refine (tq_getfield i_X10_giveByte_12 (K8_s k1) (gR (g_8_1 (K8_s k1)) (K8_e1 k1)) (isV_ref _) rfl).trans ?_
    refine (tq_alen i_X10_giveByte_15 (K8_s1 k1) (by decide) (by decide) rfl).trans ?_
    rw [(K8_n1 k1)]
    refine (tq_icmp_ge (pt := 46) i_X10_giveByte_16 (wr_fZ _ _ _) (wr_len (K8_s1 k1) (K8_n1 k1) (by decide) (by decide)) (by decide) rfl).trans ?_
    refine ite_congr rfl (fun c2 => ?_) (fun c2 => ?_)
    · refine (tq_aload_n i_X10_giveByte_46 rfl (isA_ref _) rfl).trans ?_
      refine (tq_aload_n i_X10_giveByte_47 rfl (isA_ref _) rfl).trans ?_
      refine (tq_getfield i_X10_giveByte_48 (K8_s k1) (g_8_3 (K8_s k1)) (isV_J _) rfl).trans ?_
      refine (tq_bipush i_X10_giveByte_51 rfl).trans ?_
      refine (tq_lshl (k := 8) i_X10_giveByte_53 w_8 (by decide) rfl).trans ?_
      refine (tq_ldc2_w i_X10_giveByte_54 rfl).trans ?_
      refine (tq_lmask 32 i_X10_giveByte_57 rfl (by decide) (by decide) rfl).trans ?_
      refine (tq_putfield i_X10_giveByte_58 (K8_s k1) (okf_8_3 _) rfl).trans ?_
      exact tq_return i_X10_giveByte_61 r_X10_giveByte
    · refine (tq_aload_n i_X10_giveByte_19 rfl (isA_ref _) rfl).trans ?_
      refine (tq_getfield i_X10_giveByte_20 (K8_s k1) (gR (g_8_1 (K8_s k1)) (K8_e1 k1)) (isV_ref _) rfl).trans ?_
      refine (tq_aload_n i_X10_giveByte_23 rfl (isA_ref _) rfl).trans ?_
      refine (tq_getfield i_X10_giveByte_24 (K8_s k1) (g_8_2 (K8_s k1)) (isV_I _) rfl).trans ?_
      refine (tq_aload_n i_X10_giveByte_27 rfl (isA_ref _) rfl).trans ?_
      refine (tq_getfield i_X10_giveByte_28 (K8_s k1) (g_8_3 (K8_s k1)) (isV_J _) rfl).trans ?_
      refine (tq_bipush i_X10_giveByte_31 rfl).trans ?_
      refine (tq_lshr (k := 24) i_X10_giveByte_33 (wl_fJ _ _ _) w_24 (by decide) rfl).trans ?_
      refine (tq_l2i i_X10_giveByte_34 rfl).trans ?_
      refine (tq_iastore i_X10_giveByte_35 (K8_s1 k1) (wr_fZ _ _ _) (g2 c1 c2).1 (lt_gn (K8_n1 k1) (g2 c1 c2).2) rfl).trans ?_
      refine (tq_aload_n i_X10_giveByte_36 rfl (isA_ref _) rfl).trans ?_
      refine (tq_dup i_X10_giveByte_37 rfl rfl).trans ?_
      refine (tq_getfield i_X10_giveByte_38 ((sh_uZ _ _ _ _ _).trans (K8_s k1)) ((g_8_2 ((sh_uZ _ _ _ _ _).trans (K8_s k1))).trans (congrArg (fun z => Value.int (mI z)) (fZ_uZ _ _ _ _ _ _))) (isV_I _) rfl).trans ?_
      refine (tq_iconst i_X10_giveByte_41 rfl).trans ?_
      refine (tq_iadd i_X10_giveByte_42 rfl).trans ?_
      refine (tq_putfield i_X10_giveByte_43 ((sh_uZ _ _ _ _ _).trans (K8_s k1)) (okf_8_2 _) rfl).trans ?_
      refine (tq_aload_n i_X10_giveByte_46 rfl (isA_ref _) rfl).trans ?_
      refine (tq_aload_n i_X10_giveByte_47 rfl (isA_ref _) rfl).trans ?_
      refine (tq_getfield i_X10_giveByte_48 ((sh_uF _ _ _ _ _ _).trans ((sh_uZ _ _ _ _ _).trans (K8_s k1))) ((g_8_3 ((sh_uF _ _ _ _ _ _).trans ((sh_uZ _ _ _ _ _).trans (K8_s k1)))).trans (congrArg (fun z => Value.long (mL z)) ((fJ_uF_nk ((sh_uZ _ _ _ _ _).trans (K8_s k1)) (okf_8_2 _) (by decide)).trans (fJ_uZ _ _ _ _ _ _)))) (isV_J _) rfl).trans ?_
      refine (tq_bipush i_X10_giveByte_51 rfl).trans ?_
      refine (tq_lshl (k := 8) i_X10_giveByte_53 w_8 (by decide) rfl).trans ?_
      refine (tq_ldc2_w i_X10_giveByte_54 rfl).trans ?_
      refine (tq_lmask 32 i_X10_giveByte_57 rfl (by decide) (by decide) rfl).trans ?_
      refine (tq_putfield i_X10_giveByte_58 ((sh_uF _ _ _ _ _ _).trans ((sh_uZ _ _ _ _ _).trans (K8_s k1))) (okf_8_3 _) rfl).trans ?_
      exact tq_return i_X10_giveByte_61 r_X10_giveByte
theorem giveByte_ok {h : am_H} {w len : Nat} {lo : Int} (k : K8 h w) (e2 : fZ h w 2 = len) (e3 : fJ h w 3 = lo) (hl : len < 4096) (hlo : 0 ≤ lo ∧ lo < 4294967296) : ∃ h', rn m_X10_giveByte 0 [.ref w] [] h = some (.inl none, h') ∧ Md (SW w) h h' ∧ fZ h' w 2 = (len + 1 : Nat) ∧ fJ h' w 3 = lo * 256 % 4294967296 ∧ fJ h' w 4 = fJ h w 4 ∧ gZ h' (w + 1) = gZ h (w + 1) ∧ gZ h' (w + 2) (len : Int) = lo / 16777216 ∧ ∀ i, i ≠ (len : Int) → gZ h' (w + 2) i = gZ h (w + 2) i := by
  have p8 : (2 : Int) ^ 8 = 256 := rfl
  have p32 : (2 : Int) ^ 32 = 4294967296 := rfl
  have p24 : (2 : Int) ^ 24 = 16777216 := rfl
  have st := b_X10_giveByte_0 (a0 := w) (h := h) k (fun _ _ => by rw [e2]; omega)
  rw [e2, e3, if_neg (by omega), if_neg (by omega), p8, p32, p24, wl_id (z := lo * 256) (by omega) (by omega)] at st
  have s2 := sh1 (K8_s1 k)
  have s0 := K8_s k
  refine ⟨_, st, ?_, ?_, ?_, ?_, ?_, ?_, ?_⟩
  · refine Md_tr (Md_mono (Md_uZ _ _ _ _) fun c k q => ?_) (Md_tr (Md_mono (Md_uF (Sm_uF_8_2 _ _ _)) fun c k q => ?_) (Md_mono (Md_uF (Sm_uF_8_3 _ _ _)) fun c k q => ?_))
    · exact Or.inr (Or.inl q)
    · exact Or.inr (Or.inr ⟨q.1, Or.inl q.2⟩)
    · exact Or.inr (Or.inr ⟨q.1, Or.inr (Or.inl q.2)⟩)
  · rw [fZ_uF_k (by decide), fZ_uF_eq ((sh_uZ _ _ _ _ _).trans s0) (okf_8_2 _), wr_id (by omega) (by omega)]
    omega
  · rw [fJ_uF_eq ((sh_uF _ _ _ _ _ _).trans ((sh_uZ _ _ _ _ _).trans s0)) (okf_8_3 _), wl_id (by omega) (by omega)]
  · rw [fJ_uF_k (by decide), fJ_uF_k (by decide), fJ_uZ]
  · funext i
    rw [gZ_uF, gZ_uF, gZ_uZ_ne _ _ (by omega)]
  · rw [gZ_uF, gZ_uF, gZ_uZ_eq _ s2 rfl, wr_id (by omega) (by omega)]
  · intro i hi
    rw [gZ_uF, gZ_uF, gZ_uZ_nj _ s2 hi]
theorem i_X10_narrow_0 : am_i m_X10_narrow 0 = some (0, .aload_n 0, 1, [], 0) := rfl
theorem i_X10_narrow_1 : am_i m_X10_narrow 1 = some (1, .dup, 1, [], 0) := rfl
theorem i_X10_narrow_2 : am_i m_X10_narrow 2 = some (2, .getfield 20, 3, [8, 3, 0], 0) := rfl
theorem i_X10_narrow_5 : am_i m_X10_narrow 5 = some (5, .lload_n 1, 1, [], 0) := rfl
theorem i_X10_narrow_6 : am_i m_X10_narrow 6 = some (6, .ladd, 1, [], 0) := rfl
theorem i_X10_narrow_7 : am_i m_X10_narrow 7 = some (7, .putfield 20, 3, [8, 3, 0], 0) := rfl
theorem i_X10_narrow_10 : am_i m_X10_narrow 10 = some (10, .aload_n 0, 1, [], 0) := rfl
theorem i_X10_narrow_11 : am_i m_X10_narrow 11 = some (11, .getfield 20, 3, [8, 3, 0], 0) := rfl
theorem i_X10_narrow_14 : am_i m_X10_narrow 14 = some (14, .ldc2_w 24, 3, [], 4294967295) := rfl
theorem i_X10_narrow_17 : am_i m_X10_narrow 17 = some (17, .lcmp, 1, [], 0) := rfl
theorem i_X10_narrow_18 : am_i m_X10_narrow 18 = some (18, .ifCond .le 43, 3, [], 0) := rfl
theorem i_X10_narrow_21 : am_i m_X10_narrow 21 = some (21, .aload_n 0, 1, [], 0) := rfl
theorem i_X10_narrow_22 : am_i m_X10_narrow 22 = some (22, .dup, 1, [], 0) := rfl
theorem i_X10_narrow_23 : am_i m_X10_narrow 23 = some (23, .getfield 20, 3, [8, 3, 0], 0) := rfl
theorem i_X10_narrow_26 : am_i m_X10_narrow 26 = some (26, .ldc2_w 24, 3, [], 4294967295) := rfl
theorem i_X10_narrow_29 : am_i m_X10_narrow 29 = some (29, .land, 1, [], 0) := rfl
theorem i_X10_narrow_30 : am_i m_X10_narrow 30 = some (30, .putfield 20, 3, [8, 3, 0], 0) := rfl
theorem i_X10_narrow_33 : am_i m_X10_narrow 33 = some (33, .aload_n 0, 1, [], 0) := rfl
theorem i_X10_narrow_34 : am_i m_X10_narrow 34 = some (34, .getfield 13, 3, [8, 1, 0], 0) := rfl
theorem i_X10_narrow_37 : am_i m_X10_narrow 37 = some (37, .aload_n 0, 1, [], 0) := rfl
theorem i_X10_narrow_38 : am_i m_X10_narrow 38 = some (38, .getfield 16, 3, [8, 2, 0], 0) := rfl
theorem i_X10_narrow_41 : am_i m_X10_narrow 41 = some (41, .iconst 1, 1, [], 1) := rfl
theorem i_X10_narrow_42 : am_i m_X10_narrow 42 = some (42, .isub, 1, [], 0) := rfl
theorem i_X10_narrow_43 : am_i m_X10_narrow 43 = some (43, .aload_n 0, 1, [], 0) := rfl
theorem i_X10_narrow_44 : am_i m_X10_narrow 44 = some (44, .getfield 13, 3, [8, 1, 0], 0) := rfl
theorem i_X10_narrow_47 : am_i m_X10_narrow 47 = some (47, .aload_n 0, 1, [], 0) := rfl
theorem i_X10_narrow_48 : am_i m_X10_narrow 48 = some (48, .getfield 16, 3, [8, 2, 0], 0) := rfl
theorem i_X10_narrow_51 : am_i m_X10_narrow 51 = some (51, .iconst 1, 1, [], 1) := rfl
theorem i_X10_narrow_52 : am_i m_X10_narrow 52 = some (52, .isub, 1, [], 0) := rfl
theorem i_X10_narrow_53 : am_i m_X10_narrow 53 = some (53, .invokestatic 35, 3, [32], 0) := rfl
theorem i_X10_narrow_56 : am_i m_X10_narrow 56 = some (56, .iconst 1, 1, [], 1) := rfl
theorem i_X10_narrow_57 : am_i m_X10_narrow 57 = some (57, .iadd, 1, [], 0) := rfl
theorem i_X10_narrow_58 : am_i m_X10_narrow 58 = some (58, .invokestatic 41, 3, [33], 0) := rfl
theorem i_X10_narrow_61 : am_i m_X10_narrow 61 = some (61, .aload_n 0, 1, [], 0) := rfl
theorem i_X10_narrow_62 : am_i m_X10_narrow 62 = some (62, .lload_n 3, 1, [], 0) := rfl
theorem i_X10_narrow_63 : am_i m_X10_narrow 63 = some (63, .putfield 26, 3, [8, 4, 0], 0) := rfl
theorem i_X10_narrow_66 : am_i m_X10_narrow 66 = some (66, .iconst 0, 1, [], 0) := rfl
theorem i_X10_narrow_67 : am_i m_X10_narrow 67 = some (67, .istore 5, 2, [], 0) := rfl
theorem b_X10_narrow_0 {a0 : Nat} {j1 j3 : Int} {h : am_H} (k1 : K8 h a0) (g2 : (¬ ((wl ((fJ h a0 3) + j1)) ≤ 4294967295)) → (0 ≤ (wr ((fZ h a0 2) - 1)) ∧ (wr ((fZ h a0 2) - 1)) < (4096 : Int))) : rn m_X10_narrow 0 [.ref a0, .long (mL j1), am_J, .long (mL j3), am_J, am_J] [] h = if (wl ((fJ h a0 3) + j1)) ≤ 4294967295 then rn m_X10_narrow 69 [.ref a0, .long (mL j1), am_J, .long (mL j3), am_J, .int (mI 0)] [] (uF 8 (uF 8 h a0 3 (.long (mL ((fJ h a0 3) + j1)))) a0 4 (.long (mL j3))) else rn m_X10_narrow 69 [.ref a0, .long (mL j1), am_J, .long (mL j3), am_J, .int (mI 0)] [] (uF 8 (uZ (uF 8 (uF 8 h a0 3 (.long (mL ((fJ h a0 3) + j1)))) a0 3 (.long (mL ((wl ((fJ h a0 3) + j1)) % 2 ^ 32)))) (a0 + 2) (wr ((fZ h a0 2) - 1)) ((gZ (uF 8 (uF 8 h a0 3 (.long (mL ((fJ h a0 3) + j1)))) a0 3 (.long (mL ((wl ((fJ h a0 3) + j1)) % 2 ^ 32)))) (a0 + 2) (wr ((fZ h a0 2) - 1))) + 1)) a0 4 (.long (mL j3))) := by
  refine (tq_aload_n i_X10_narrow_0 rfl (isA_ref _) rfl).trans ?_
  refine (tq_dup i_X10_narrow_1 rfl rfl).trans ?_
  refine (tq_getfield i_X10_narrow_2 (K8_s k1) (g_8_3 (K8_s k1)) (isV_J _) rfl).trans ?_
  refine (tq_lload_n i_X10_narrow_5 rfl rfl).trans ?_
  refine (tq_ladd i_X10_narrow_6 rfl).trans ?_
  refine (tq_putfield i_X10_narrow_7 (K8_s k1) (okf_8_3 _) rfl).trans ?_
  refine (tq_aload_n i_X10_narrow_10 rfl (isA_ref _) rfl).trans ?_
  refine (tq_getfield i_X10_narrow_11 ((sh_uF _ _ _ _ _ _).trans (K8_s k1)) (gV_uF_eq (K8_s k1) (okf_8_3 _)) (isV_J _) rfl).trans ?_
  refine (tq_ldc2_w i_X10_narrow_14 rfl).trans ?_
  refine (tq_lcmp_le (pt := 61) i_X10_narrow_17 i_X10_narrow_18 rfl rfl wl_4294967295 (by decide) rfl).trans ?_
  refine ite_congr rfl (fun c1 => ?_) (fun c1 => ?_)
  · refine (tq_aload_n i_X10_narrow_61 rfl (isA_ref _) rfl).trans ?_
    refine (tq_lload_n i_X10_narrow_62 rfl rfl).trans ?_
    refine (tq_putfield i_X10_narrow_63 ((sh_uF _ _ _ _ _ _).trans (K8_s k1)) (okf_8_4 _) rfl).trans ?_
    refine (tq_iconst i_X10_narrow_66 rfl).trans ?_
    refine (tq_istore (L' := [.ref a0, .long (mL j1), am_J, .long (mL j3), am_J, .int (mI 0)]) i_X10_narrow_67 rfl rfl).trans ?_
    rfl
  · refine (tq_aload_n i_X10_narrow_21 rfl (isA_ref _) rfl).trans ?_
    refine (tq_dup i_X10_narrow_22 rfl rfl).trans ?_
    refine (tq_getfield i_X10_narrow_23 ((sh_uF _ _ _ _ _ _).trans (K8_s k1)) (gV_uF_eq (K8_s k1) (okf_8_3 _)) (isV_J _) rfl).trans ?_
    refine (tq_ldc2_w i_X10_narrow_26 rfl).trans ?_
    refine (tq_lmask 32 i_X10_narrow_29 rfl (by decide) (by decide) rfl).trans ?_
    refine (tq_putfield i_X10_narrow_30 ((sh_uF _ _ _ _ _ _).trans (K8_s k1)) (okf_8_3 _) rfl).trans ?_
    refine (tq_aload_n i_X10_narrow_33 rfl (isA_ref _) rfl).trans ?_
    refine (tq_getfield i_X10_narrow_34 ((sh_uF _ _ _ _ _ _).trans ((sh_uF _ _ _ _ _ _).trans (K8_s k1))) (gR ((g_8_1 ((sh_uF _ _ _ _ _ _).trans ((sh_uF _ _ _ _ _ _).trans (K8_s k1)))).trans (congrArg am_rv ((fA_uF_nk ((sh_uF _ _ _ _ _ _).trans (K8_s k1)) (okf_8_3 _) (by decide)).trans (fA_uF_nk (K8_s k1) (okf_8_3 _) (by decide))))) (K8_e1 k1)) (isV_ref _) rfl).trans ?_
    refine (tq_aload_n i_X10_narrow_37 rfl (isA_ref _) rfl).trans ?_
    refine (tq_getfield i_X10_narrow_38 ((sh_uF _ _ _ _ _ _).trans ((sh_uF _ _ _ _ _ _).trans (K8_s k1))) ((g_8_2 ((sh_uF _ _ _ _ _ _).trans ((sh_uF _ _ _ _ _ _).trans (K8_s k1)))).trans (congrArg (fun z => Value.int (mI z)) ((fZ_uF_nk ((sh_uF _ _ _ _ _ _).trans (K8_s k1)) (okf_8_3 _) (by decide)).trans (fZ_uF_nk (K8_s k1) (okf_8_3 _) (by decide))))) (isV_I _) rfl).trans ?_
    refine (tq_iconst i_X10_narrow_41 rfl).trans ?_
    refine (tq_isub i_X10_narrow_42 rfl).trans ?_
    refine (tq_aload_n i_X10_narrow_43 rfl (isA_ref _) rfl).trans ?_
    refine (tq_getfield i_X10_narrow_44 ((sh_uF _ _ _ _ _ _).trans ((sh_uF _ _ _ _ _ _).trans (K8_s k1))) (gR ((g_8_1 ((sh_uF _ _ _ _ _ _).trans ((sh_uF _ _ _ _ _ _).trans (K8_s k1)))).trans (congrArg am_rv ((fA_uF_nk ((sh_uF _ _ _ _ _ _).trans (K8_s k1)) (okf_8_3 _) (by decide)).trans (fA_uF_nk (K8_s k1) (okf_8_3 _) (by decide))))) (K8_e1 k1)) (isV_ref _) rfl).trans ?_
    refine (tq_aload_n i_X10_narrow_47 rfl (isA_ref _) rfl).trans ?_
    refine (tq_getfield i_X10_narrow_48 ((sh_uF _ _ _ _ _ _).trans ((sh_uF _ _ _ _ _ _).trans (K8_s k1))) ((g_8_2 ((sh_uF _ _ _ _ _ _).trans ((sh_uF _ _ _ _ _ _).trans (K8_s k1)))).trans (congrArg (fun z => Value.int (mI z)) ((fZ_uF_nk ((sh_uF _ _ _ _ _ _).trans (K8_s k1)) (okf_8_3 _) (by decide)).trans (fZ_uF_nk (K8_s k1) (okf_8_3 _) (by decide))))) (isV_I _) rfl).trans ?_
    refine (tq_iconst i_X10_narrow_51 rfl).trans ?_
    refine (tq_isub i_X10_narrow_52 rfl).trans ?_
    refine (c_X7_get i_X10_narrow_53 (ltd d_X10_narrow (by decide)) (isA_ref _) (stOk_2 _ _) rfl).trans ?_
    refine (congrArg (cl _ _ _ _) (get_ok rfl ((gn_uF _ _ _ _ _ _).trans ((gn_uF _ _ _ _ _ _).trans (K8_n1 k1))) ((sh_uF _ _ _ _ _ _).trans ((sh_uF _ _ _ _ _ _).trans (K8_s1 k1))) (by decide) (g2 c1))).trans ?_
    refine (cl_v _ _ _ _ _ _).trans ?_
    refine (tq_iconst i_X10_narrow_56 rfl).trans ?_
    refine (tq_iadd i_X10_narrow_57 rfl).trans ?_
    refine (c_X7_put i_X10_narrow_58 (ltd d_X10_narrow (by decide)) (isA_ref _) stOk_0 rfl).trans ?_
    refine (congrArg (cl _ _ _ _) (put_ok rfl ((gn_uF _ _ _ _ _ _).trans ((gn_uF _ _ _ _ _ _).trans (K8_n1 k1))) ((sh_uF _ _ _ _ _ _).trans ((sh_uF _ _ _ _ _ _).trans (K8_s1 k1))) (g2 c1))).trans ?_
    refine (cl_n _ _ _ _ _).trans ?_
    refine (tq_aload_n i_X10_narrow_61 rfl (isA_ref _) rfl).trans ?_
    refine (tq_lload_n i_X10_narrow_62 rfl rfl).trans ?_
    refine (tq_putfield i_X10_narrow_63 ((sh_uZ _ _ _ _ _).trans ((sh_uF _ _ _ _ _ _).trans ((sh_uF _ _ _ _ _ _).trans (K8_s k1)))) (okf_8_4 _) rfl).trans ?_
    refine (tq_iconst i_X10_narrow_66 rfl).trans ?_
    refine (tq_istore (L' := [.ref a0, .long (mL j1), am_J, .long (mL j3), am_J, .int (mI 0)]) i_X10_narrow_67 rfl rfl).trans ?_
    rfl
theorem i_X10_narrow_69 : am_i m_X10_narrow 69 = some (69, .iload 5, 2, [], 0) := rfl
theorem i_X10_narrow_71 : am_i m_X10_narrow 71 = some (71, .iconst 4, 1, [], 4) := rfl
theorem i_X10_narrow_72 : am_i m_X10_narrow 72 = some (72, .if_icmp .ge 36, 3, [], 0) := rfl
theorem i_X10_narrow_75 : am_i m_X10_narrow 75 = some (75, .aload_n 0, 1, [], 0) := rfl
theorem i_X10_narrow_76 : am_i m_X10_narrow 76 = some (76, .getfield 26, 3, [8, 4, 0], 0) := rfl
theorem i_X10_narrow_79 : am_i m_X10_narrow 79 = some (79, .ldc2_w 51, 3, [], 16777216) := rfl
theorem i_X10_narrow_82 : am_i m_X10_narrow 82 = some (82, .lcmp, 1, [], 0) := rfl
theorem i_X10_narrow_83 : am_i m_X10_narrow 83 = some (83, .ifCond .ge 25, 3, [], 0) := rfl
theorem i_X10_narrow_86 : am_i m_X10_narrow 86 = some (86, .aload_n 0, 1, [], 0) := rfl
theorem i_X10_narrow_87 : am_i m_X10_narrow 87 = some (87, .invokevirtual 53, 3, [5, 8], 0) := rfl
theorem i_X10_narrow_108 : am_i m_X10_narrow 108 = some (108, .return_, 1, [], 0) := rfl
theorem b_X10_narrow_69 {a0 : Nat} {v1 v2 v3 v4 : Value} {x5 x5' : Int} {h : am_H} (w5 : wr x5 = x5') (k1 : K8 h a0) : rn m_X10_narrow 69 [.ref a0, v1, v2, v3, v4, .int (mI x5)] [] h = if 4 ≤ x5' then some (.inl none, h) else if 16777216 ≤ (fJ h a0 4) then some (.inl none, h) else cl m_X10_narrow 90 [.ref a0, v1, v2, v3, v4, .int (mI x5)] [] (rn m_X10_giveByte 0 [.ref a0] [] h) := by
  refine (tq_iload i_X10_narrow_69 rfl rfl).trans ?_
  refine (tq_iconst i_X10_narrow_71 rfl).trans ?_
  refine (tq_icmp_ge (pt := 108) i_X10_narrow_72 w5 w_4 (by decide) rfl).trans ?_
  refine ite_congr rfl (fun c1 => ?_) (fun c1 => ?_)
  · exact tq_return i_X10_narrow_108 r_X10_narrow
  · refine (tq_aload_n i_X10_narrow_75 rfl (isA_ref _) rfl).trans ?_
    refine (tq_getfield i_X10_narrow_76 (K8_s k1) (g_8_4 (K8_s k1)) (isV_J _) rfl).trans ?_
    refine (tq_ldc2_w i_X10_narrow_79 rfl).trans ?_
    refine (tq_lcmp_ge (pt := 108) i_X10_narrow_82 i_X10_narrow_83 rfl (wl_fJ _ _ _) wl_16777216 (by decide) rfl).trans ?_
    refine ite_congr rfl (fun c2 => ?_) (fun c2 => ?_)
    · exact tq_return i_X10_narrow_108 r_X10_narrow
    · refine (tq_aload_n i_X10_narrow_86 rfl (isA_ref _) rfl).trans ?_
      exact c_X10_giveByte i_X10_narrow_87 (K8_s k1) (ltd d_X10_narrow (by decide)) stOk_0 rfl
theorem i_X10_narrow_90 : am_i m_X10_narrow 90 = some (90, .aload_n 0, 1, [], 0) := rfl
theorem i_X10_narrow_91 : am_i m_X10_narrow 91 = some (91, .dup, 1, [], 0) := rfl
theorem i_X10_narrow_92 : am_i m_X10_narrow 92 = some (92, .getfield 26, 3, [8, 4, 0], 0) := rfl
theorem i_X10_narrow_95 : am_i m_X10_narrow 95 = some (95, .ldc2_w 56, 3, [], 256) := rfl
theorem i_X10_narrow_98 : am_i m_X10_narrow 98 = some (98, .lmul, 1, [], 0) := rfl
theorem i_X10_narrow_99 : am_i m_X10_narrow 99 = some (99, .putfield 26, 3, [8, 4, 0], 0) := rfl
theorem i_X10_narrow_102 : am_i m_X10_narrow 102 = some (102, .iinc 5 1, 3, [], 0) := rfl
theorem i_X10_narrow_105 : am_i m_X10_narrow 105 = some (105, .goto (-36), 3, [], 0) := rfl
theorem b_X10_narrow_90 {a0 : Nat} {v1 v2 v3 v4 : Value} {x5 : Int} {h : am_H} (k1 : K8 h a0) : rn m_X10_narrow 90 [.ref a0, v1, v2, v3, v4, .int (mI x5)] [] h = rn m_X10_narrow 69 [.ref a0, v1, v2, v3, (am_k1 v4), .int (mI (x5 + 1))] [] (uF 8 h a0 4 (.long (mL ((fJ h a0 4) * 256)))) := by
  refine (tq_aload_n i_X10_narrow_90 rfl (isA_ref _) rfl).trans ?_
  refine (tq_dup i_X10_narrow_91 rfl rfl).trans ?_
  refine (tq_getfield i_X10_narrow_92 (K8_s k1) (g_8_4 (K8_s k1)) (isV_J _) rfl).trans ?_
  refine (tq_ldc2_w i_X10_narrow_95 rfl).trans ?_
  refine (tq_lmul i_X10_narrow_98 rfl).trans ?_
  refine (tq_putfield i_X10_narrow_99 (K8_s k1) (okf_8_4 _) rfl).trans ?_
  refine (tq_iinc (L' := [.ref a0, v1, v2, v3, (am_k1 v4), .int (mI (x5 + 1))]) i_X10_narrow_102 rfl rfl rfl).trans ?_
  refine (tq_goto (pc' := 69) i_X10_narrow_105 (by decide)).trans ?_
  rfl
theorem WF_md {S : Nat → Nat → Prop} {h h' : am_H} {w : Nat} {ch : Int → Int} {L wd : Int} {len e : Nat} (m : Md S h h') (n1 : ¬ S (w + 1) 0) (n2 : ¬ S (w + 2) 0) (n3 : ∀ k, k < 5 → ¬ S w k) (q : WF h w ch L wd len e) : WF h' w ch L wd len e := by
  obtain ⟨q1, q2, q3, q4, q5, q6, q7⟩ := q
  have e2 : gZ h' (w + 2) = gZ h (w + 2) := md_Z m n2
  refine ⟨K8_sm m.1 q1, fun i i0 i1 => (md_gZ m n1 i).trans (q2 i i0 i1), (md_fZ m (n3 2 (by decide))).trans q3, (md_fJ m (n3 4 (by decide))).trans q4, ?_, ?_, ?_⟩
  · rw [md_fJ m (n3 3 (by decide))]; exact q5
  · rw [md_fJ m (n3 3 (by decide)), e2]; exact q6
  · rw [e2]; exact q7
theorem narrow_ok {h : am_H} {w len e : Nat} {ch : Int → Int} {L wd a nw : Int} (q : WF h w ch L wd len e) (hl : len ≤ 4000) (he : e ≤ 20000) (ha : 0 ≤ a ∧ a ≤ 4294967295) (hn : 65536 ≤ nw ∧ nw ≤ 4294967295) (hs : L + a + nw ≤ 4294967296 * 256 ^ len) : ∃ h', rn m_X10_narrow 0 [.ref w, .long (mL a), am_J, .long (mL nw), am_J, am_J] [] h = some (.inl none, h') ∧ Md (SW w) h h' ∧ WR h' w (nrmA ch (L + a) nw len) (e + 1) := by
  obtain ⟨k, q2, q3, q4, q5, q6, q7⟩ := q
  have p32 : (2 : Int) ^ 32 = 4294967296 := rfl
  have s0 := K8_s k
  have s2 := sh1 (K8_s1 k)
  have wa : wl (fJ h w 3 + a) = fJ h w 3 + a := wl_id (by omega) (by omega)
  have vn : 0 ≤ vrow (gZ h (w + 2)) len := vrow_nn fun i i0 i1 => (q7 i i0 i1).1
  -- the sum, with its carry
  have first : ∃ h1, rn m_X10_narrow 0 [.ref w, .long (mL a), am_J, .long (mL nw), am_J, am_J] [] h = rn m_X10_narrow 69 [.ref w, .long (mL a), am_J, .long (mL nw), am_J, .int (mI 0)] [] h1 ∧ Md (SW w) h h1 ∧ WF h1 w ch (L + a) nw len (e + 1) := by
    by_cases c : fJ h w 3 + a ≤ 4294967295
    · have st := b_X10_narrow_0 (a0 := w) (j1 := a) (j3 := nw) (h := h) k (fun q => by rw [wa] at q; exact absurd c q)
      rw [wa, if_pos c] at st
      have m1 : Md (SW w) h (uF 8 (uF 8 h w 3 (.long (mL (fJ h w 3 + a)))) w 4 (.long (mL nw))) := Md_tr (Md_mono (Md_uF (Sm_uF_8_3 _ _ _)) fun c k q => Or.inr (Or.inr ⟨q.1, Or.inr (Or.inl q.2)⟩)) (Md_mono (Md_uF (Sm_uF_8_4 _ _ _)) fun c k q => Or.inr (Or.inr ⟨q.1, Or.inr (Or.inr q.2)⟩))
      have l1 : fJ (uF 8 (uF 8 h w 3 (.long (mL (fJ h w 3 + a)))) w 4 (.long (mL nw))) w 3 = fJ h w 3 + a := by rw [fJ_uF_k (by decide), fJ_uF_eq s0 (okf_8_3 _), wa]
      have r1 : gZ (uF 8 (uF 8 h w 3 (.long (mL (fJ h w 3 + a)))) w 4 (.long (mL nw))) (w + 2) = gZ h (w + 2) := funext fun i => by rw [gZ_uF, gZ_uF]
      refine ⟨_, st, m1, K8_sm m1.1 k, fun i i0 i1 => by rw [gZ_uF, gZ_uF]; exact q2 i i0 i1, by rw [fZ_uF_k (by decide), fZ_uF_k (by decide)]; exact q3, by rw [fJ_uF_eq ((sh_uF _ _ _ _ _ _).trans s0) (okf_8_4 _), wl_id (by omega) (by omega)], by rw [l1]; omega, by rw [l1, r1]; omega, fun i i0 i1 => by rw [r1]; have := q7 i i0 i1; omega⟩
    · have lp : 1 ≤ len := by
        rcases Nat.eq_zero_or_pos len with e0 | e0
        · exfalso
          subst e0
          simp only [vrow, Int.pow_zero] at q6 hs
          omega
        · exact e0
      obtain ⟨n, rfl⟩ : ∃ n, len = n + 1 := ⟨len - 1, by omega⟩
      have wi : wr (fZ h w 2 - 1) = n := by rw [q3, wr_id (by omega) (by omega)]; omega
      have rb := q7 n (by omega) (by omega)
      have st := b_X10_narrow_0 (a0 := w) (j1 := a) (j3 := nw) (h := h) k (fun _ => by rw [wi]; omega)
      rw [wa, if_neg c, wi, gZ_uF, gZ_uF, p32] at st
      have m1 : Md (SW w) h (uF 8 (uZ (uF 8 (uF 8 h w 3 (.long (mL (fJ h w 3 + a)))) w 3 (.long (mL ((fJ h w 3 + a) % 4294967296)))) (w + 2) n (gZ h (w + 2) n + 1)) w 4 (.long (mL nw))) := Md_tr (Md_mono (Md_uF (Sm_uF_8_3 _ _ _)) fun c k q => Or.inr (Or.inr ⟨q.1, Or.inr (Or.inl q.2)⟩)) (Md_tr (Md_mono (Md_uF (Sm_uF_8_3 _ _ _)) fun c k q => Or.inr (Or.inr ⟨q.1, Or.inr (Or.inl q.2)⟩)) (Md_tr (Md_mono (Md_uZ _ _ _ _) fun c k q => Or.inr (Or.inl q)) (Md_mono (Md_uF (Sm_uF_8_4 _ _ _)) fun c k q => Or.inr (Or.inr ⟨q.1, Or.inr (Or.inr q.2)⟩))))
      have sX : sh (uF 8 (uF 8 h w 3 (.long (mL (fJ h w 3 + a)))) w 3 (.long (mL ((fJ h w 3 + a) % 4294967296)))) (w + 2) = (1, 0) := (sh_uF _ _ _ _ _ _).trans ((sh_uF _ _ _ _ _ _).trans (K8_s1 k))
      have rr : ∀ i, gZ (uF 8 (uZ (uF 8 (uF 8 h w 3 (.long (mL (fJ h w 3 + a)))) w 3 (.long (mL ((fJ h w 3 + a) % 4294967296)))) (w + 2) n (gZ h (w + 2) n + 1)) w 4 (.long (mL nw))) (w + 2) i = if i = n then gZ h (w + 2) n + 1 else gZ h (w + 2) i := fun i => by
        rw [gZ_uF, gZ_uZ' (sh1 sX), wr_id (by omega) (by omega), gZ_uF, gZ_uF]
      have l1 : fJ (uF 8 (uZ (uF 8 (uF 8 h w 3 (.long (mL (fJ h w 3 + a)))) w 3 (.long (mL ((fJ h w 3 + a) % 4294967296)))) (w + 2) n (gZ h (w + 2) n + 1)) w 4 (.long (mL nw))) w 3 = (fJ h w 3 + a) % 4294967296 := by rw [fJ_uF_k (by decide), fJ_uZ, fJ_uF_eq ((sh_uF _ _ _ _ _ _).trans s0) (okf_8_3 _), wl_id (by omega) (by omega)]
      have vv : vrow (gZ (uF 8 (uZ (uF 8 (uF 8 h w 3 (.long (mL (fJ h w 3 + a)))) w 3 (.long (mL ((fJ h w 3 + a) % 4294967296)))) (w + 2) n (gZ h (w + 2) n + 1)) w 4 (.long (mL nw))) (w + 2)) (n + 1) = vrow (gZ h (w + 2)) (n + 1) + 1 := by
        unfold vrow
        rw [vrow_congr (r' := gZ h (w + 2)) fun i i0 i1 => by rw [rr, if_neg (by omega)], rr, if_pos rfl]
        omega
      refine ⟨_, st, m1, K8_sm m1.1 k, fun i i0 i1 => by rw [md_gZ (S := fun c k => c = w + 2 ∨ c = w) (Md_tr (Md_mono (Md_uF (Sm_uF_8_3 _ _ _)) fun c k q => Or.inr q.1) (Md_tr (Md_mono (Md_uF (Sm_uF_8_3 _ _ _)) fun c k q => Or.inr q.1) (Md_tr (Md_mono (Md_uZ _ _ _ _) fun c k q => Or.inl q) (Md_mono (Md_uF (Sm_uF_8_4 _ _ _)) fun c k q => Or.inr q.1)))) (by omega)]; exact q2 i i0 i1, ?_, ?_, by rw [l1]; omega, by rw [l1, vv]; omega, fun i i0 i1 => ?_⟩
      · rw [fZ_uF_k (by decide), fZ_uZ, fZ_uF_k (by decide), fZ_uF_k (by decide)]; exact q3
      · rw [fJ_uF_eq ((sh_uZ _ _ _ _ _).trans ((sh_uF _ _ _ _ _ _).trans ((sh_uF _ _ _ _ _ _).trans s0))) (okf_8_4 _), wl_id (by omega) (by omega)]
      · have := q7 i i0 i1
        rw [rr]
        split <;> omega
  obtain ⟨h1, e1, m1, f1⟩ := first
  obtain ⟨k1, r2, r3, r4, r5, r6, r7⟩ := id f1
  have w0 : wr 0 = 0 := wr_id (by omega) (by omega)
  have st1 := b_X10_narrow_69 (a0 := w) (v1 := .long (mL a)) (v2 := am_J) (v3 := .long (mL nw)) (v4 := am_J) (h := h1) w0 k1
  rw [if_neg (by omega), r4] at st1
  unfold nrmA
  by_cases c : nw < 16777216
  · rw [if_neg (by omega)] at st1
    obtain ⟨h2, e2, m2, g2, g3, g4, g5, g6, g7⟩ := giveByte_ok (len := len) k1 r3 rfl (by omega) r5
    have k2 := K8_sm m2.1 k1
    rw [e2, cl_n, b_X10_narrow_90 k2, g4, r4] at st1
    have m3 : Md (fun c k => c = w ∧ k = 4) h2 (uF 8 h2 w 4 (.long (mL (nw * 256)))) := Md_uF (Sm_uF_8_4 _ _ _)
    have k3 := K8_sm m3.1 k2
    have wd3 : fJ (uF 8 h2 w 4 (.long (mL (nw * 256)))) w 4 = nw * 256 := by rw [fJ_uF_eq (K8_s k2) (okf_8_4 _), wl_id (by omega) (by omega)]
    have st2 := b_X10_narrow_69 (a0 := w) (v1 := .long (mL a)) (v2 := am_J) (v3 := .long (mL nw)) (v4 := am_k1 am_J) (x5 := 0 + 1) (h := uF 8 h2 w 4 (.long (mL (nw * 256)))) (wr_id (z := 0 + 1) (by omega) (by omega)) k3
    rw [if_neg (by omega), wd3, if_pos (by omega)] at st2
    rw [if_pos c]
    have lo3 : fJ (uF 8 h2 w 4 (.long (mL (nw * 256)))) w 3 = fJ h1 w 3 * 256 % 4294967296 := by rw [fJ_uF_k (by decide)]; exact g3
    have rr3 : ∀ i, gZ (uF 8 h2 w 4 (.long (mL (nw * 256)))) (w + 2) i = if i = len then fJ h1 w 3 / 16777216 else gZ h1 (w + 2) i := fun i => by
      rw [gZ_uF]
      split
      · rename_i hi; rw [hi]; exact g6
      · rename_i hi; exact g7 i hi
    have vv : vrow (gZ (uF 8 h2 w 4 (.long (mL (nw * 256)))) (w + 2)) (len + 1) = vrow (gZ h1 (w + 2)) len * 256 + fJ h1 w 3 / 16777216 := by
      show vrow _ len * 256 + _ = _
      rw [vrow_congr (r' := gZ h1 (w + 2)) fun i i0 i1 => by rw [rr3, if_neg (by omega)], rr3, if_pos rfl]
    refine ⟨_, e1.trans (st1.trans st2), Md_tr m1 (Md_tr m2 (Md_mono m3 fun c k q => Or.inr (Or.inr ⟨q.1, Or.inr (Or.inr q.2)⟩))), k3, fun i i0 i1 => ?_, ?_, wd3, by rw [lo3]; omega, ?_, fun i i0 i1 => ?_⟩
    · rw [gZ_uF, g5]; exact r2 i i0 i1
    · rw [fZ_uF_k (by decide)]; exact g2
    · simp only
      rw [lo3, vv]
      omega
    · simp only at i1
      rw [rr3]
      split
      · omega
      · exact r7 i i0 (by omega)
  · rw [if_pos (by omega)] at st1
    rw [if_neg c]
    exact ⟨h1, e1.trans st1, m1, f1⟩
