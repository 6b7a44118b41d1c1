/-! ===== smoothing, splitting, notes of parts ===== -/
theorem td4 (x : Int) : Int.tdiv x 4 = if 0 ≤ x then x / 4 else -((-x) / 4) := by
  split
  · rename_i h
    exact tdv h
  · rename_i h
    have e : x = -(-x) := by omega
    rw [e, Int.neg_tdiv, tdv (by omega), Int.neg_neg]
def sp (q o t : Int) (p : Int → Int) : Int → Int := if iabs (p o - p t) < q + 2 then (fun i => if i = t then p t - Int.tdiv (p t - p o) 4 else if i = o then p o + Int.tdiv (p t - p o) 4 else p i) else p
theorem sp_pix {q o t : Int} {p : Int → Int} (hp : pixels p) (ho : 0 ≤ o ∧ o < 256) (ht : 0 ≤ t ∧ t < 256) : pixels (sp q o t p) := by
  unfold sp
  have h1 := hp o ho.1 ho.2
  have h2 := hp t ht.1 ht.2
  split
  · intro i i0 i1
    have h3 := hp i i0 i1
    have e := td4 (p t - p o)
    simp only
    split at e <;> repeat' split
    all_goals omega
  · exact hp
def smV (q : Int) : Nat → (Int → Int) → Int → Int
  | 0, p => p
  | n + 1, p => sp q (16 * ((n % 16 : Nat) : Int) + (4 * (((n / 16 : Nat) : Int) + 1) - 1)) (16 * ((n % 16 : Nat) : Int) + 4 * (((n / 16 : Nat) : Int) + 1)) (smV q n p)
def smH (q sl : Int) : Nat → (Int → Int) → Int → Int
  | 0, p => p
  | n + 1, p => if 1 < sl ∧ n / 16 = 1 then smH q sl n p else sp q (16 * (4 * (((n / 16 : Nat) : Int) + 1) - 1) + ((n % 16 : Nat) : Int)) (16 * (4 * (((n / 16 : Nat) : Int) + 1)) + ((n % 16 : Nat) : Int)) (smH q sl n p)
def smo (q tl sl : Int) (p : Int → Int) : Int → Int := if zand tl 2 = 0 then p else smH q sl 48 (smV q 48 p)
theorem smV_pix {q : Int} {p : Int → Int} (hp : pixels p) : ∀ n, n ≤ 48 → pixels (smV q n p)
  | 0, _ => hp
  | n + 1, h => by
    unfold smV
    exact sp_pix (smV_pix hp n (by omega)) (by omega) (by omega)
theorem smH_pix {q sl : Int} {p : Int → Int} (hp : pixels p) : ∀ n, n ≤ 48 → pixels (smH q sl n p)
  | 0, _ => hp
  | n + 1, h => by
    unfold smH
    split
    · exact smH_pix hp n (by omega)
    · exact sp_pix (smH_pix hp n (by omega)) (by omega) (by omega)
theorem smo_pix {q tl sl : Int} {p : Int → Int} (hp : pixels p) : pixels (smo q tl sl p) := by
  unfold smo
  split
  · exact hp
  · exact smH_pix (smV_pix hp 48 (by omega)) 48 (by omega)
theorem sp_congr {q o t : Int} {p r : Int → Int} (e : ∀ i, 0 ≤ i → i < 256 → p i = r i) (ho : 0 ≤ o ∧ o < 256) (ht : 0 ≤ t ∧ t < 256) : ∀ i, 0 ≤ i → i < 256 → sp q o t p i = sp q o t r i := by
  intro i i0 i1
  unfold sp
  rw [e o ho.1 ho.2, e t ht.1 ht.2]
  split
  · simp only [e i i0 i1]
  · exact e i i0 i1
theorem smV_congr {q : Int} {p r : Int → Int} (e : ∀ i, 0 ≤ i → i < 256 → p i = r i) : ∀ n, n ≤ 48 → ∀ i, 0 ≤ i → i < 256 → smV q n p i = smV q n r i
  | 0, _ => e
  | n + 1, h => by
    unfold smV
    exact sp_congr (smV_congr e n (by omega)) (by omega) (by omega)
theorem smH_congr {q sl : Int} {p r : Int → Int} (e : ∀ i, 0 ≤ i → i < 256 → p i = r i) : ∀ n, n ≤ 48 → ∀ i, 0 ≤ i → i < 256 → smH q sl n p i = smH q sl n r i
  | 0, _ => e
  | n + 1, h => by
    unfold smH
    split
    · exact smH_congr e n (by omega)
    · exact sp_congr (smH_congr e n (by omega)) (by omega) (by omega)
theorem smo_congr {q tl sl : Int} {p r : Int → Int} (e : ∀ i, 0 ≤ i → i < 256 → p i = r i) : ∀ i, 0 ≤ i → i < 256 → smo q tl sl p i = smo q tl sl r i := by
  unfold smo
  split
  · exact e
  · exact smH_congr (smV_congr e 48 (by omega)) 48 (by omega)
theorem i_X1_smoothPair_0 : am_i m_X1_smoothPair 0 = some (0, .aload_n 0, 1, [], 0) := rfl
theorem i_X1_smoothPair_1 : am_i m_X1_smoothPair 1 = some (1, .iload_n 1, 1, [], 0) := rfl
theorem i_X1_smoothPair_2 : am_i m_X1_smoothPair 2 = some (2, .invokestatic 69, 3, [32], 0) := rfl
theorem i_X1_smoothPair_5 : am_i m_X1_smoothPair 5 = some (5, .istore 4, 2, [], 0) := rfl
theorem i_X1_smoothPair_7 : am_i m_X1_smoothPair 7 = some (7, .aload_n 0, 1, [], 0) := rfl
theorem i_X1_smoothPair_8 : am_i m_X1_smoothPair 8 = some (8, .iload_n 2, 1, [], 0) := rfl
theorem i_X1_smoothPair_9 : am_i m_X1_smoothPair 9 = some (9, .invokestatic 69, 3, [32], 0) := rfl
theorem i_X1_smoothPair_12 : am_i m_X1_smoothPair 12 = some (12, .istore 5, 2, [], 0) := rfl
theorem i_X1_smoothPair_14 : am_i m_X1_smoothPair 14 = some (14, .iload 4, 2, [], 0) := rfl
theorem i_X1_smoothPair_16 : am_i m_X1_smoothPair 16 = some (16, .iload 5, 2, [], 0) := rfl
theorem i_X1_smoothPair_18 : am_i m_X1_smoothPair 18 = some (18, .isub, 1, [], 0) := rfl
theorem i_X1_smoothPair_19 : am_i m_X1_smoothPair 19 = some (19, .invokestatic 107, 3, [0, 0], 0) := rfl
theorem i_X1_smoothPair_22 : am_i m_X1_smoothPair 22 = some (22, .iload_n 3, 1, [], 0) := rfl
theorem i_X1_smoothPair_23 : am_i m_X1_smoothPair 23 = some (23, .iconst 2, 1, [], 2) := rfl
theorem i_X1_smoothPair_24 : am_i m_X1_smoothPair 24 = some (24, .iadd, 1, [], 0) := rfl
theorem i_X1_smoothPair_25 : am_i m_X1_smoothPair 25 = some (25, .if_icmp .ge 32, 3, [], 0) := rfl
theorem i_X1_smoothPair_28 : am_i m_X1_smoothPair 28 = some (28, .iload 5, 2, [], 0) := rfl
theorem i_X1_smoothPair_30 : am_i m_X1_smoothPair 30 = some (30, .iload 4, 2, [], 0) := rfl
theorem i_X1_smoothPair_32 : am_i m_X1_smoothPair 32 = some (32, .isub, 1, [], 0) := rfl
theorem i_X1_smoothPair_33 : am_i m_X1_smoothPair 33 = some (33, .iconst 4, 1, [], 4) := rfl
theorem i_X1_smoothPair_34 : am_i m_X1_smoothPair 34 = some (34, .idiv, 1, [], 0) := rfl
theorem i_X1_smoothPair_35 : am_i m_X1_smoothPair 35 = some (35, .istore 6, 2, [], 0) := rfl
theorem i_X1_smoothPair_37 : am_i m_X1_smoothPair 37 = some (37, .aload_n 0, 1, [], 0) := rfl
theorem i_X1_smoothPair_38 : am_i m_X1_smoothPair 38 = some (38, .iload_n 1, 1, [], 0) := rfl
theorem i_X1_smoothPair_39 : am_i m_X1_smoothPair 39 = some (39, .iload 4, 2, [], 0) := rfl
theorem i_X1_smoothPair_41 : am_i m_X1_smoothPair 41 = some (41, .iload 6, 2, [], 0) := rfl
theorem i_X1_smoothPair_43 : am_i m_X1_smoothPair 43 = some (43, .iadd, 1, [], 0) := rfl
theorem i_X1_smoothPair_44 : am_i m_X1_smoothPair 44 = some (44, .invokestatic 59, 3, [33], 0) := rfl
theorem i_X1_smoothPair_47 : am_i m_X1_smoothPair 47 = some (47, .aload_n 0, 1, [], 0) := rfl
theorem i_X1_smoothPair_48 : am_i m_X1_smoothPair 48 = some (48, .iload_n 2, 1, [], 0) := rfl
theorem i_X1_smoothPair_49 : am_i m_X1_smoothPair 49 = some (49, .iload 5, 2, [], 0) := rfl
theorem i_X1_smoothPair_51 : am_i m_X1_smoothPair 51 = some (51, .iload 6, 2, [], 0) := rfl
theorem i_X1_smoothPair_53 : am_i m_X1_smoothPair 53 = some (53, .isub, 1, [], 0) := rfl
theorem i_X1_smoothPair_54 : am_i m_X1_smoothPair 54 = some (54, .invokestatic 59, 3, [33], 0) := rfl
theorem i_X1_smoothPair_57 : am_i m_X1_smoothPair 57 = some (57, .return_, 1, [], 0) := rfl
theorem b_X1_smoothPair_0 {a0 n_a0 : Nat} {x1 x2 x3 x1' x2' : Int} {h : am_H} (w1 : wr x1 = x1') (w2 : wr x2 = x2') (n1 : gn h a0 = n_a0) (s2 : sh h a0 = (1, 0)) (g3 : 0 ≤ x1' ∧ x1' < (n_a0 : Int)) (g4 : 0 ≤ x2' ∧ x2' < (n_a0 : Int)) : rn m_X1_smoothPair 0 [.ref a0, .int (mI x1), .int (mI x2), .int (mI x3), am_J, am_J, am_J] [] h = if (wr (x3 + 2)) ≤ (wr (max (wr ((gZ h a0 x1') - (gZ h a0 x2'))) (-(wr ((gZ h a0 x1') - (gZ h a0 x2')))))) then some (.inl none, h) else some (.inl none, uZ (uZ h a0 x1' ((gZ h a0 x1') + (Int.tdiv (wr ((gZ h a0 x2') - (gZ h a0 x1'))) 4))) a0 x2' ((gZ h a0 x2') - (Int.tdiv (wr ((gZ h a0 x2') - (gZ h a0 x1'))) 4))) := by
  refine (tq_aload_n i_X1_smoothPair_0 rfl (isA_ref _) rfl).trans ?_
  refine (tq_iload_n i_X1_smoothPair_1 rfl rfl).trans ?_
  refine (c_X7_get i_X1_smoothPair_2 (ltd d_X1_smoothPair (by decide)) (isA_ref _) stOk_0 rfl).trans ?_
  refine (congrArg (cl _ _ _ _) (get_ok w1 n1 s2 (by decide) g3)).trans ?_
  refine (cl_v _ _ _ _ _ _).trans ?_
  refine (tq_istore (L' := [.ref a0, .int (mI x1), .int (mI x2), .int (mI x3), .int (mI (gZ h a0 x1')), am_J, am_J]) i_X1_smoothPair_5 rfl rfl).trans ?_
  refine (tq_aload_n i_X1_smoothPair_7 rfl (isA_ref _) rfl).trans ?_
  refine (tq_iload_n i_X1_smoothPair_8 rfl rfl).trans ?_
  refine (c_X7_get i_X1_smoothPair_9 (ltd d_X1_smoothPair (by decide)) (isA_ref _) stOk_0 rfl).trans ?_
  refine (congrArg (cl _ _ _ _) (get_ok w2 n1 s2 (by decide) g4)).trans ?_
  refine (cl_v _ _ _ _ _ _).trans ?_
  refine (tq_istore (L' := [.ref a0, .int (mI x1), .int (mI x2), .int (mI x3), .int (mI (gZ h a0 x1')), .int (mI (gZ h a0 x2')), am_J]) i_X1_smoothPair_12 rfl rfl).trans ?_
  refine (tq_iload i_X1_smoothPair_14 rfl rfl).trans ?_
  refine (tq_iload i_X1_smoothPair_16 rfl rfl).trans ?_
  refine (tq_isub i_X1_smoothPair_18 rfl).trans ?_
  refine (tq_abs i_X1_smoothPair_19 rfl (Nat.le_of_ble_eq_true rfl) rfl).trans ?_
  refine (tq_iload_n i_X1_smoothPair_22 rfl rfl).trans ?_
  refine (tq_iconst i_X1_smoothPair_23 rfl).trans ?_
  refine (tq_iadd i_X1_smoothPair_24 rfl).trans ?_
  refine (tq_icmp_ge (pt := 57) i_X1_smoothPair_25 rfl rfl (by decide) rfl).trans ?_
  refine ite_congr rfl (fun c1 => ?_) (fun c1 => ?_)
  · exact tq_return i_X1_smoothPair_57 r_X1_smoothPair
  · refine (tq_iload i_X1_smoothPair_28 rfl rfl).trans ?_
    refine (tq_iload i_X1_smoothPair_30 rfl rfl).trans ?_
    refine (tq_isub i_X1_smoothPair_32 rfl).trans ?_
    refine (tq_iconst i_X1_smoothPair_33 rfl).trans ?_
    refine (tq_idiv i_X1_smoothPair_34 rfl w_4 (by decide) rfl).trans ?_
    refine (tq_istore (L' := [.ref a0, .int (mI x1), .int (mI x2), .int (mI x3), .int (mI (gZ h a0 x1')), .int (mI (gZ h a0 x2')), .int (mI (Int.tdiv (wr ((gZ h a0 x2') - (gZ h a0 x1'))) 4))]) i_X1_smoothPair_35 rfl rfl).trans ?_
    refine (tq_aload_n i_X1_smoothPair_37 rfl (isA_ref _) rfl).trans ?_
    refine (tq_iload_n i_X1_smoothPair_38 rfl rfl).trans ?_
    refine (tq_iload i_X1_smoothPair_39 rfl rfl).trans ?_
    refine (tq_iload i_X1_smoothPair_41 rfl rfl).trans ?_
    refine (tq_iadd i_X1_smoothPair_43 rfl).trans ?_
    refine (c_X7_put i_X1_smoothPair_44 (ltd d_X1_smoothPair (by decide)) (isA_ref _) stOk_0 rfl).trans ?_
    refine (congrArg (cl _ _ _ _) (put_ok w1 n1 s2 g3)).trans ?_
    refine (cl_n _ _ _ _ _).trans ?_
    refine (tq_aload_n i_X1_smoothPair_47 rfl (isA_ref _) rfl).trans ?_
    refine (tq_iload_n i_X1_smoothPair_48 rfl rfl).trans ?_
    refine (tq_iload i_X1_smoothPair_49 rfl rfl).trans ?_
    refine (tq_iload i_X1_smoothPair_51 rfl rfl).trans ?_
    refine (tq_isub i_X1_smoothPair_53 rfl).trans ?_
    refine (c_X7_put i_X1_smoothPair_54 (ltd d_X1_smoothPair (by decide)) (isA_ref _) stOk_0 rfl).trans ?_
    refine (congrArg (cl _ _ _ _) (put_ok w2 ((gn_uZ _ _ _ _ _).trans n1) ((sh_uZ _ _ _ _ _).trans s2) g4)).trans ?_
    refine (cl_n _ _ _ _ _).trans ?_
    exact tq_return i_X1_smoothPair_57 r_X1_smoothPair
theorem smoothPair_ok {h : am_H} {a n : Nat} {q o t : Int} (s : sh h a = (1, 0)) (n1 : gn h a = n) (hn : 256 ≤ (n : Int)) (hp : pixels (gZ h a)) (hq : 1 ≤ q ∧ q ≤ 40) (ho : 0 ≤ o ∧ o < 256) (ht : 0 ≤ t ∧ t < 256) : ∃ h', rn m_X1_smoothPair 0 [.ref a, .int (mI o), .int (mI t), .int (mI q), am_J, am_J, am_J] [] h = some (.inl none, h') ∧ Md (fun c _ => c = a) h h' ∧ gZ h' a = sp q o t (gZ h a) := by
  have h1 := hp o ho.1 ho.2
  have h2 := hp t ht.1 ht.2
  have st := b_X1_smoothPair_0 (a0 := a) (n_a0 := n) (x1 := o) (x2 := t) (x3 := q) (h := h) (wr_id (z := o) (by omega) (by omega)) (wr_id (z := t) (by omega) (by omega)) n1 s (by omega) (by omega)
  rw [wr_id (z := q + 2) (by omega) (by omega), wr_id (z := gZ h a o - gZ h a t) (by omega) (by omega), wr_id (z := max (gZ h a o - gZ h a t) (-(gZ h a o - gZ h a t))) (by omega) (by omega), wr_id (z := gZ h a t - gZ h a o) (by omega) (by omega)] at st
  unfold sp iabs
  by_cases c : max (gZ h a o - gZ h a t) (-(gZ h a o - gZ h a t)) < q + 2
  · rw [if_neg (by omega)] at st
    refine ⟨_, st, Md_tr (Md_uZ _ _ _ _) (Md_uZ _ _ _ _), ?_⟩
    rw [if_pos c]
    funext i
    have e := td4 (gZ h a t - gZ h a o)
    rw [gZ_uZ' (by rw [sh_uZ]; exact sh1 s), gZ_uZ' (sh1 s), wr_id (by split at e <;> omega) (by split at e <;> omega), wr_id (by split at e <;> omega) (by split at e <;> omega)]
  · rw [if_pos (by omega)] at st
    exact ⟨h, st, Md_rf _ _, by rw [if_neg c]⟩
theorem i_X1_smooth_0 : am_i m_X1_smooth 0 = some (0, .aload_n 1, 1, [], 0) := rfl
theorem i_X1_smooth_1 : am_i m_X1_smooth 1 = some (1, .iconst 2, 1, [], 2) := rfl
theorem i_X1_smooth_2 : am_i m_X1_smooth 2 = some (2, .invokevirtual 133, 3, [26, 6], 0) := rfl
theorem i_X1_smooth_5 : am_i m_X1_smooth 5 = some (5, .ifCond .ne 4, 3, [], 0) := rfl
theorem i_X1_smooth_8 : am_i m_X1_smooth 8 = some (8, .return_, 1, [], 0) := rfl
theorem i_X1_smooth_9 : am_i m_X1_smooth 9 = some (9, .iconst 4, 1, [], 4) := rfl
theorem i_X1_smooth_10 : am_i m_X1_smooth 10 = some (10, .istore_n 3, 1, [], 0) := rfl
theorem b_X1_smooth_0 {a0 a1 a2 : Nat} {h : am_H} (k1 : K6 h a1) : rn m_X1_smooth 0 [.ref a0, .ref a1, .ref a2, am_J, am_J, am_J] [] h = if (¬ ((zand (fZ h a1 4) 2) = 0)) then rn m_X1_smooth 11 [.ref a0, .ref a1, .ref a2, .int (mI 4), am_J, am_J] [] h else some (.inl none, h) := by
  refine (tq_aload_n i_X1_smooth_0 rfl (isA_ref _) rfl).trans ?_
  refine (tq_iconst i_X1_smooth_1 rfl).trans ?_
  refine (c_X6_has i_X1_smooth_2 (K6_s k1) (ltd d_X1_smooth (by decide)) stOk_0 rfl).trans ?_
  refine (congrArg (cl _ _ _ _) (b_X6_has_0 k1)).trans ?_
  refine (cl_v _ _ _ _ _ _).trans ?_
  refine (tq_ifb_ne (pt := 9) i_X1_smooth_5 (by decide) rfl).trans ?_
  refine ite_congr rfl (fun c1 => ?_) (fun c1 => ?_)
  · refine (tq_iconst i_X1_smooth_9 rfl).trans ?_
    refine (tq_istore_n (L' := [.ref a0, .ref a1, .ref a2, .int (mI 4), am_J, am_J]) i_X1_smooth_10 rfl rfl).trans ?_
    rfl
  · exact tq_return i_X1_smooth_8 r_X1_smooth
theorem i_X1_smooth_11 : am_i m_X1_smooth 11 = some (11, .iload_n 3, 1, [], 0) := rfl
theorem i_X1_smooth_12 : am_i m_X1_smooth 12 = some (12, .bipush 16, 2, [], 16) := rfl
theorem i_X1_smooth_14 : am_i m_X1_smooth 14 = some (14, .if_icmp .ge 47, 3, [], 0) := rfl
theorem i_X1_smooth_17 : am_i m_X1_smooth 17 = some (17, .iconst 0, 1, [], 0) := rfl
theorem i_X1_smooth_18 : am_i m_X1_smooth 18 = some (18, .istore 4, 2, [], 0) := rfl
theorem i_X1_smooth_61 : am_i m_X1_smooth 61 = some (61, .iconst 4, 1, [], 4) := rfl
theorem i_X1_smooth_62 : am_i m_X1_smooth 62 = some (62, .istore_n 3, 1, [], 0) := rfl
theorem b_X1_smooth_11 {v0 v4 v5 : Value} {a1 a2 : Nat} {x3 x3' : Int} {h : am_H} (w3 : wr x3 = x3') : rn m_X1_smooth 11 [v0, .ref a1, .ref a2, .int (mI x3), v4, v5] [] h = if 16 ≤ x3' then rn m_X1_smooth 63 [v0, .ref a1, .ref a2, .int (mI 4), v4, v5] [] h else rn m_X1_smooth 20 [v0, .ref a1, .ref a2, .int (mI x3), .int (mI 0), v5] [] h := by
  refine (tq_iload_n i_X1_smooth_11 rfl rfl).trans ?_
  refine (tq_bipush i_X1_smooth_12 rfl).trans ?_
  refine (tq_icmp_ge (pt := 61) i_X1_smooth_14 w3 w_16 (by decide) rfl).trans ?_
  refine ite_congr rfl (fun c1 => ?_) (fun c1 => ?_)
  · refine (tq_iconst i_X1_smooth_61 rfl).trans ?_
    refine (tq_istore_n (L' := [v0, .ref a1, .ref a2, .int (mI 4), v4, v5]) i_X1_smooth_62 rfl rfl).trans ?_
    rfl
  · refine (tq_iconst i_X1_smooth_17 rfl).trans ?_
    refine (tq_istore (L' := [v0, .ref a1, .ref a2, .int (mI x3), .int (mI 0), v5]) i_X1_smooth_18 rfl rfl).trans ?_
    rfl
theorem i_X1_smooth_20 : am_i m_X1_smooth 20 = some (20, .iload 4, 2, [], 0) := rfl
theorem i_X1_smooth_22 : am_i m_X1_smooth 22 = some (22, .bipush 16, 2, [], 16) := rfl
theorem i_X1_smooth_24 : am_i m_X1_smooth 24 = some (24, .if_icmp .ge 31, 3, [], 0) := rfl
theorem i_X1_smooth_27 : am_i m_X1_smooth 27 = some (27, .aload_n 2, 1, [], 0) := rfl
theorem i_X1_smooth_28 : am_i m_X1_smooth 28 = some (28, .iload_n 3, 1, [], 0) := rfl
theorem i_X1_smooth_29 : am_i m_X1_smooth 29 = some (29, .iconst 1, 1, [], 1) := rfl
theorem i_X1_smooth_30 : am_i m_X1_smooth 30 = some (30, .isub, 1, [], 0) := rfl
theorem i_X1_smooth_31 : am_i m_X1_smooth 31 = some (31, .iload 4, 2, [], 0) := rfl
theorem i_X1_smooth_33 : am_i m_X1_smooth 33 = some (33, .invokestatic 65, 3, [13], 0) := rfl
theorem i_X1_smooth_36 : am_i m_X1_smooth 36 = some (36, .iload_n 3, 1, [], 0) := rfl
theorem i_X1_smooth_37 : am_i m_X1_smooth 37 = some (37, .iload 4, 2, [], 0) := rfl
theorem i_X1_smooth_39 : am_i m_X1_smooth 39 = some (39, .invokestatic 65, 3, [13], 0) := rfl
theorem i_X1_smooth_42 : am_i m_X1_smooth 42 = some (42, .aload_n 1, 1, [], 0) := rfl
theorem i_X1_smooth_43 : am_i m_X1_smooth 43 = some (43, .getfield 123, 3, [6, 3, 1], 0) := rfl
theorem i_X1_smooth_46 : am_i m_X1_smooth 46 = some (46, .invokestatic 137, 3, [53], 0) := rfl
theorem i_X1_smooth_55 : am_i m_X1_smooth 55 = some (55, .iinc 3 4, 3, [], 0) := rfl
theorem i_X1_smooth_58 : am_i m_X1_smooth 58 = some (58, .goto (-47), 3, [], 0) := rfl
theorem b_X1_smooth_20 {v0 v5 : Value} {a1 a2 : Nat} {x3 x4 x4' : Int} {h : am_H} (w4 : wr x4 = x4') (k1 : K6 h a1) : rn m_X1_smooth 20 [v0, .ref a1, .ref a2, .int (mI x3), .int (mI x4), v5] [] h = if 16 ≤ x4' then rn m_X1_smooth 11 [v0, .ref a1, .ref a2, .int (mI (x3 + 4)), .int (mI x4), v5] [] h else cl m_X1_smooth 49 [v0, .ref a1, .ref a2, .int (mI x3), .int (mI x4), v5] [] (rn m_X1_smoothPair 0 [.ref a2, .int (mI ((16 * x4) + (x3 - 1))), .int (mI ((16 * x4) + x3)), .int (mI (fZ h a1 3)), am_J, am_J, am_J] [] h) := by
  refine (tq_iload i_X1_smooth_20 rfl rfl).trans ?_
  refine (tq_bipush i_X1_smooth_22 rfl).trans ?_
  refine (tq_icmp_ge (pt := 55) i_X1_smooth_24 w4 w_16 (by decide) rfl).trans ?_
  refine ite_congr rfl (fun c1 => ?_) (fun c1 => ?_)
  · refine (tq_iinc (L' := [v0, .ref a1, .ref a2, .int (mI (x3 + 4)), .int (mI x4), v5]) i_X1_smooth_55 rfl rfl rfl).trans ?_
    refine (tq_goto (pc' := 11) i_X1_smooth_58 (by decide)).trans ?_
    rfl
  · refine (tq_aload_n i_X1_smooth_27 rfl (isA_ref _) rfl).trans ?_
    refine (tq_iload_n i_X1_smooth_28 rfl rfl).trans ?_
    refine (tq_iconst i_X1_smooth_29 rfl).trans ?_
    refine (tq_isub i_X1_smooth_30 rfl).trans ?_
    refine (tq_iload i_X1_smooth_31 rfl rfl).trans ?_
    refine (c_X11_placeOf i_X1_smooth_33 (ltd d_X1_smooth (by decide)) (stOk_1 _) rfl).trans ?_
    refine (congrArg (cl _ _ _ _) (b_X11_placeOf_0)).trans ?_
    refine (cl_v _ _ _ _ _ _).trans ?_
    refine (tq_iload_n i_X1_smooth_36 rfl rfl).trans ?_
    refine (tq_iload i_X1_smooth_37 rfl rfl).trans ?_
    refine (c_X11_placeOf i_X1_smooth_39 (ltd d_X1_smooth (by decide)) (stOk_2 _ _) rfl).trans ?_
    refine (congrArg (cl _ _ _ _) (b_X11_placeOf_0)).trans ?_
    refine (cl_v _ _ _ _ _ _).trans ?_
    refine (tq_aload_n i_X1_smooth_42 rfl (isA_ref _) rfl).trans ?_
    refine (tq_getfield i_X1_smooth_43 (K6_s k1) (g_6_3 (K6_s k1)) (isV_I _) rfl).trans ?_
    exact c_X1_smoothPair i_X1_smooth_46 (ltd d_X1_smooth (by decide)) (isA_ref _) stOk_0 rfl
theorem i_X1_smooth_49 : am_i m_X1_smooth 49 = some (49, .iinc 4 1, 3, [], 0) := rfl
theorem i_X1_smooth_52 : am_i m_X1_smooth 52 = some (52, .goto (-32), 3, [], 0) := rfl
theorem b_X1_smooth_49 {v0 v5 : Value} {a1 a2 : Nat} {x3 x4 : Int} {h : am_H} : rn m_X1_smooth 49 [v0, .ref a1, .ref a2, .int (mI x3), .int (mI x4), v5] [] h = rn m_X1_smooth 20 [v0, .ref a1, .ref a2, .int (mI x3), .int (mI (x4 + 1)), v5] [] h := by
  refine (tq_iinc (L' := [v0, .ref a1, .ref a2, .int (mI x3), .int (mI (x4 + 1)), v5]) i_X1_smooth_49 rfl rfl rfl).trans ?_
  refine (tq_goto (pc' := 20) i_X1_smooth_52 (by decide)).trans ?_
  rfl
theorem i_X1_smooth_63 : am_i m_X1_smooth 63 = some (63, .iload_n 3, 1, [], 0) := rfl
theorem i_X1_smooth_64 : am_i m_X1_smooth 64 = some (64, .bipush 16, 2, [], 16) := rfl
theorem i_X1_smooth_66 : am_i m_X1_smooth 66 = some (66, .if_icmp .ge 74, 3, [], 0) := rfl
theorem i_X1_smooth_69 : am_i m_X1_smooth 69 = some (69, .aload_n 1, 1, [], 0) := rfl
theorem i_X1_smooth_70 : am_i m_X1_smooth 70 = some (70, .iload_n 3, 1, [], 0) := rfl
theorem i_X1_smooth_71 : am_i m_X1_smooth 71 = some (71, .iconst 1, 1, [], 1) := rfl
theorem i_X1_smooth_72 : am_i m_X1_smooth 72 = some (72, .isub, 1, [], 0) := rfl
theorem i_X1_smooth_73 : am_i m_X1_smooth 73 = some (73, .invokevirtual 141, 3, [29, 6], 0) := rfl
theorem i_X1_smooth_76 : am_i m_X1_smooth 76 = some (76, .aload_n 1, 1, [], 0) := rfl
theorem i_X1_smooth_77 : am_i m_X1_smooth 77 = some (77, .iload_n 3, 1, [], 0) := rfl
theorem i_X1_smooth_78 : am_i m_X1_smooth 78 = some (78, .invokevirtual 141, 3, [29, 6], 0) := rfl
theorem i_X1_smooth_81 : am_i m_X1_smooth 81 = some (81, .if_icmp .ne 7, 3, [], 0) := rfl
theorem i_X1_smooth_84 : am_i m_X1_smooth 84 = some (84, .iconst 1, 1, [], 1) := rfl
theorem i_X1_smooth_85 : am_i m_X1_smooth 85 = some (85, .goto 4, 3, [], 0) := rfl
theorem i_X1_smooth_88 : am_i m_X1_smooth 88 = some (88, .iconst 0, 1, [], 0) := rfl
theorem i_X1_smooth_89 : am_i m_X1_smooth 89 = some (89, .istore 4, 2, [], 0) := rfl
theorem i_X1_smooth_91 : am_i m_X1_smooth 91 = some (91, .iconst 0, 1, [], 0) := rfl
theorem i_X1_smooth_92 : am_i m_X1_smooth 92 = some (92, .istore 5, 2, [], 0) := rfl
theorem i_X1_smooth_140 : am_i m_X1_smooth 140 = some (140, .return_, 1, [], 0) := rfl
theorem b_X1_smooth_63 {v0 v4 v5 : Value} {a1 a2 : Nat} {x3 x3' : Int} {h : am_H} (w3 : wr x3 = x3') (k1 : K6 h a1) : rn m_X1_smooth 63 [v0, .ref a1, .ref a2, .int (mI x3), v4, v5] [] h = if 16 ≤ x3' then some (.inl none, h) else rn m_X1_smooth 94 [v0, .ref a1, .ref a2, .int (mI x3), .int (mI (bZ (¬ (¬ (bZ (¬ ((fZ h a1 5) ≤ 1) ∧ (¬ ((wr (x3 - 1)) < 8)))) = (bZ (¬ ((fZ h a1 5) ≤ 1) ∧ (¬ (x3' < 8)))))))), .int (mI 0)] [] h := by
  refine (tq_iload_n i_X1_smooth_63 rfl rfl).trans ?_
  refine (tq_bipush i_X1_smooth_64 rfl).trans ?_
  refine (tq_icmp_ge (pt := 140) i_X1_smooth_66 w3 w_16 (by decide) rfl).trans ?_
  refine ite_congr rfl (fun c1 => ?_) (fun c1 => ?_)
  · exact tq_return i_X1_smooth_140 r_X1_smooth
  · refine (tq_aload_n i_X1_smooth_69 rfl (isA_ref _) rfl).trans ?_
    refine (tq_iload_n i_X1_smooth_70 rfl rfl).trans ?_
    refine (tq_iconst i_X1_smooth_71 rfl).trans ?_
    refine (tq_isub i_X1_smooth_72 rfl).trans ?_
    refine (c_X6_sliceOf i_X1_smooth_73 (K6_s k1) (ltd d_X1_smooth (by decide)) stOk_0 rfl).trans ?_
    refine (congrArg (cl _ _ _ _) (b_X6_sliceOf_0 rfl k1)).trans ?_
    refine (cl_v _ _ _ _ _ _).trans ?_
    refine (tq_aload_n i_X1_smooth_76 rfl (isA_ref _) rfl).trans ?_
    refine (tq_iload_n i_X1_smooth_77 rfl rfl).trans ?_
    refine (c_X6_sliceOf i_X1_smooth_78 (K6_s k1) (ltd d_X1_smooth (by decide)) (stOk_1 _) rfl).trans ?_
    refine (congrArg (cl _ _ _ _) (b_X6_sliceOf_0 w3 k1)).trans ?_
    refine (cl_v _ _ _ _ _ _).trans ?_
    refine (tq_icmp_ne (pt := 88) i_X1_smooth_81 (wr_bZ _) (wr_bZ _) (by decide) rfl).trans ?_
    refine Eq.trans (b := if ¬ (bZ (¬ ((fZ h a1 5) ≤ 1) ∧ (¬ ((wr (x3 - 1)) < 8)))) = (bZ (¬ ((fZ h a1 5) ≤ 1) ∧ (¬ (x3' < 8)))) then rn m_X1_smooth 89 [v0, .ref a1, .ref a2, .int (mI x3), v4, v5] [.int (mI 0)] h else rn m_X1_smooth 89 [v0, .ref a1, .ref a2, .int (mI x3), v4, v5] [.int (mI 1)] h) (ite_congr rfl (fun c2 => ?_) (fun c2 => ?_)) ?_
    · refine (tq_iconst i_X1_smooth_88 rfl).trans ?_
      rfl
    · refine (tq_iconst i_X1_smooth_84 rfl).trans ?_
      refine (tq_goto (pc' := 89) i_X1_smooth_85 (by decide)).trans ?_
      rfl
    refine Eq.trans ite_b01 ?_
    refine (tq_istore (L' := [v0, .ref a1, .ref a2, .int (mI x3), .int (mI (bZ (¬ (¬ (bZ (¬ ((fZ h a1 5) ≤ 1) ∧ (¬ ((wr (x3 - 1)) < 8)))) = (bZ (¬ ((fZ h a1 5) ≤ 1) ∧ (¬ (x3' < 8)))))))), v5]) i_X1_smooth_89 rfl rfl).trans ?_
    refine (tq_iconst i_X1_smooth_91 rfl).trans ?_
    refine (tq_istore (L' := [v0, .ref a1, .ref a2, .int (mI x3), .int (mI (bZ (¬ (¬ (bZ (¬ ((fZ h a1 5) ≤ 1) ∧ (¬ ((wr (x3 - 1)) < 8)))) = (bZ (¬ ((fZ h a1 5) ≤ 1) ∧ (¬ (x3' < 8)))))))), .int (mI 0)]) i_X1_smooth_92 rfl rfl).trans ?_
    rfl
theorem i_X1_smooth_94 : am_i m_X1_smooth 94 = some (94, .iload 5, 2, [], 0) := rfl
theorem i_X1_smooth_96 : am_i m_X1_smooth 96 = some (96, .bipush 16, 2, [], 16) := rfl
theorem i_X1_smooth_98 : am_i m_X1_smooth 98 = some (98, .if_icmp .ge 36, 3, [], 0) := rfl
theorem i_X1_smooth_101 : am_i m_X1_smooth 101 = some (101, .iload 4, 2, [], 0) := rfl
theorem i_X1_smooth_103 : am_i m_X1_smooth 103 = some (103, .ifCond .eq 31, 3, [], 0) := rfl
theorem i_X1_smooth_106 : am_i m_X1_smooth 106 = some (106, .aload_n 2, 1, [], 0) := rfl
theorem i_X1_smooth_107 : am_i m_X1_smooth 107 = some (107, .iload 5, 2, [], 0) := rfl
theorem i_X1_smooth_109 : am_i m_X1_smooth 109 = some (109, .iload_n 3, 1, [], 0) := rfl
theorem i_X1_smooth_110 : am_i m_X1_smooth 110 = some (110, .iconst 1, 1, [], 1) := rfl
theorem i_X1_smooth_111 : am_i m_X1_smooth 111 = some (111, .isub, 1, [], 0) := rfl
theorem i_X1_smooth_112 : am_i m_X1_smooth 112 = some (112, .invokestatic 65, 3, [13], 0) := rfl
theorem i_X1_smooth_115 : am_i m_X1_smooth 115 = some (115, .iload 5, 2, [], 0) := rfl
theorem i_X1_smooth_117 : am_i m_X1_smooth 117 = some (117, .iload_n 3, 1, [], 0) := rfl
theorem i_X1_smooth_118 : am_i m_X1_smooth 118 = some (118, .invokestatic 65, 3, [13], 0) := rfl
theorem i_X1_smooth_121 : am_i m_X1_smooth 121 = some (121, .aload_n 1, 1, [], 0) := rfl
theorem i_X1_smooth_122 : am_i m_X1_smooth 122 = some (122, .getfield 123, 3, [6, 3, 1], 0) := rfl
theorem i_X1_smooth_125 : am_i m_X1_smooth 125 = some (125, .invokestatic 137, 3, [53], 0) := rfl
theorem i_X1_smooth_134 : am_i m_X1_smooth 134 = some (134, .iinc 3 4, 3, [], 0) := rfl
theorem i_X1_smooth_137 : am_i m_X1_smooth 137 = some (137, .goto (-74), 3, [], 0) := rfl
theorem b_X1_smooth_94 {v0 : Value} {a1 a2 : Nat} {x3 x4 x5 x4' x5' : Int} {h : am_H} (w4 : wr x4 = x4') (w5 : wr x5 = x5') (k1 : K6 h a1) : rn m_X1_smooth 94 [v0, .ref a1, .ref a2, .int (mI x3), .int (mI x4), .int (mI x5)] [] h = if 16 ≤ x5' then rn m_X1_smooth 63 [v0, .ref a1, .ref a2, .int (mI (x3 + 4)), .int (mI x4), .int (mI x5)] [] h else if x4' = 0 then rn m_X1_smooth 63 [v0, .ref a1, .ref a2, .int (mI (x3 + 4)), .int (mI x4), .int (mI x5)] [] h else cl m_X1_smooth 128 [v0, .ref a1, .ref a2, .int (mI x3), .int (mI x4), .int (mI x5)] [] (rn m_X1_smoothPair 0 [.ref a2, .int (mI ((16 * (x3 - 1)) + x5)), .int (mI ((16 * x3) + x5)), .int (mI (fZ h a1 3)), am_J, am_J, am_J] [] h) := by
  refine (tq_iload i_X1_smooth_94 rfl rfl).trans ?_
  refine (tq_bipush i_X1_smooth_96 rfl).trans ?_
  refine (tq_icmp_ge (pt := 134) i_X1_smooth_98 w5 w_16 (by decide) rfl).trans ?_
  refine ite_congr rfl (fun c1 => ?_) (fun c1 => ?_)
  · refine (tq_iinc (L' := [v0, .ref a1, .ref a2, .int (mI (x3 + 4)), .int (mI x4), .int (mI x5)]) i_X1_smooth_134 rfl rfl rfl).trans ?_
    refine (tq_goto (pc' := 63) i_X1_smooth_137 (by decide)).trans ?_
    rfl
  · refine (tq_iload i_X1_smooth_101 rfl rfl).trans ?_
    refine (tq_if_eq (pt := 134) i_X1_smooth_103 w4 (by decide) rfl).trans ?_
    refine ite_congr rfl (fun c2 => ?_) (fun c2 => ?_)
    · refine (tq_iinc (L' := [v0, .ref a1, .ref a2, .int (mI (x3 + 4)), .int (mI x4), .int (mI x5)]) i_X1_smooth_134 rfl rfl rfl).trans ?_
      refine (tq_goto (pc' := 63) i_X1_smooth_137 (by decide)).trans ?_
      rfl
    · refine (tq_aload_n i_X1_smooth_106 rfl (isA_ref _) rfl).trans ?_
      refine (tq_iload i_X1_smooth_107 rfl rfl).trans ?_
      refine (tq_iload_n i_X1_smooth_109 rfl rfl).trans ?_
      refine (tq_iconst i_X1_smooth_110 rfl).trans ?_
      refine (tq_isub i_X1_smooth_111 rfl).trans ?_
      refine (c_X11_placeOf i_X1_smooth_112 (ltd d_X1_smooth (by decide)) (stOk_1 _) rfl).trans ?_
      refine (congrArg (cl _ _ _ _) (b_X11_placeOf_0)).trans ?_
      refine (cl_v _ _ _ _ _ _).trans ?_
      refine (tq_iload i_X1_smooth_115 rfl rfl).trans ?_
      refine (tq_iload_n i_X1_smooth_117 rfl rfl).trans ?_
      refine (c_X11_placeOf i_X1_smooth_118 (ltd d_X1_smooth (by decide)) (stOk_2 _ _) rfl).trans ?_
      refine (congrArg (cl _ _ _ _) (b_X11_placeOf_0)).trans ?_
      refine (cl_v _ _ _ _ _ _).trans ?_
      refine (tq_aload_n i_X1_smooth_121 rfl (isA_ref _) rfl).trans ?_
      refine (tq_getfield i_X1_smooth_122 (K6_s k1) (g_6_3 (K6_s k1)) (isV_I _) rfl).trans ?_
      exact c_X1_smoothPair i_X1_smooth_125 (ltd d_X1_smooth (by decide)) (isA_ref _) stOk_0 rfl
theorem i_X1_smooth_128 : am_i m_X1_smooth 128 = some (128, .iinc 5 1, 3, [], 0) := rfl
theorem i_X1_smooth_131 : am_i m_X1_smooth 131 = some (131, .goto (-37), 3, [], 0) := rfl
theorem b_X1_smooth_128 {v0 : Value} {a1 a2 : Nat} {x3 x4 x5 : Int} {h : am_H} : rn m_X1_smooth 128 [v0, .ref a1, .ref a2, .int (mI x3), .int (mI x4), .int (mI x5)] [] h = rn m_X1_smooth 94 [v0, .ref a1, .ref a2, .int (mI x3), .int (mI x4), .int (mI (x5 + 1))] [] h := by
  refine (tq_iinc (L' := [v0, .ref a1, .ref a2, .int (mI x3), .int (mI x4), .int (mI (x5 + 1))]) i_X1_smooth_128 rfl rfl rfl).trans ?_
  refine (tq_goto (pc' := 94) i_X1_smooth_131 (by decide)).trans ?_
  rfl
theorem smH_skip {q sl : Int} {p : Int → Int} (h : 1 < sl) : ∀ j : Nat, j ≤ 16 → smH q sl (16 + j) p = smH q sl 16 p
  | 0, _ => rfl
  | j + 1, hj => by
    rw [show 16 + (j + 1) = (16 + j) + 1 by omega]
    unfold smH
    rw [if_pos ⟨h, by omega⟩]
    have := smH_skip (q := q) (p := p) h j (by omega)
    rw [this]
    unfold smH
    rfl
theorem smooth_ok {h : am_H} {D a n : Nat} {v : Value} {q tl sl : Int} (kD : K6 h D) (s : sh h a = (1, 0)) (n1 : gn h a = n) (hn : 256 ≤ (n : Int)) (aD : D ≠ a) (hp : pixels (gZ h a)) (e3 : fZ h D 3 = q) (e4 : fZ h D 4 = tl) (e5 : fZ h D 5 = sl) (hq : 1 ≤ q ∧ q ≤ 40) (hs : sl = 1 ∨ sl = 2) (B : Nat) : ∃ h', rn m_X1_smooth 0 [.ref B, .ref D, .ref a, am_J, am_J, am_J] [] h = some (.inl none, h') ∧ Md (fun c _ => c = a) h h' ∧ gZ h' a = smo q tl sl (gZ h a) := by
  have fm : ∀ {h'}, Md (fun c _ => c = a) h h' → K6 h' D ∧ fZ h' D 3 = q ∧ fZ h' D 5 = sl ∧ sh h' a = (1, 0) ∧ gn h' a = n := fun md => ⟨K6_sm md.1 kD, (md_fZ md aD).trans e3, (md_fZ md aD).trans e5, (md_sh md _).trans s, (md_gn md _).trans n1⟩
  rw [b_X1_smooth_0 kD, e4]
  unfold smo
  by_cases c : zand tl 2 = 0
  · rw [if_neg (fun x => x c), if_pos c]
    exact ⟨h, rfl, Md_rf _ _, rfl⟩
  · rw [if_pos c, if_neg c]
    have := lp (m := m_X1_smooth) (pc := 11) (L := fun i (x : Value × Value) => [.ref B, .ref D, .ref a, .int (mI (4 * (i + 1))), x.1, x.2]) (N := 3) (P := fun r => ∃ h', r = some (.inl none, h') ∧ Md (fun c _ => c = a) h h' ∧ gZ h' a = smH q sl 48 (smV q 48 (gZ h a))) (fun i _ h' => 0 ≤ i ∧ Md (fun c _ => c = a) h h' ∧ gZ h' a = smV q (16 * i).toNat (gZ h a)) ?_ ?_ 0 (am_J, am_J) h (by omega) ⟨by omega, Md_rf _ _, rfl⟩
    · exact this
    · intro i x h' hi ⟨i0, md, hz⟩
      obtain ⟨x1, x2⟩ := x
      have st := b_X1_smooth_11 (v0 := .ref B) (a1 := D) (a2 := a) (v4 := x1) (v5 := x2) (h := h') (wr_id (z := 4 * (i + 1)) (by omega) (by omega))
      rw [if_neg (by omega)] at st
      have in1 := lp (m := m_X1_smooth) (pc := 20) (L := fun j (x : Value) => [.ref B, .ref D, .ref a, .int (mI (4 * (i + 1))), .int (mI j), x]) (N := 16) (P := fun r => ∃ (s' : Value × Value) (h'' : am_H), r = rn m_X1_smooth 11 [.ref B, .ref D, .ref a, .int (mI (4 * (i + 1 + 1))), s'.1, s'.2] [] h'' ∧ 0 ≤ i + 1 ∧ Md (fun c _ => c = a) h h'' ∧ gZ h'' a = smV q (16 * (i + 1)).toNat (gZ h a)) (fun j _ h2 => 0 ≤ j ∧ Md (fun c _ => c = a) h h2 ∧ gZ h2 a = smV q (16 * i + j).toNat (gZ h a)) ?_ ?_ 0 x2 h' (by omega) ⟨by omega, md, by rw [Int.add_zero]; exact hz⟩
      · obtain ⟨s', h'', e, r⟩ := in1
        exact ⟨s', h'', st.trans e, r⟩
      · intro j y h2 hj ⟨j0, md2, hz2⟩
        obtain ⟨k2, f3, f5, s2, n2⟩ := fm md2
        have hp2 : pixels (gZ h2 a) := by rw [hz2]; exact smV_pix hp _ (by omega)
        obtain ⟨h3, e, m3, g3⟩ := smoothPair_ok (q := q) (o := 16 * j + (4 * (i + 1) - 1)) (t := 16 * j + 4 * (i + 1)) s2 n2 hn hp2 hq (by omega) (by omega)
        refine ⟨y, h3, ?_, by omega, Md_tr md2 m3, ?_⟩
        · rw [b_X1_smooth_20 (wr_id (z := j) (by omega) (by omega)) k2, if_neg (by omega), f3, e, cl_n, b_X1_smooth_49]
        · rw [g3, hz2, show (16 * i + (j + 1)).toNat = (16 * i + j).toNat + 1 by omega]
          show _ = sp q _ _ _
          rw [show (((16 * i + j).toNat % 16 : Nat) : Int) = j by omega, show (((16 * i + j).toNat / 16 : Nat) : Int) = i by omega]
      · intro y h2 ⟨j0, md2, hz2⟩
        obtain ⟨k2, f3, f5, s2, n2⟩ := fm md2
        refine ⟨(.int (mI 16), y), h2, ?_, by omega, md2, by rw [hz2, show 16 * (i + 1) = 16 * i + 16 by omega]⟩
        rw [b_X1_smooth_20 (wr_id (z := 16) (by omega) (by omega)) k2, if_pos (by omega), show 4 * (i + 1) + 4 = 4 * (i + 1 + 1) by omega]
    · intro x h' ⟨i0, md, hz⟩
      obtain ⟨x1, x2⟩ := x
      have hpv : pixels (smV q 48 (gZ h a)) := smV_pix hp _ (by omega)
      rw [b_X1_smooth_11 (wr_id (z := 4 * (3 + 1)) (by omega) (by omega)), if_pos (by omega)]
      have := lp (m := m_X1_smooth) (pc := 63) (L := fun i (x : Value × Value) => [.ref B, .ref D, .ref a, .int (mI (4 * (i + 1))), x.1, x.2]) (N := 3) (P := fun r => ∃ h', r = some (.inl none, h') ∧ Md (fun c _ => c = a) h h' ∧ gZ h' a = smH q sl 48 (smV q 48 (gZ h a))) (fun i _ h' => 0 ≤ i ∧ Md (fun c _ => c = a) h h' ∧ gZ h' a = smH q sl (16 * i).toNat (smV q 48 (gZ h a))) ?_ ?_ 0 (x1, x2) h' (by omega) ⟨by omega, md, hz⟩
      · exact this
      · intro i x h' hi ⟨i0, md, hz⟩
        obtain ⟨x1, x2⟩ := x
        obtain ⟨k2, f3, f5, s2, n2⟩ := fm md
        have st := b_X1_smooth_63 (v0 := .ref B) (a1 := D) (a2 := a) (v4 := x1) (v5 := x2) (h := h') (wr_id (z := 4 * (i + 1)) (by omega) (by omega)) k2
        rw [if_neg (by omega), f5, wr_id (z := 4 * (i + 1) - 1) (by omega) (by omega)] at st
        by_cases sk : 1 < sl ∧ i = 1
        · refine ⟨(.int (mI 0), .int (mI 0)), h', ?_, by omega, md, ?_⟩
          · rw [st]
            have e0 : bZ (¬ (¬ (bZ (¬ (sl ≤ 1) ∧ (¬ (4 * (i + 1) - 1 < 8)))) = (bZ (¬ (sl ≤ 1) ∧ (¬ (4 * (i + 1) < 8)))))) = 0 := by
              refine bZ_f ?_
              rw [bZ_f (by omega), bZ_t (by omega)]
              decide
            rw [e0, b_X1_smooth_94 (x4' := 0) (wr_id (by omega) (by omega)) (wr_id (z := 0) (by omega) (by omega)) k2, if_neg (by omega), if_pos rfl, show 4 * (i + 1) + 4 = 4 * (i + 1 + 1) by omega]
          · rw [hz, sk.2, show ((16 : Int) * (1 + 1)).toNat = 16 + 16 by omega, smH_skip sk.1 16 (by omega)]
            rfl
        · have e1 : bZ (¬ (¬ (bZ (¬ (sl ≤ 1) ∧ (¬ (4 * (i + 1) - 1 < 8)))) = (bZ (¬ (sl ≤ 1) ∧ (¬ (4 * (i + 1) < 8)))))) = 1 := by
            refine bZ_t ?_
            by_cases c1 : ¬ (sl ≤ 1) ∧ (¬ (4 * (i + 1) < 8))
            · rw [bZ_t (by omega), bZ_t c1]
              decide
            · rw [bZ_f (by omega), bZ_f c1]
              decide
          rw [e1] at st
          have in1 := lp (m := m_X1_smooth) (pc := 94) (L := fun j (x : Unit) => [.ref B, .ref D, .ref a, .int (mI (4 * (i + 1))), .int (mI 1), .int (mI j)]) (N := 16) (P := fun r => ∃ (s' : Value × Value) (h'' : am_H), r = rn m_X1_smooth 63 [.ref B, .ref D, .ref a, .int (mI (4 * (i + 1 + 1))), s'.1, s'.2] [] h'' ∧ 0 ≤ i + 1 ∧ Md (fun c _ => c = a) h h'' ∧ gZ h'' a = smH q sl (16 * (i + 1)).toNat (smV q 48 (gZ h a))) (fun j _ h2 => 0 ≤ j ∧ Md (fun c _ => c = a) h h2 ∧ gZ h2 a = smH q sl (16 * i + j).toNat (smV q 48 (gZ h a))) ?_ ?_ 0 () h' (by omega) ⟨by omega, md, by rw [Int.add_zero]; exact hz⟩
          · obtain ⟨s', h'', e, r⟩ := in1
            exact ⟨s', h'', st.trans e, r⟩
          · intro j y h2 hj ⟨j0, md2, hz2⟩
            obtain ⟨k2, f3, f5, s2, n2⟩ := fm md2
            have hp2 : pixels (gZ h2 a) := by rw [hz2]; exact smH_pix hpv _ (by omega)
            obtain ⟨h3, e, m3, g3⟩ := smoothPair_ok (q := q) (o := 16 * (4 * (i + 1) - 1) + j) (t := 16 * (4 * (i + 1)) + j) s2 n2 hn hp2 hq (by omega) (by omega)
            refine ⟨(), h3, ?_, by omega, Md_tr md2 m3, ?_⟩
            · rw [b_X1_smooth_94 (wr_id (z := 1) (by omega) (by omega)) (wr_id (z := j) (by omega) (by omega)) k2, if_neg (by omega), if_neg (by omega), f3, e, cl_n, b_X1_smooth_128]
            · rw [g3, hz2, show (16 * i + (j + 1)).toNat = (16 * i + j).toNat + 1 by omega]
              refine Eq.trans ?_ (if_neg (c := 1 < sl ∧ (16 * i + j).toNat / 16 = 1) (by omega)).symm
              rw [show (((16 * i + j).toNat % 16 : Nat) : Int) = j by omega, show (((16 * i + j).toNat / 16 : Nat) : Int) = i by omega]
          · intro y h2 ⟨j0, md2, hz2⟩
            obtain ⟨k2, f3, f5, s2, n2⟩ := fm md2
            refine ⟨(.int (mI 1), .int (mI 16)), h2, ?_, by omega, md2, by rw [hz2, show 16 * (i + 1) = 16 * i + 16 by omega]⟩
            rw [b_X1_smooth_94 (wr_id (z := 1) (by omega) (by omega)) (wr_id (z := 16) (by omega) (by omega)) k2, if_pos (by omega), show 4 * (i + 1) + 4 = 4 * (i + 1 + 1) by omega]
      · intro x h' ⟨i0, md, hz⟩
        obtain ⟨x1, x2⟩ := x
        obtain ⟨k2, f3, f5, s2, n2⟩ := fm md
        rw [b_X1_smooth_63 (wr_id (z := 4 * (3 + 1)) (by omega) (by omega)) k2, if_pos (by omega)]
        exact ⟨h', rfl, md, hz⟩
