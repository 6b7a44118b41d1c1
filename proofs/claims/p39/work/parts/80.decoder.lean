/-! ===== the class's decoder ===== -/
theorem i_X3_conceal_0 : am_i m_X3_conceal 0 = some (0, .iconst 0, 1, [], 0) := rfl
theorem i_X3_conceal_1 : am_i m_X3_conceal 1 = some (1, .istore_n 2, 1, [], 0) := rfl
theorem b_X3_conceal_0 {a0 : Nat} {x1 : Int} {h : am_H} : rn m_X3_conceal 0 [.ref a0, .int (mI x1), am_J, am_J] [] h = rn m_X3_conceal 2 [.ref a0, .int (mI x1), .int (mI 0), am_J] [] h := by
  refine (tq_iconst i_X3_conceal_0 rfl).trans ?_
  refine (tq_istore_n (L' := [.ref a0, .int (mI x1), .int (mI 0), am_J]) i_X3_conceal_1 rfl rfl).trans ?_
  rfl
theorem i_X3_conceal_2 : am_i m_X3_conceal 2 = some (2, .iload_n 2, 1, [], 0) := rfl
theorem i_X3_conceal_3 : am_i m_X3_conceal 3 = some (3, .bipush 16, 2, [], 16) := rfl
theorem i_X3_conceal_5 : am_i m_X3_conceal 5 = some (5, .if_icmp .ge 32, 3, [], 0) := rfl
theorem i_X3_conceal_8 : am_i m_X3_conceal 8 = some (8, .iload_n 1, 1, [], 0) := rfl
theorem i_X3_conceal_9 : am_i m_X3_conceal 9 = some (9, .iload_n 2, 1, [], 0) := rfl
theorem i_X3_conceal_10 : am_i m_X3_conceal 10 = some (10, .invokestatic 165, 3, [7], 0) := rfl
theorem i_X3_conceal_13 : am_i m_X3_conceal 13 = some (13, .iadd, 1, [], 0) := rfl
theorem i_X3_conceal_14 : am_i m_X3_conceal 14 = some (14, .istore_n 3, 1, [], 0) := rfl
theorem i_X3_conceal_15 : am_i m_X3_conceal 15 = some (15, .aload_n 0, 1, [], 0) := rfl
theorem i_X3_conceal_16 : am_i m_X3_conceal 16 = some (16, .getfield 25, 3, [3, 2, 0], 0) := rfl
theorem i_X3_conceal_19 : am_i m_X3_conceal 19 = some (19, .iload_n 3, 1, [], 0) := rfl
theorem i_X3_conceal_20 : am_i m_X3_conceal 20 = some (20, .aload_n 0, 1, [], 0) := rfl
theorem i_X3_conceal_21 : am_i m_X3_conceal 21 = some (21, .getfield 40, 3, [3, 6, 0], 0) := rfl
theorem i_X3_conceal_24 : am_i m_X3_conceal 24 = some (24, .iload_n 3, 1, [], 0) := rfl
theorem i_X3_conceal_25 : am_i m_X3_conceal 25 = some (25, .invokestatic 91, 3, [32], 0) := rfl
theorem i_X3_conceal_28 : am_i m_X3_conceal 28 = some (28, .invokestatic 104, 3, [33], 0) := rfl
theorem i_X3_conceal_31 : am_i m_X3_conceal 31 = some (31, .iinc 2 1, 3, [], 0) := rfl
theorem i_X3_conceal_34 : am_i m_X3_conceal 34 = some (34, .goto (-32), 3, [], 0) := rfl
theorem i_X3_conceal_37 : am_i m_X3_conceal 37 = some (37, .return_, 1, [], 0) := rfl
theorem b_X3_conceal_2 {a0 : Nat} {x1 x2 x2' : Int} {v3 : Value} {h : am_H} (w2 : wr x2 = x2') (g1 : (¬ (16 ≤ x2')) → (0 ≤ x2' ∧ x2' < 16)) (k2 : K3 h a0) (g3 : (¬ (16 ≤ x2')) → (0 ≤ (wr (x1 + (ip x2'))) ∧ (wr (x1 + (ip x2'))) < (256 : Int))) : rn m_X3_conceal 2 [.ref a0, .int (mI x1), .int (mI x2), v3] [] h = if 16 ≤ x2' then some (.inl none, h) else rn m_X3_conceal 2 [.ref a0, .int (mI x1), .int (mI (x2 + 1)), .int (mI (x1 + (ip x2')))] [] (uZ h (a0 + 11) (wr (x1 + (ip x2'))) (gZ h (a0 + 12) (wr (x1 + (ip x2'))))) := by
  refine (tq_iload_n i_X3_conceal_2 rfl rfl).trans ?_
  refine (tq_bipush i_X3_conceal_3 rfl).trans ?_
  refine (tq_icmp_ge (pt := 37) i_X3_conceal_5 w2 w_16 (by decide) rfl).trans ?_
  refine ite_congr rfl (fun c1 => ?_) (fun c1 => ?_)
  · exact tq_return i_X3_conceal_37 r_X3_conceal
  · refine (tq_iload_n i_X3_conceal_8 rfl rfl).trans ?_
    refine (tq_iload_n i_X3_conceal_9 rfl rfl).trans ?_
    refine (c_X11_inPicture i_X3_conceal_10 (ltd d_X3_conceal (by decide)) (stOk_1 _) rfl).trans ?_
    refine (congrArg (cl _ _ _ _) (inPicture_ok w2 (g1 c1))).trans ?_
    refine (cl_v _ _ _ _ _ _).trans ?_
    refine (tq_iadd i_X3_conceal_13 rfl).trans ?_
    refine (tq_istore_n (L' := [.ref a0, .int (mI x1), .int (mI x2), .int (mI (x1 + (ip x2')))]) i_X3_conceal_14 rfl rfl).trans ?_
    refine (tq_aload_n i_X3_conceal_15 rfl (isA_ref _) rfl).trans ?_
    refine (tq_getfield i_X3_conceal_16 (K3_s k2) (gR (g_3_2 (K3_s k2)) (K3_e2 k2)) (isV_ref _) rfl).trans ?_
    refine (tq_iload_n i_X3_conceal_19 rfl rfl).trans ?_
    refine (tq_aload_n i_X3_conceal_20 rfl (isA_ref _) rfl).trans ?_
    refine (tq_getfield i_X3_conceal_21 (K3_s k2) (gR (g_3_6 (K3_s k2)) (K3_e6 k2)) (isV_ref _) rfl).trans ?_
    refine (tq_iload_n i_X3_conceal_24 rfl rfl).trans ?_
    refine (c_X7_get i_X3_conceal_25 (ltd d_X3_conceal (by decide)) (isA_ref _) (stOk_2 _ _) rfl).trans ?_
    refine (congrArg (cl _ _ _ _) (get_ok rfl (K3_n6 k2) (K3_s6 k2) (by decide) (g3 c1))).trans ?_
    refine (cl_v _ _ _ _ _ _).trans ?_
    refine (c_X7_put i_X3_conceal_28 (ltd d_X3_conceal (by decide)) (isA_ref _) stOk_0 rfl).trans ?_
    refine (congrArg (cl _ _ _ _) (put_ok rfl (K3_n2 k2) (K3_s2 k2) (g3 c1))).trans ?_
    refine (cl_n _ _ _ _ _).trans ?_
    refine (tq_iinc (L' := [.ref a0, .int (mI x1), .int (mI (x2 + 1)), .int (mI (x1 + (ip x2')))]) i_X3_conceal_31 rfl rfl rfl).trans ?_
    refine (tq_goto (pc' := 2) i_X3_conceal_34 (by decide)).trans ?_
    rfl
theorem conceal_ok {h : am_H} {A : Nat} {f : Int} (k : K3 h A) (hf : 0 ≤ f ∧ f + 51 < 256) : ∃ h', rn m_X3_conceal 0 [.ref A, .int (mI f), am_J, am_J] [] h = some (.inl none, h') ∧ Md (fun c _ => c = A + 11) h h' ∧ (∀ k, 0 ≤ k → k < 16 → gZ h' (A + 11) (f + ip k) = gZ h (A + 12) (f + ip k)) ∧ ∀ i, (∀ k, 0 ≤ k → k < 16 → i ≠ f + ip k) → gZ h' (A + 11) i = gZ h (A + 11) i := by
  rw [b_X3_conceal_0]
  refine lp (m := m_X3_conceal) (pc := 2) (L := fun i (x : Value) => [.ref A, .int (mI f), .int (mI i), x]) (N := 16) (P := fun r => ∃ h', r = some (.inl none, h') ∧ Md (fun c _ => c = A + 11) h h' ∧ (∀ k, 0 ≤ k → k < 16 → gZ h' (A + 11) (f + ip k) = gZ h (A + 12) (f + ip k)) ∧ ∀ i, (∀ k, 0 ≤ k → k < 16 → i ≠ f + ip k) → gZ h' (A + 11) i = gZ h (A + 11) i) (fun i _ h' => 0 ≤ i ∧ Md (fun c _ => c = A + 11) h h' ∧ (∀ k, 0 ≤ k → k < i → gZ h' (A + 11) (f + ip k) = gZ h (A + 12) (f + ip k)) ∧ ∀ j, (∀ k, 0 ≤ k → k < 16 → j ≠ f + ip k) → gZ h' (A + 11) j = gZ h (A + 11) j) ?_ ?_ 0 am_J h (by omega) ⟨by omega, Md_rf _ _, fun k k0 k1 => by omega, fun _ _ => rfl⟩
  · intro i x h' hi ⟨i0, md, h1, h2⟩
    have ib := ip_b i
    have w := wr_id (z := f + ip i) (by omega) (by omega)
    have k' := K3_sm md.1 k
    have st := b_X3_conceal_2 (a0 := A) (x1 := f) (v3 := x) (h := h') (wr_id (z := i) (by omega) (by omega)) (fun _ => ⟨i0, hi⟩) k' (fun _ => by rw [w]; omega)
    rw [if_neg (by omega), w] at st
    refine ⟨_, _, st, by omega, Md_tr md (Md_uZ _ _ _ _), fun k k0 k1 => ?_, fun j hj => ?_⟩
    · rw [gZ_uZ' (sh1 (K3_s2 k'))]
      by_cases e : f + ip k = f + ip i
      · rw [if_pos e, wr_gZ, md_gZ md (by omega), e]
      · rw [if_neg e]
        have : k ≠ i := fun q => e (by rw [q])
        exact h1 k k0 (by omega)
    · rw [gZ_uZ' (sh1 (K3_s2 k')), if_neg (hj i i0 hi)]
      exact h2 j hj
  · intro x h' ⟨i0, md, h1, h2⟩
    have k' := K3_sm md.1 k
    have st := b_X3_conceal_2 (a0 := A) (x1 := f) (v3 := x) (h := h') (wr_id (z := 16) (by omega) (by omega)) (fun g => absurd (by omega) g) k' (fun g => absurd (by omega) g)
    rw [if_pos (by omega)] at st
    exact ⟨h', st, md, h1, h2⟩
/-! what a decoded picture is -/
def lostAt (lost sl s : Int) : Prop := lost / 2 ^ (slo sl s).toNat % 2 = 1
def Dcd (pd : Nat → Int → Int) (f1 f2 s0 : Int → Int) (sl q lost : Int) (p : Int → Int) (s : Int) : Prop := (lostAt lost sl s → ∀ k, 0 ≤ k → k < 16 → p (pl s k) = s0 (pl s k)) ∧ (¬ lostAt lost sl s → Bu pd f1 f2 sl q p s)
theorem slo_01 (sl s : Int) : slo sl s = 0 ∨ slo sl s = 1 := by unfold slo; split <;> simp
theorem Dcd_agr {i s sl q lost : Int} {pd pd' : Nat → Int → Int} {p p' f1 f2 s0 : Int → Int} (ag : agr i pd pd' p p') (hs : 0 ≤ s ∧ s < 16) (hi : s < i) (d : Dcd pd f1 f2 s0 sl q lost p s) : Dcd pd' f1 f2 s0 sl q lost p' s :=
  ⟨fun l k k0 k1 => by rw [← ((ag s hs.1 hi).2 k k0 k1).2]; exact d.1 l k k0 k1, fun l => Bu_agr ag hs hi (d.2 l)⟩
theorem Dcd_one {pd : Nat → Int → Int} {p p' f1 f2 s0 : Int → Int} {sl q lost : Int} (h : ∀ s, 0 ≤ s → s < 16 → Dcd pd f1 f2 s0 sl q lost p s) (h' : ∀ s, 0 ≤ s → s < 16 → Dcd pd f1 f2 s0 sl q lost p' s) : ∀ i : Nat, i ≤ 16 → agr i pd pd p p'
  | 0, _ => fun t t0 t1 => by omega
  | i + 1, hi => by
    have ih := Dcd_one h h' i (by omega)
    intro t t0 t1
    by_cases qt : t < i
    · exact ih t t0 qt
    · have e : t = i := by omega
      subst e
      refine ⟨⟨rfl, rfl, rfl, rfl⟩, fun k k0 k1 => ⟨rfl, ?_⟩⟩
      by_cases l : lostAt lost sl i
      · rw [(h i t0 (by omega)).1 l k k0 k1, (h' i t0 (by omega)).1 l k k0 k1]
      · rw [(h i t0 (by omega)).2 l k k0 k1, (h' i t0 (by omega)).2 l k k0 k1, Gq_agr (i := i) (f1 := f1) (f2 := f2) (sl := sl) ⟨rfl, rfl, rfl, rfl⟩ (agr_p ih) ⟨t0, by omega⟩ ⟨k0, k1⟩]
/-- the guess of a square is ready -/
def RdD (h : am_H) (A : Nat) (pd : Nat → Int → Int) (f1 f2 : Int → Int) (sl s : Int) : Prop := ∀ k, 0 ≤ k → k < 16 → gZ h (A + 8) (pl s k) = Gq pd f1 f2 sl (gZ h (A + 11)) s (cx s + k % 4) (cy s + k / 4)
theorem pix_sq {p p' : Int → Int} {i : Int} (hp : pixels p) (h1 : ∀ k, 0 ≤ k → k < 16 → 0 ≤ p' (pl i k) ∧ p' (pl i k) ≤ 255) (h2 : ∀ t k, 0 ≤ t → t < 16 → t ≠ i → 0 ≤ k → k < 16 → p' (pl t k) = p (pl t k)) : pixels p' := by
  intro k k0 k1
  have b := pl_xy (x := k % 16) (y := k / 16) ⟨by omega, by omega⟩ ⟨by omega, by omega⟩
  have e : k = pl (sq (k % 16) (k / 16)) (4 * (k / 16 % 4) + k % 16 % 4) := by rw [b.1]; omega
  by_cases qi : sq (k % 16) (k / 16) = i
  · rw [e, qi]
    exact h1 _ (by omega) (by omega)
  · rw [e, h2 _ _ b.2.1 b.2.2 qi (by omega) (by omega), ← e]
    exact hp k k0 k1
theorem dsq_ok {h : am_H} {A P : Nat} {pd : Nat → Int → Int} {f1 f2 : Int → Int} {sl q i : Int} (kA : K3 h A) (kP : K6 h P) (nP : P + 8 < A ∨ A + 14 < P) (ep : pdh h P 4 = pd 4) (e3 : fZ h P 3 = q) (hi : 0 ≤ i ∧ i < 16) (hp : pixels (gZ h (A + 11))) (gb : ∀ k, 0 ≤ k → k < 16 → 0 ≤ gZ h (A + 8) (pl i k) ∧ gZ h (A + 8) (pl i k) ≤ 255) (lb : ∀ k, 0 ≤ k → k < 16 → -5000 ≤ 4 * q * pd 4 (pl i k) ∧ 4 * q * pd 4 (pl i k) ≤ 5000) (rd : RdD h A pd f1 f2 sl i) : ∃ h', rn m_X1_buildSquare 0 [.ref (A + 1), .ref P, .ref (A + 11), .int (mI (16 * cy i + cx i)), am_J, am_J, am_J] [] h = some (.inl none, h') ∧ Md (fun c _ => c = A + 9 ∨ c = A + 11) h h' ∧ pixels (gZ h' (A + 11)) ∧ agr i pd pd (gZ h (A + 11)) (gZ h' (A + 11)) ∧ Bu pd f1 f2 sl q (gZ h' (A + 11)) i ∧ ∀ s, i < s → s < 16 → sq (X0 (pd 0) s) (Y0 (pd 0) s) ≤ i → RdD h A pd f1 f2 sl s → RdD h' A pd f1 f2 sl s := by
  have cxb := cx_b i
  have cyb := cy_b i
  obtain ⟨h3, s3, m3, l3, n3⟩ := buildSquare_ok (B := A + 1) (D := P) (a := A + 11) (f := 16 * cy i + cx i) (q := q) (K3_k0 kA) kP (K3_s2 kA) (K3_n2 kA) (by decide) (by omega) (by omega) (by omega) (by omega) gb e3 (fun k k0 k1 => by
    have := lb k k0 k1
    rw [← ep] at this
    exact this)
  have m3 : Md (fun c _ => c = A + 9 ∨ c = A + 11) h h3 := m3
  have ne : ∀ t k, 0 ≤ t → t < 16 → t ≠ i → 0 ≤ k → k < 16 → ∀ j, 0 ≤ j → j < 16 → pl t k ≠ 16 * cy i + cx i + ip j := fun t k t0 t1 ti k0 k1 j j0 j1 e => ti (pl_inj ⟨t0, t1⟩ hi ⟨k0, k1⟩ ⟨j0, j1⟩ e).1
  have px3 : ∀ t k, 0 ≤ t → t < 16 → t ≠ i → 0 ≤ k → k < 16 → gZ h3 (A + 11) (pl t k) = gZ h (A + 11) (pl t k) := fun t k t0 t1 ti k0 k1 => n3 _ (ne t k t0 t1 ti k0 k1)
  have ag : agr i pd pd (gZ h (A + 11)) (gZ h3 (A + 11)) := fun t t0 t1 => ⟨⟨rfl, rfl, rfl, rfl⟩, fun k k0 k1 => ⟨rfl, (px3 t k t0 (by omega) (by omega) k0 k1).symm⟩⟩
  have agi := agr_p ag
  refine ⟨h3, s3, m3, pix_sq hp (fun k k0 k1 => ?_) px3, ag, fun k k0 k1 => ?_, fun s s0 s1 st rds k k0 k1 => ?_⟩
  · have := l3 k k0 k1
    have e2 : gZ h3 (A + 11) (pl i k) = _ := this
    rw [e2]
    exact ⟨clampv_0 _, clampv_255 _⟩
  · have := l3 k k0 k1
    have e2 : gZ h3 (A + 11) (pl i k) = _ := this
    rw [e2]
    have e3 : gZ h (A + 1 + 7) (16 * cy i + cx i + ip k) = Gq pd f1 f2 sl (gZ h3 (A + 11)) i (cx i + k % 4) (cy i + k / 4) := (rd k k0 k1).trans (Gq_agr (i := i) ⟨rfl, rfl, rfl, rfl⟩ agi hi ⟨k0, k1⟩)
    rw [e3]
    have e4 : ∀ k, dif q (fun j => gZ h (P + 7) (16 * cy i + cx i + ip j)) k = dif q (fun j => pd 4 (pl i j)) k := dif_congr fun j j0 j1 => congrFun ep _
    rw [e4]
  · have e1 : gZ h3 (A + 8) (pl s k) = gZ h (A + 8) (pl s k) := md_gZ m3 (by omega) _
    rw [e1, rds k k0 k1]
    exact Gq_st ⟨rfl, rfl, rfl, rfl⟩ (agp_le agi st) ⟨by omega, s1⟩ ⟨k0, k1⟩
