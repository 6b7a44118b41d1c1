/-! ===== the model says a slice ===== -/
theorem i_X12_saysPart_0 : am_i m_X12_saysPart 0 = some (0, .aload_n 0, 1, [], 0) := rfl
theorem i_X12_saysPart_1 : am_i m_X12_saysPart 1 = some (1, .iconst 4, 1, [], 4) := rfl
theorem i_X12_saysPart_2 : am_i m_X12_saysPart 2 = some (2, .iload_n 2, 1, [], 0) := rfl
theorem i_X12_saysPart_3 : am_i m_X12_saysPart 3 = some (3, .iconst 4, 1, [], 4) := rfl
theorem i_X12_saysPart_4 : am_i m_X12_saysPart 4 = some (4, .idiv, 1, [], 0) := rfl
theorem i_X12_saysPart_5 : am_i m_X12_saysPart 5 = some (5, .imul, 1, [], 0) := rfl
theorem i_X12_saysPart_6 : am_i m_X12_saysPart 6 = some (6, .iload_n 1, 1, [], 0) := rfl
theorem i_X12_saysPart_7 : am_i m_X12_saysPart 7 = some (7, .iconst 4, 1, [], 4) := rfl
theorem i_X12_saysPart_8 : am_i m_X12_saysPart 8 = some (8, .idiv, 1, [], 0) := rfl
theorem i_X12_saysPart_9 : am_i m_X12_saysPart 9 = some (9, .iadd, 1, [], 0) := rfl
theorem i_X12_saysPart_10 : am_i m_X12_saysPart 10 = some (10, .invokevirtual 267, 3, [174, 10], 0) := rfl
theorem b_X12_saysPart_0 {a0 : Nat} {x1 x2 x3 x1' x2' : Int} {h : am_H} (w1 : wr x1 = x1') (w2 : wr x2 = x2') (k1 : K10 h a0) : rn m_X12_saysPart 0 [.ref a0, .int (mI x1), .int (mI x2), .int (mI x3), am_J] [] h = cl m_X12_saysPart 13 [.ref a0, .int (mI x1), .int (mI x2), .int (mI x3), am_J] [] (rn m_X12_saysMode 0 [.ref a0, .int (mI ((4 * (Int.tdiv x2' 4)) + (Int.tdiv x1' 4))), am_J] [] h) := by
  refine (tq_aload_n i_X12_saysPart_0 rfl (isA_ref _) rfl).trans ?_
  refine (tq_iconst i_X12_saysPart_1 rfl).trans ?_
  refine (tq_iload_n i_X12_saysPart_2 rfl rfl).trans ?_
  refine (tq_iconst i_X12_saysPart_3 rfl).trans ?_
  refine (tq_idiv i_X12_saysPart_4 w2 w_4 (by decide) rfl).trans ?_
  refine (tq_imul i_X12_saysPart_5 rfl).trans ?_
  refine (tq_iload_n i_X12_saysPart_6 rfl rfl).trans ?_
  refine (tq_iconst i_X12_saysPart_7 rfl).trans ?_
  refine (tq_idiv i_X12_saysPart_8 w1 w_4 (by decide) rfl).trans ?_
  refine (tq_iadd i_X12_saysPart_9 rfl).trans ?_
  exact c_X12_saysMode i_X12_saysPart_10 (K10_s k1) (ltd d_X12_saysPart (by decide)) stOk_0 rfl
theorem i_X12_saysPart_13 : am_i m_X12_saysPart 13 = some (13, .iconst 0, 1, [], 0) := rfl
theorem i_X12_saysPart_14 : am_i m_X12_saysPart 14 = some (14, .istore 4, 2, [], 0) := rfl
theorem b_X12_saysPart_13 {a0 : Nat} {x1 x2 x3 : Int} {v4 : Value} {h : am_H} : rn m_X12_saysPart 13 [.ref a0, .int (mI x1), .int (mI x2), .int (mI x3), v4] [] h = rn m_X12_saysPart 16 [.ref a0, .int (mI x1), .int (mI x2), .int (mI x3), .int (mI 0)] [] h := by
  refine (tq_iconst i_X12_saysPart_13 rfl).trans ?_
  refine (tq_istore (L' := [.ref a0, .int (mI x1), .int (mI x2), .int (mI x3), .int (mI 0)]) i_X12_saysPart_14 rfl rfl).trans ?_
  rfl
theorem i_X12_saysPart_16 : am_i m_X12_saysPart 16 = some (16, .iload 4, 2, [], 0) := rfl
theorem i_X12_saysPart_18 : am_i m_X12_saysPart 18 = some (18, .iload_n 3, 1, [], 0) := rfl
theorem i_X12_saysPart_19 : am_i m_X12_saysPart 19 = some (19, .iload_n 3, 1, [], 0) := rfl
theorem i_X12_saysPart_20 : am_i m_X12_saysPart 20 = some (20, .imul, 1, [], 0) := rfl
theorem i_X12_saysPart_21 : am_i m_X12_saysPart 21 = some (21, .bipush 16, 2, [], 16) := rfl
theorem i_X12_saysPart_23 : am_i m_X12_saysPart 23 = some (23, .idiv, 1, [], 0) := rfl
theorem i_X12_saysPart_24 : am_i m_X12_saysPart 24 = some (24, .if_icmp .ge 33, 3, [], 0) := rfl
theorem i_X12_saysPart_27 : am_i m_X12_saysPart 27 = some (27, .aload_n 0, 1, [], 0) := rfl
theorem i_X12_saysPart_28 : am_i m_X12_saysPart 28 = some (28, .iload_n 1, 1, [], 0) := rfl
theorem i_X12_saysPart_29 : am_i m_X12_saysPart 29 = some (29, .iload 4, 2, [], 0) := rfl
theorem i_X12_saysPart_31 : am_i m_X12_saysPart 31 = some (31, .iload_n 3, 1, [], 0) := rfl
theorem i_X12_saysPart_32 : am_i m_X12_saysPart 32 = some (32, .iconst 4, 1, [], 4) := rfl
theorem i_X12_saysPart_33 : am_i m_X12_saysPart 33 = some (33, .idiv, 1, [], 0) := rfl
theorem i_X12_saysPart_34 : am_i m_X12_saysPart 34 = some (34, .irem, 1, [], 0) := rfl
theorem i_X12_saysPart_35 : am_i m_X12_saysPart 35 = some (35, .iconst 4, 1, [], 4) := rfl
theorem i_X12_saysPart_36 : am_i m_X12_saysPart 36 = some (36, .imul, 1, [], 0) := rfl
theorem i_X12_saysPart_37 : am_i m_X12_saysPart 37 = some (37, .iadd, 1, [], 0) := rfl
theorem i_X12_saysPart_38 : am_i m_X12_saysPart 38 = some (38, .iload_n 2, 1, [], 0) := rfl
theorem i_X12_saysPart_39 : am_i m_X12_saysPart 39 = some (39, .iload 4, 2, [], 0) := rfl
theorem i_X12_saysPart_41 : am_i m_X12_saysPart 41 = some (41, .iload_n 3, 1, [], 0) := rfl
theorem i_X12_saysPart_42 : am_i m_X12_saysPart 42 = some (42, .iconst 4, 1, [], 4) := rfl
theorem i_X12_saysPart_43 : am_i m_X12_saysPart 43 = some (43, .idiv, 1, [], 0) := rfl
theorem i_X12_saysPart_44 : am_i m_X12_saysPart 44 = some (44, .idiv, 1, [], 0) := rfl
theorem i_X12_saysPart_45 : am_i m_X12_saysPart 45 = some (45, .iconst 4, 1, [], 4) := rfl
theorem i_X12_saysPart_46 : am_i m_X12_saysPart 46 = some (46, .imul, 1, [], 0) := rfl
theorem i_X12_saysPart_47 : am_i m_X12_saysPart 47 = some (47, .iadd, 1, [], 0) := rfl
theorem i_X12_saysPart_48 : am_i m_X12_saysPart 48 = some (48, .invokevirtual 271, 3, [159, 10], 0) := rfl
theorem i_X12_saysPart_57 : am_i m_X12_saysPart 57 = some (57, .return_, 1, [], 0) := rfl
theorem b_X12_saysPart_16 {a0 : Nat} {x1 x2 x3 x4 x3' x4' : Int} {h : am_H} (w3 : wr x3 = x3') (w4 : wr x4 = x4') (g1 : (¬ ((wr (Int.tdiv (wr (x3 * x3)) 16)) ≤ x4')) → (wr (Int.tdiv x3' 4) ≠ 0)) (k2 : K10 h a0) : rn m_X12_saysPart 16 [.ref a0, .int (mI x1), .int (mI x2), .int (mI x3), .int (mI x4)] [] h = if (wr (Int.tdiv (wr (x3 * x3)) 16)) ≤ x4' then some (.inl none, h) else cl m_X12_saysPart 51 [.ref a0, .int (mI x1), .int (mI x2), .int (mI x3), .int (mI x4)] [] (rn m_X12_saysSquare 0 [.ref a0, .int (mI (x1 + ((Int.tmod x4' (wr (Int.tdiv x3' 4))) * 4))), .int (mI (x2 + ((Int.tdiv x4' (wr (Int.tdiv x3' 4))) * 4))), am_J, am_J, am_J, am_J] [] h) := by
  refine (tq_iload i_X12_saysPart_16 rfl rfl).trans ?_
  refine (tq_iload_n i_X12_saysPart_18 rfl rfl).trans ?_
  refine (tq_iload_n i_X12_saysPart_19 rfl rfl).trans ?_
  refine (tq_imul i_X12_saysPart_20 rfl).trans ?_
  refine (tq_bipush i_X12_saysPart_21 rfl).trans ?_
  refine (tq_idiv i_X12_saysPart_23 rfl w_16 (by decide) rfl).trans ?_
  refine (tq_icmp_ge (pt := 57) i_X12_saysPart_24 w4 rfl (by decide) rfl).trans ?_
  refine ite_congr rfl (fun c1 => ?_) (fun c1 => ?_)
  · exact tq_return i_X12_saysPart_57 r_X12_saysPart
  · refine (tq_aload_n i_X12_saysPart_27 rfl (isA_ref _) rfl).trans ?_
    refine (tq_iload_n i_X12_saysPart_28 rfl rfl).trans ?_
    refine (tq_iload i_X12_saysPart_29 rfl rfl).trans ?_
    refine (tq_iload_n i_X12_saysPart_31 rfl rfl).trans ?_
    refine (tq_iconst i_X12_saysPart_32 rfl).trans ?_
    refine (tq_idiv i_X12_saysPart_33 w3 w_4 (by decide) rfl).trans ?_
    refine (tq_irem i_X12_saysPart_34 w4 rfl (g1 c1) rfl).trans ?_
    refine (tq_iconst i_X12_saysPart_35 rfl).trans ?_
    refine (tq_imul i_X12_saysPart_36 rfl).trans ?_
    refine (tq_iadd i_X12_saysPart_37 rfl).trans ?_
    refine (tq_iload_n i_X12_saysPart_38 rfl rfl).trans ?_
    refine (tq_iload i_X12_saysPart_39 rfl rfl).trans ?_
    refine (tq_iload_n i_X12_saysPart_41 rfl rfl).trans ?_
    refine (tq_iconst i_X12_saysPart_42 rfl).trans ?_
    refine (tq_idiv i_X12_saysPart_43 w3 w_4 (by decide) rfl).trans ?_
    refine (tq_idiv i_X12_saysPart_44 w4 rfl (g1 c1) rfl).trans ?_
    refine (tq_iconst i_X12_saysPart_45 rfl).trans ?_
    refine (tq_imul i_X12_saysPart_46 rfl).trans ?_
    refine (tq_iadd i_X12_saysPart_47 rfl).trans ?_
    exact c_X12_saysSquare i_X12_saysPart_48 (K10_s k2) (ltd d_X12_saysPart (by decide)) stOk_0 rfl
theorem i_X12_saysPart_51 : am_i m_X12_saysPart 51 = some (51, .iinc 4 1, 3, [], 0) := rfl
theorem i_X12_saysPart_54 : am_i m_X12_saysPart 54 = some (54, .goto (-38), 3, [], 0) := rfl
theorem b_X12_saysPart_51 {a0 : Nat} {x1 x2 x3 x4 : Int} {h : am_H} : rn m_X12_saysPart 51 [.ref a0, .int (mI x1), .int (mI x2), .int (mI x3), .int (mI x4)] [] h = rn m_X12_saysPart 16 [.ref a0, .int (mI x1), .int (mI x2), .int (mI x3), .int (mI (x4 + 1))] [] h := by
  refine (tq_iinc (L' := [.ref a0, .int (mI x1), .int (mI x2), .int (mI x3), .int (mI (x4 + 1))]) i_X12_saysPart_51 rfl rfl rfl).trans ?_
  refine (tq_goto (pc' := 16) i_X12_saysPart_54 (by decide)).trans ?_
  rfl
def evQs (pd : Nat → Int → Int) (s : Int) : Nat → List (Int × Bool)
  | 0 => []
  | n + 1 => evQs pd s n ++ evQ (lvs pd (s + n))
theorem evQs_succ {pd : Nat → Int → Int} {s k : Int} (h : 0 ≤ k) : evQs pd s (k + 1).toNat = evQs pd s k.toNat ++ evQ (lvs pd (s + k)) := by
  obtain ⟨n, rfl⟩ : ∃ n : Nat, k = n := ⟨k.toNat, by omega⟩
  rw [show ((n : Int) + 1).toNat = n + 1 by omega, show ((n : Int)).toNat = n by omega]
  rfl
theorem n_evQs {pd : Nat → Int → Int} {s : Int} {m : Nat} (h : ∀ t, s ≤ t → t < s + m → pdB pd t) : ∀ n : Nat, n ≤ m → nC (evQs pd s n) ≤ 212 * n ∧ nP (evQs pd s n) ≤ 320 * n
  | 0, _ => by simp only [evQs, nC, nP]; omega
  | n + 1, hn => by
    have ih := n_evQs h n (by omega)
    have b := (h (s + n) (by omega) (by omega)).2.2.2.2
    have q := n_evQ (f := lvs pd (s + n)) fun k k0 k1 => by
      have := rowp_b ⟨k0, k1⟩
      exact b _ this.1 this.2
    unfold evQs
    rw [nC_app, nP_app]
    omega
theorem LSt_md {T : Nat → Nat → Prop} {h h' : am_H} {M : Nat} {l1 l2 : Int} (m : Md T h h') (n : ¬ T (M + 20) 0) (ls : LSt h M l1 l2) : LSt h' M l1 l2 := by
  unfold LSt
  rw [md_Z m n]
  exact ls
theorem sPart_ok {h : am_H} {M N W e : Nat} {A : cA} {pd : Nat → Int → Int} {kd tl sl l1 l2 s Z : Int} (q : MR h M A) (p : Pm h M N W pd kd tl sl) (ls : LSt h M l1 l2) (hs : 0 ≤ s ∧ s < 16) (hz : Z = 4 ∨ Z = 8 ∧ s % 4 = 0) (hb : ∀ t, s ≤ t → t < s + (side Z * side Z).toNat → pdB pd t) (o1 : okv l1) (o2 : okv l2) (f : Ft A e (51 + 213 * (side Z * side Z).toNat) (24 + 320 * (side Z * side Z).toNat)) : ∃ h', rn m_X12_saysPart 0 [.ref M, .int (mI (cx s)), .int (mI (cy s)), .int (mI Z), am_J] [] h = some (.inl none, h') ∧ Msl h h' M A (evP kd (pd 1 s) (pd 2 s) (pd 3 s) l1 l2 ++ evQs pd s (side Z * side Z).toNat) ∧ LSt h' M (if pd 1 s = 4 ∨ pd 1 s = 6 then pd 2 s else l1) (if pd 1 s = 5 ∨ pd 1 s = 6 then pd 3 s else l2) := by
  have cxb := cx_b s
  have cyb := cy_b s
  have sz : side Z = 1 ∧ Z = 4 ∨ side Z = 2 ∧ Z = 8 ∧ s % 4 = 0 := by
    rcases hz with g | g
    · left; rw [g]; exact ⟨by decide, rfl⟩
    · right; refine ⟨by rw [g.1]; decide, g⟩
  have wZ : wr Z = Z := wr_id (by omega) (by omega)
  have e16 : wr (Int.tdiv (wr (Z * Z)) 16) = side Z * side Z := by
    rcases sz with ⟨g1, g2⟩ | ⟨g1, g2, -⟩
    · rw [g1, g2]; decide
    · rw [g1, g2]; decide
  have e4 : wr (Int.tdiv Z 4) = side Z := by
    rcases sz with ⟨g1, g2⟩ | ⟨g1, g2, -⟩
    · rw [g1, g2]; decide
    · rw [g1, g2]; decide
  have nn : (side Z * side Z).toNat = 1 ∨ (side Z * side Z).toNat = 4 := by
    rcases sz with ⟨g1, g2⟩ | ⟨g1, g2, -⟩
    · rw [g1]; left; decide
    · rw [g1]; right; decide
  have n0 : ((side Z * side Z).toNat : Int) = side Z * side Z := by
    rcases sz with ⟨g1, g2⟩ | ⟨g1, g2, -⟩
    · rw [g1]; decide
    · rw [g1]; decide
  have st := b_X12_saysPart_0 (a0 := M) (x1 := cx s) (x2 := cy s) (x3 := Z) (h := h) (wr_id (by omega) (by omega)) (wr_id (by omega) (by omega)) q.1
  have ers : 4 * (Int.tdiv (cy s) 4) + Int.tdiv (cx s) 4 = rs s := by
    rw [tdv (by omega), tdv (by omega)]
    rfl
  rw [ers] at st
  have b := hb s (by omega) (by omega)
  obtain ⟨h1, e1, r1, ls1⟩ := sM_ok q p ls hs b o1 o2 (Ft_mono f (by omega) (by omega))
  rw [e1, cl_n, b_X12_saysPart_13] at st
  have nPt := n_evP (kd := kd) b.2.2.1 b.2.2.2.1 o1 o2
  have f1 : Ft (runA A (evP kd (pd 1 s) (pd 2 s) (pd 3 s) l1 l2)) (e + (evP kd (pd 1 s) (pd 2 s) (pd 3 s) l1 l2).length) (213 * (side Z * side Z).toNat) (320 * (side Z * side Z).toNat) := Ft_run _ (Ft_mono f (by omega) (by omega))
  have p1 := Pm_md r1.1 p
  rw [st]
  generalize hn : (side Z * side Z).toNat = n at *
  refine lp (m := m_X12_saysPart) (pc := 16) (L := fun k (_ : Unit) => [.ref M, .int (mI (cx s)), .int (mI (cy s)), .int (mI Z), .int (mI k)]) (N := (n : Int)) (P := fun r => ∃ h', r = some (.inl none, h') ∧ Msl h h' M A (evP kd (pd 1 s) (pd 2 s) (pd 3 s) l1 l2 ++ evQs pd s n) ∧ LSt h' M (if pd 1 s = 4 ∨ pd 1 s = 6 then pd 2 s else l1) (if pd 1 s = 5 ∨ pd 1 s = 6 then pd 3 s else l2)) (fun k _ h' => 0 ≤ k ∧ Ms h1 h' M (runA A (evP kd (pd 1 s) (pd 2 s) (pd 3 s) l1 l2)) (evQs pd s k.toNat)) ?_ ?_ 0 () h1 (by omega) ⟨by omega, Ms_nil r1.2⟩
  · intro k _ h' hk ⟨k0, r⟩
    have p' := Pm_md (Ms_l r).1 p1
    have nq := n_evQs (m := n) hb k.toNat (by omega)
    have fk : Ft (runA (runA A (evP kd (pd 1 s) (pd 2 s) (pd 3 s) l1 l2)) (evQs pd s k.toNat)) (e + (evP kd (pd 1 s) (pd 2 s) (pd 3 s) l1 l2).length + (evQs pd s k.toNat).length) 213 320 := Ft_run _ (Ft_mono f1 (by omega) (by omega))
    have st1 := b_X12_saysPart_16 (a0 := M) (x1 := cx s) (x2 := cy s) (x3 := Z) (x4 := k) (h := h') wZ (wr_id (by omega) (by omega)) (fun _ => by rw [e4]; omega) r.2.1
    rw [e16, e4, if_neg (by omega)] at st1
    have geo : cx s + (Int.tmod k (side Z)) * 4 = cx (s + k) ∧ cy s + (Int.tdiv k (side Z)) * 4 = cy (s + k) := by
      rcases sz with ⟨g1, g2⟩ | ⟨g1, g2, g3⟩
      · rw [g1] at n0 ⊢
        have : k = 0 := by omega
        subst this
        rw [Int.add_zero]
        exact ⟨by rw [show Int.tmod 0 1 = 0 by decide]; omega, by rw [show Int.tdiv 0 1 = 0 by decide]; omega⟩
      · rw [g1] at n0 ⊢
        rw [tmd k0, tdv k0]
        unfold cx cy
        omega
    rw [geo.1, geo.2] at st1
    have sk : 0 ≤ s + k ∧ s + k < 16 := by
      rcases sz with ⟨g1, g2⟩ | ⟨g1, g2, g3⟩
      · rw [g1] at n0; omega
      · rw [g1] at n0; omega
    have bk := (hb (s + k) (by omega) (by omega)).2.2.2.2
    have cxk := cx_b (s + k)
    have cyk := cy_b (s + k)
    obtain ⟨h2, e2, r2⟩ := sQ_ok (Lv := N + 3) (X := cx (s + k)) (Y := cy (s + k)) (f := lvs pd (s + k)) r.2 p'.1.2.2 p'.2.1.2.2.1.1 p'.2.1.2.2.1.2 (by have := p.2.2.2.2.2.1; omega) (by omega) (by omega) (fun j j0 j1 => by
      have := rowp_b ⟨j0, j1⟩
      exact bk _ this.1 this.2) (fun j j0 j1 => by
      unfold lvs
      rw [← p'.2.2.2.1]
      rfl) fk
    rw [e2, cl_n, b_X12_saysPart_51] at st1
    refine ⟨(), h2, st1, by omega, ?_⟩
    rw [evQs_succ k0]
    exact Ms_tr r r2
  · intro _ h' ⟨k0, r⟩
    have st1 := b_X12_saysPart_16 (a0 := M) (x1 := cx s) (x2 := cy s) (x3 := Z) (x4 := (n : Int)) (h := h') wZ (wr_id (by omega) (by omega)) (fun _ => by rw [e4]; omega) r.2.1
    rw [e16, if_pos (by omega)] at st1
    rw [show ((n : Int)).toNat = n by omega] at r
    refine ⟨h', st1, Msl_tr r1 (Ms_l r), LSt_md r.1 (SM_n (by omega)) ls1⟩
