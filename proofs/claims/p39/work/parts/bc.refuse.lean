/-! ===== the law: what is refused ===== -/
section LR
variable {σ : St} {h : am_H} {D n : Nat} {xs : Int → Int}
theorem bad5 (j : JL σ h D n xs) {x y w v b : Int} (wx : wr x = x) (wy : wr y = y) (ww : wr w = w) (wv : wr v = v) (wb : wr b = b) (f : ¬ isF x y w v b) : ∃ h', rn m_L_paint 0 [.ref 2, .int (mI 102), .ref (hnx h), am_J] [] (uZ (uZ (uZ (uZ (uZ (aI 0 5 h) (hnx h) 0 x) (hnx h) 1 y) (hnx h) 2 w) (hnx h) 3 v) (hnx h) 4 b) = some (.inl (some (.int (mI (-2147000002)))), h') ∧ JL σ h' D n xs ∧ Fr (fun _ _ => True) 2 11 h h' := by
  obtain ⟨⟨gn, gs, g0, g1, g2, g3, g4⟩, Fg⟩ := va5 (h := h) wx wy ww wv wb
  have jg := JL_fr Fg (fun _ _ q => q) j
  have e := A_fill_x0 jg.1.1.1 gn gs g0 g1 g2 g3 g4 (fill_x jg.1.1 wx wy ww wv wb f)
  unfold v5 at *
  exact ⟨_, e, JL_exc jg, Fr_tr Fg (Fr_exc _) (fun _ _ _ q => q.elim) (fun _ _ _ q => q.elim)⟩
theorem bad3 (j : JL σ h D n xs) {f a b : Int} (w1 : wr f = f) (w2 : wr a = a) (w3 : wr b = b) (g : ¬ isS f a b) : ∃ h', rn m_L_paint 0 [.ref 2, .int (mI 115), .ref (hnx h), am_J] [] (uZ (uZ (uZ (aI 0 3 h) (hnx h) 0 f) (hnx h) 1 a) (hnx h) 2 b) = some (.inl (some (.int (mI (-2147000002)))), h') ∧ JL σ h' D n xs ∧ Fr (fun _ _ => True) 2 11 h h' := by
  obtain ⟨⟨gn, gs, g0, g1, g2⟩, Fg⟩ := va3 (h := h) w1 w2 w3
  have jg := JL_fr Fg (fun _ _ q => q) j
  have e := A_slope_x0 jg.1.1.1 gn gs g0 g1 g2 (slope_x w1 w2 w3 g)
  exact ⟨_, e, JL_exc jg, Fr_mono (Fr_tr (U := fun _ _ => True) Fg (Fr_exc _) (fun _ _ _ q => q.elim) (fun _ _ _ q => q.elim)) (fun _ _ _ q => q) (by decide) (by decide)⟩
theorem badg (j : JL σ h D n xs) {s z : Int} (w1 : wr s = s) (w2 : wr z = z) (g : ¬ (1 ≤ z ∧ z ≤ 99)) : ∃ h', rn m_L_paint 0 [.ref 2, .int (mI 103), .ref (hnx h), am_J] [] (uZ (uZ (aI 0 2 h) (hnx h) 0 s) (hnx h) 1 z) = some (.inl (some (.int (mI (-2147000002)))), h') ∧ JL σ h' D n xs ∧ Fr (fun _ _ => True) 2 11 h h' := by
  obtain ⟨⟨gn, gs, g0, g1⟩, Fg⟩ := va2 (h := h) w1 w2
  have jg := JL_fr Fg (fun _ _ q => q) j
  have e := A_grain_x0 jg.1.1.1 gn gs g0 g1 (grain_x w2 g)
  exact ⟨_, e, JL_exc jg, Fr_mono (Fr_tr (U := fun _ _ => True) Fg (Fr_exc _) (fun _ _ _ q => q.elim) (fun _ _ _ q => q.elim)) (fun _ _ _ q => q) (by decide) (by decide)⟩
theorem badm (j : JL σ h D n xs) {a b : Int} (w1 : wr a = a) (w2 : wr b = b) (g : ¬ isM a b) : ∃ h', rn m_L_paint 0 [.ref 2, .int (mI 109), .ref (hnx h), am_J] [] (uZ (uZ (aI 0 2 h) (hnx h) 0 a) (hnx h) 1 b) = some (.inl (some (.int (mI (-2147000002)))), h') ∧ JL σ h' D n xs ∧ Fr (fun _ _ => True) 2 11 h h' := by
  obtain ⟨⟨gn, gs, g0, g1⟩, Fg⟩ := va2 (h := h) w1 w2
  have jg := JL_fr Fg (fun _ _ q => q) j
  have e := A_move_x0 jg.1.1.1 gn gs g0 g1 (move_x w1 w2 g)
  exact ⟨_, e, JL_exc jg, Fr_mono (Fr_tr (U := fun _ _ => True) Fg (Fr_exc _) (fun _ _ _ q => q.elim) (fun _ _ _ q => q.elim)) (fun _ _ _ q => q) (by decide) (by decide)⟩

theorem refuse_paint (j : JL σ h D n xs) (x4 : Int) (v3 v5 v6 v8 v9 v10 : Value) : ∃ h', rn m_L_law 483 [.ref 1, .ref 2, .ref 51, v3, .int (mI x4), v5, v6, .int (mI (-2147000002)), v8, v9, v10] [.ref (hnx h), .int (mI 102), .ref 2] (aI 0 5 h) = rn m_L_law 793 [.ref 1, .ref 2, .ref 51, v3, .int (mI x4), v5, v6, .int (mI (-2147000002)), v8, v9, v10] [.int (mI (-2147000002))] h' ∧ JL σ h' D n xs ∧ Fr (fun _ _ => True) 22 121 h h' := by
  have wb : wr (-2147000002) = -2147000002 := wr_id (by decide) (by decide)
  obtain ⟨h0, e0, j0, F0⟩ := bad5 j (x := 0) (y := 0) (w := 17) (v := 1) (b := 0) (wr_id (by decide) (by decide)) (wr_id (by decide) (by decide)) (wr_id (by decide) (by decide)) (wr_id (by decide) (by decide)) (wr_id (by decide) (by decide)) (by unfold isF; omega)
  obtain ⟨h1, e1, j1, F1⟩ := bad5 j0 (x := 15) (y := 15) (w := 1) (v := 2) (b := 0) (wr_id (by decide) (by decide)) (wr_id (by decide) (by decide)) (wr_id (by decide) (by decide)) (wr_id (by decide) (by decide)) (wr_id (by decide) (by decide)) (by unfold isF; omega)
  obtain ⟨h2, e2, j2, F2⟩ := bad5 j1 (x := (-1)) (y := 0) (w := 1) (v := 1) (b := 0) (wr_id (by decide) (by decide)) (wr_id (by decide) (by decide)) (wr_id (by decide) (by decide)) (wr_id (by decide) (by decide)) (wr_id (by decide) (by decide)) (by unfold isF; omega)
  obtain ⟨h3, e3, j3, F3⟩ := bad5 j2 (x := 0) (y := 0) (w := 0) (v := 1) (b := 0) (wr_id (by decide) (by decide)) (wr_id (by decide) (by decide)) (wr_id (by decide) (by decide)) (wr_id (by decide) (by decide)) (wr_id (by decide) (by decide)) (by unfold isF; omega)
  obtain ⟨h4, e4, j4, F4⟩ := bad5 j3 (x := 0) (y := 0) (w := 1) (v := 1) (b := 256) (wr_id (by decide) (by decide)) (wr_id (by decide) (by decide)) (wr_id (by decide) (by decide)) (wr_id (by decide) (by decide)) (wr_id (by decide) (by decide)) (by unfold isF; omega)
  obtain ⟨h5, e5, j5, F5⟩ := bad3 j4 (f := 256) (a := 0) (b := 0) (wr_id (by decide) (by decide)) (wr_id (by decide) (by decide)) (wr_id (by decide) (by decide)) (by unfold isS; omega)
  obtain ⟨h6, e6, j6, F6⟩ := bad3 j5 (f := 0) (a := 100) (b := 0) (wr_id (by decide) (by decide)) (wr_id (by decide) (by decide)) (wr_id (by decide) (by decide)) (by unfold isS; omega)
  obtain ⟨h7, e7, j7, F7⟩ := badg j6 (s := 0) (z := 0) (wr_id (by decide) (by decide)) (wr_id (by decide) (by decide)) (by omega)
  obtain ⟨h8, e8, j8, F8⟩ := badg j7 (s := 0) (z := 100) (wr_id (by decide) (by decide)) (wr_id (by decide) (by decide)) (by omega)
  obtain ⟨h9, e9, j9, F9⟩ := badm j8 (a := 16) (b := 0) (wr_id (by decide) (by decide)) (wr_id (by decide) (by decide)) (by unfold isM; omega)
  obtain ⟨h10, e10, j10, F10⟩ := badm j9 (a := 0) (b := (-16)) (wr_id (by decide) (by decide)) (wr_id (by decide) (by decide)) (by unfold isM; omega)
  refine ⟨h10, ?_, j10, Fr_mono (Fr_tr (U := fun _ _ => True) F0 (Fr_tr (U := fun _ _ => True) F1 (Fr_tr (U := fun _ _ => True) F2 (Fr_tr (U := fun _ _ => True) F3 (Fr_tr (U := fun _ _ => True) F4 (Fr_tr (U := fun _ _ => True) F5 (Fr_tr (U := fun _ _ => True) F6 (Fr_tr (U := fun _ _ => True) F7 (Fr_tr (U := fun _ _ => True) F8 (Fr_tr (U := fun _ _ => True) F9 F10 (fun _ _ _ _ => trivial) (fun _ _ _ _ => trivial)) (fun _ _ _ _ => trivial) (fun _ _ _ _ => trivial)) (fun _ _ _ _ => trivial) (fun _ _ _ _ => trivial)) (fun _ _ _ _ => trivial) (fun _ _ _ _ => trivial)) (fun _ _ _ _ => trivial) (fun _ _ _ _ => trivial)) (fun _ _ _ _ => trivial) (fun _ _ _ _ => trivial)) (fun _ _ _ _ => trivial) (fun _ _ _ _ => trivial)) (fun _ _ _ _ => trivial) (fun _ _ _ _ => trivial)) (fun _ _ _ _ => trivial) (fun _ _ _ _ => trivial)) (fun _ _ _ _ => trivial) (fun _ _ _ _ => trivial)) (fun _ _ _ q => q) (by decide) (by decide)⟩
  rw [b_L_law_483 (n_as0 := 5) (gn_aI _ _ _) (sh_aI (by decide)) (by omega) (by omega) (by omega) (by omega) (by omega), e0, cl_v]
  rw [b_L_law_507 wb wb, if_neg (fun z => z rfl)]
  rw [b_L_law_518 (n_as0 := 5) (gn_aI _ _ _) (sh_aI (by decide)) (by omega) (by omega) (by omega) (by omega) (by omega), e1, cl_v]
  rw [b_L_law_543 wb wb, if_neg (fun z => z rfl)]
  rw [b_L_law_554 (n_as0 := 5) (gn_aI _ _ _) (sh_aI (by decide)) (by omega) (by omega) (by omega) (by omega) (by omega), e2, cl_v]
  rw [b_L_law_577 wb wb, if_neg (fun z => z rfl)]
  rw [b_L_law_588 (n_as0 := 5) (gn_aI _ _ _) (sh_aI (by decide)) (by omega) (by omega) (by omega) (by omega) (by omega), e3, cl_v]
  rw [b_L_law_611 wb wb, if_neg (fun z => z rfl)]
  rw [b_L_law_622 (n_as0 := 5) (gn_aI _ _ _) (sh_aI (by decide)) (by omega) (by omega) (by omega) (by omega) (by omega), e4, cl_v]
  rw [b_L_law_647 wb wb, if_neg (fun z => z rfl)]
  rw [b_L_law_658 (n_as0 := 3) (gn_aI _ _ _) (sh_aI (by decide)) (by omega) (by omega) (by omega), e5, cl_v]
  rw [b_L_law_675 wb wb, if_neg (fun z => z rfl)]
  rw [b_L_law_686 (n_as0 := 3) (gn_aI _ _ _) (sh_aI (by decide)) (by omega) (by omega) (by omega), e6, cl_v]
  rw [b_L_law_702 wb wb, if_neg (fun z => z rfl)]
  rw [b_L_law_713 (n_as0 := 2) (gn_aI _ _ _) (sh_aI (by decide)) (by omega) (by omega), e7, cl_v]
  rw [b_L_law_724 wb wb, if_neg (fun z => z rfl)]
  rw [b_L_law_735 (n_as0 := 2) (gn_aI _ _ _) (sh_aI (by decide)) (by omega) (by omega), e8, cl_v]
  rw [b_L_law_747 wb wb, if_neg (fun z => z rfl)]
  rw [b_L_law_758 (n_as0 := 2) (gn_aI _ _ _) (sh_aI (by decide)) (by omega) (by omega), e9, cl_v]
  rw [b_L_law_770 wb wb, if_neg (fun z => z rfl)]
  rw [b_L_law_781 (n_as0 := 2) (gn_aI _ _ _) (sh_aI (by decide)) (by omega) (by omega), e10, cl_v]
def hx (h : am_H) : Nat → am_H
  | 0 => h
  | k + 1 => hexc (hx h k)
theorem hx_n (h : am_H) : ∀ k, hcl (hx h k) = hcl h + k ∧ hsl (hx h k) = hsl h + 6 * k
  | 0 => ⟨rfl, rfl⟩
  | k + 1 => by
    have := hx_n h k
    show hcl (hexc (hx h k)) = _ ∧ hsl (hexc (hx h k)) = _
    rw [hcl_exc, hsl_exc]
    omega
theorem refuse_ask (j : JL σ h D n xs) (v3 v5 v6 v7 v8 v9 v10 : Value) : rn m_L_law 803 [.ref 1, .ref 2, .ref 51, v3, .int (mI (tz σ 7)), v5, v6, v7, v8, v9, v10] [.int (mI 1)] h = cl m_L_law 1103 [.ref 1, .ref 2, .ref 51, v3, .int (mI (tz σ 7)), v5, v6, v7, v8, v9, v10] [] (rn m_L_at 0 [.ref 1, .int (mI 42)] [] (hx h 21)) ∧ JL σ (hx h 21) D n xs := by
  have b7 := j.1.2.1.2.1.1
  have b8 := j.1.2.1.2.1.2.1
  have w7 : wr (tz σ 7) = tz σ 7 := wr_id (by omega) (by omega)
  have w71 : wr (tz σ 7 + 1) = tz σ 7 + 1 := wr_id (by omega) (by omega)
  have j0 : JL σ (hx h 0) D n xs := j
  have j1 : JL σ (hx h 1) D n xs := JL_exc j0
  have j2 : JL σ (hx h 2) D n xs := JL_exc j1
  have j3 : JL σ (hx h 3) D n xs := JL_exc j2
  have j4 : JL σ (hx h 4) D n xs := JL_exc j3
  have j5 : JL σ (hx h 5) D n xs := JL_exc j4
  have j6 : JL σ (hx h 6) D n xs := JL_exc j5
  have j7 : JL σ (hx h 7) D n xs := JL_exc j6
  have j8 : JL σ (hx h 8) D n xs := JL_exc j7
  have j9 : JL σ (hx h 9) D n xs := JL_exc j8
  have j10 : JL σ (hx h 10) D n xs := JL_exc j9
  have j11 : JL σ (hx h 11) D n xs := JL_exc j10
  have j12 : JL σ (hx h 12) D n xs := JL_exc j11
  have j13 : JL σ (hx h 13) D n xs := JL_exc j12
  have j14 : JL σ (hx h 14) D n xs := JL_exc j13
  have j15 : JL σ (hx h 15) D n xs := JL_exc j14
  have j16 : JL σ (hx h 16) D n xs := JL_exc j15
  have j17 : JL σ (hx h 17) D n xs := JL_exc j16
  have j18 : JL σ (hx h 18) D n xs := JL_exc j17
  have j19 : JL σ (hx h 19) D n xs := JL_exc j18
  have j20 : JL σ (hx h 20) D n xs := JL_exc j19
  have j21 : JL σ (hx h 21) D n xs := JL_exc j20
  have e0 : rn m_L_ask 0 [.ref 2, .int (mI 113), .int (mI 0), am_J] [] (hx h 0) = some (.inl (some (.int (mI (-1002)))), hx h 1) := A_setCoarseness_x0 j0.1.1.1 ((c_setCoarseness j0.1.1 (wr_id (by decide) (by decide))).2 (by omega))
  have e1 : rn m_L_ask 0 [.ref 2, .int (mI 113), .int (mI 41), am_J] [] (hx h 1) = some (.inl (some (.int (mI (-1002)))), hx h 2) := A_setCoarseness_x0 j1.1.1.1 ((c_setCoarseness j1.1.1 (wr_id (by decide) (by decide))).2 (by omega))
  have e2 : rn m_L_ask 0 [.ref 2, .int (mI 116), .int (mI 8), am_J] [] (hx h 2) = some (.inl (some (.int (mI (-1002)))), hx h 3) := A_setTools_x0 j2.1.1.1 ((c_setTools j2.1.1 (wr_id (by decide) (by decide))).2 (by omega))
  have e3 : rn m_L_ask 0 [.ref 2, .int (mI 116), .int (mI (-1)), am_J] [] (hx h 3) = some (.inl (some (.int (mI (-1002)))), hx h 4) := A_setTools_x0 j3.1.1.1 ((c_setTools j3.1.1 (wr_id (by decide) (by decide))).2 (by omega))
  have e4 : rn m_L_ask 0 [.ref 2, .int (mI 115), .int (mI 0), am_J] [] (hx h 4) = some (.inl (some (.int (mI (-1002)))), hx h 5) := A_setSlices_x0 j4.1.1.1 ((c_setSlices j4.1.1 (wr_id (by decide) (by decide))).2 (by omega))
  have e5 : rn m_L_ask 0 [.ref 2, .int (mI 115), .int (mI 3), am_J] [] (hx h 5) = some (.inl (some (.int (mI (-1002)))), hx h 6) := A_setSlices_x0 j5.1.1.1 ((c_setSlices j5.1.1 (wr_id (by decide) (by decide))).2 (by omega))
  have e6 : rn m_L_bucket 0 [.ref 2, .int (mI (-1)), .int (mI 0), am_J] [] (hx h 6) = some (.inl (some (.int (mI (-1002)))), hx h 7) := A_setBucket_x0 j6.1.1.1 ((c_setBucket j6.1.1 (wr_id (by decide) (by decide)) (wr_id (by decide) (by decide))).2 (by unfold isB2; omega))
  have e7 : rn m_L_bucket 0 [.ref 2, .int (mI 100000), .int (mI 0), am_J] [] (hx h 7) = some (.inl (some (.int (mI (-1002)))), hx h 8) := A_setBucket_x0 j7.1.1.1 ((c_setBucket j7.1.1 (wr_id (by decide) (by decide)) (wr_id (by decide) (by decide))).2 (by unfold isB2; omega))
  have e8 : rn m_L_bucket 0 [.ref 2, .int (mI 1), .int (mI (-1)), am_J] [] (hx h 8) = some (.inl (some (.int (mI (-1002)))), hx h 9) := A_setBucket_x0 j8.1.1.1 ((c_setBucket j8.1.1 (wr_id (by decide) (by decide)) (wr_id (by decide) (by decide))).2 (by unfold isB2; omega))
  have e9 : rn m_L_code 0 [.ref 2, .int (mI 63), .int (mI 0), .int (mI 0), am_J] [] (hx h 9) = some (.inl (some (.int (mI (-1002)))), hx h 10) := A_code_x0 j9.1.1.1 ((c_code_x j9.1.1 j9.1.2.1 (wr_id (by decide) (by decide)) (wr_id (by decide) (by decide)) (wr_id (by decide) (by decide))).1 (by unfold isKind; omega))
  have e10 : rn m_L_code 0 [.ref 2, .int (mI 112), .int (mI 3), .int (mI 0), am_J] [] (hx h 10) = some (.inl (some (.int (mI (-1001)))), hx h 11) := A_code_x1 j10.1.1.1 ((c_code_x j10.1.1 j10.1.2.1 (wr_id (by decide) (by decide)) (wr_id (by decide) (by decide)) (wr_id (by decide) (by decide))).2.1 (by unfold isKind; omega) (fun q => absurd (q.2.1 (by decide)) (by omega)))
  have e11 : rn m_L_code 0 [.ref 2, .int (mI 98), .int (mI 0), .int (mI (-1)), am_J] [] (hx h 11) = some (.inl (some (.int (mI (-1001)))), hx h 12) := A_code_x1 j11.1.1.1 ((c_code_x j11.1.1 j11.1.2.1 (wr_id (by decide) (by decide)) (wr_id (by decide) (by decide)) (wr_id (by decide) (by decide))).2.1 (by unfold isKind; omega) (fun q => absurd (q.2.2 rfl) (by omega)))
  have e12 : rn m_L_ask 0 [.ref 2, .int (mI 105), .int (mI (tz σ 7)), am_J] [] (hx h 12) = some (.inl (some (.int (mI (-1001)))), hx h 13) := A_kindOf_x1 j12.1.1.1 (q_kindOf_x j12.1.1 j12.1.2.1 w7 (by omega))
  have e13 : rn m_L_ask 0 [.ref 2, .int (mI 99), .int (mI (-1)), am_J] [] (hx h 13) = some (.inl (some (.int (mI (-1001)))), hx h 14) := A_coarsenessOf_x1 j13.1.1.1 (q_coarsenessOf_x j13.1.1 j13.1.2.1 (wr_id (by decide) (by decide)) (by omega))
  have e14 : rn m_L_ask 0 [.ref 2, .int (mI 104), .int (mI (tz σ 7)), am_J] [] (hx h 14) = some (.inl (some (.int (mI (-1001)))), hx h 15) := A_heaviest_x1 j14.1.1.1 ((q_heaviest j14.1.1 j14.1.2.1 w7).2 (by omega))
  have e15 : rn m_L_ask 0 [.ref 2, .int (mI 106), .int (mI (tz σ 7 + 1)), am_J] [] (hx h 15) = some (.inl (some (.int (mI (-1001)))), hx h 16) := A_join_x1 j15.1.1.1 ((c_join j15.1.1 j15.1.2.1 w71).2 (by omega))
  have e16 : rn m_L_ask 0 [.ref 2, .int (mI 106), .int (mI (-1)), am_J] [] (hx h 16) = some (.inl (some (.int (mI (-1001)))), hx h 17) := A_join_x1 j16.1.1.1 ((c_join j16.1.1 j16.1.2.1 (wr_id (by decide) (by decide))).2 (by omega))
  have e17 : rn m_L_pixel 0 [.ref 2, .int (mI 99), .int (mI 0), .int (mI 16), .int (mI 0), am_J] [] (hx h 17) = some (.inl (some (.int (mI (-100001)))), hx h 18) := A_pixel_x1 j17.1.1.1 (q_pixel_x (wr_id (by decide) (by decide)) (wr_id (by decide) (by decide)) (by omega))
  have e18 : rn m_L_pixel 0 [.ref 2, .int (mI 119), .int (mI 0), .int (mI 0), .int (mI (-1)), am_J] [] (hx h 18) = some (.inl (some (.int (mI (-100001)))), hx h 19) := A_shownAt_x1 j18.1.1.1 ((q_shownAt j18.1.1 (wr_id (by decide) (by decide)) (wr_id (by decide) (by decide))).2 (by omega))
  have e19 : rn m_L_pixel 0 [.ref 2, .int (mI 98), .int (mI (tz σ 7)), .int (mI 0), .int (mI 0), am_J] [] (hx h 19) = some (.inl (some (.int (mI (-100001)))), hx h 20) := A_built_x1 j19.1.1.1 (q_built_x j19.1.1 j19.1.2.1 w7 (wr_id (by decide) (by decide)) (wr_id (by decide) (by decide)) (fun q => by have := q.1; omega))
  have e20 : rn m_L_pixel 0 [.ref 2, .int (mI 109), .int (mI (-1)), .int (mI 0), .int (mI 0), am_J] [] (hx h 20) = some (.inl (some (.int (mI (-100001)))), hx h 21) := A_modeAt_x1 j20.1.1.1 (q_modeAt_x j20.1.1 j20.1.2.1 (wr_id (by decide) (by decide)) (wr_id (by decide) (by decide)) (wr_id (by decide) (by decide)) (fun q => by have := q.1; omega))
  refine ⟨?_, j21⟩
  have st : rn m_L_law 803 [.ref 1, .ref 2, .ref 51, v3, .int (mI (tz σ 7)), v5, v6, v7, v8, v9, v10] [.int (mI 1)] h = rn m_L_law 803 [.ref 1, .ref 2, .ref 51, v3, .int (mI (tz σ 7)), v5, v6, v7, v8, v9, v10] [.int (mI 1)] (hx h 0) := rfl
  rw [st]
  rw [b_L_law_803 (xs0' := 1) w_1, if_pos (by decide), e0, cl_v]
  rw [b_L_law_815 (xs0' := (-1002)) (wr_id (by decide) (by decide)), if_neg (fun z => z rfl), e1, cl_v]
  rw [b_L_law_829 (xs0' := (-1002)) (wr_id (by decide) (by decide)), if_neg (fun z => z rfl), e2, cl_v]
  rw [b_L_law_843 (xs0' := (-1002)) (wr_id (by decide) (by decide)), if_neg (fun z => z rfl), e3, cl_v]
  rw [b_L_law_856 (xs0' := (-1002)) (wr_id (by decide) (by decide)), if_neg (fun z => z rfl), e4, cl_v]
  rw [b_L_law_869 (xs0' := (-1002)) (wr_id (by decide) (by decide)), if_neg (fun z => z rfl), e5, cl_v]
  rw [b_L_law_882 (xs0' := (-1002)) (wr_id (by decide) (by decide)), if_neg (fun z => z rfl), e6, cl_v]
  rw [b_L_law_894 (xs0' := (-1002)) (wr_id (by decide) (by decide)), if_neg (fun z => z rfl), e7, cl_v]
  rw [b_L_law_907 (xs0' := (-1002)) (wr_id (by decide) (by decide)), if_neg (fun z => z rfl), e8, cl_v]
  rw [b_L_law_919 (xs0' := (-1002)) (wr_id (by decide) (by decide)), if_neg (fun z => z rfl), e9, cl_v]
  rw [b_L_law_933 (xs0' := (-1002)) (wr_id (by decide) (by decide)), if_neg (fun z => z rfl), e10, cl_v]
  rw [b_L_law_947 (xs0' := (-1001)) (wr_id (by decide) (by decide)), if_neg (fun z => z rfl), e11, cl_v]
  rw [b_L_law_961 (xs0' := (-1001)) (wr_id (by decide) (by decide)), if_neg (fun z => z rfl), e12, cl_v]
  rw [b_L_law_975 (xs0' := (-1001)) (wr_id (by decide) (by decide)), if_neg (fun z => z rfl), e13, cl_v]
  rw [b_L_law_988 (xs0' := (-1001)) (wr_id (by decide) (by decide)), if_neg (fun z => z rfl), e14, cl_v]
  rw [b_L_law_1002 (xs0' := (-1001)) (wr_id (by decide) (by decide)), if_neg (fun z => z rfl), e15, cl_v]
  rw [b_L_law_1018 (xs0' := (-1001)) (wr_id (by decide) (by decide)), if_neg (fun z => z rfl), e16, cl_v]
  rw [b_L_law_1031 (xs0' := (-1001)) (wr_id (by decide) (by decide)), if_neg (fun z => z rfl), e17, cl_v]
  rw [b_L_law_1047 (xs0' := (-100001)) (wr_id (by decide) (by decide)), if_neg (fun z => z rfl), e18, cl_v]
  rw [b_L_law_1061 (xs0' := (-100001)) (wr_id (by decide) (by decide)), if_neg (fun z => z rfl), e19, cl_v]
  rw [b_L_law_1076 (xs0' := (-100001)) (wr_id (by decide) (by decide)), if_neg (fun z => z rfl), e20, cl_v]
  rw [b_L_law_1090 (xs0' := (-100001)) (wr_id (by decide) (by decide)), if_pos rfl]
end LR
