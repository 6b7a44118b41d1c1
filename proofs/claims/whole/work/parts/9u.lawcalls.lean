/-! ===== the law: to each call and from it ===== -/
section LU
variable {h g : am_H} {n : Nat} {xs : Int → Int} {i : Int}
theorem BL_fill (sr : SR h n xs) (hi : 0 ≤ i ∧ i + 5 < n) (hn : n ≤ 3072) (v6 v7 v8 : Value) : rn m_L_law 204 (LL i v6 v7 v8) [] h = cl m_L_law 239 (LL i v6 v7 v8) [] (rn m_L_fill 0 [.ref 2, .int (mI (xs (i + 1))), .int (mI (xs (i + 2))), .int (mI (xs (i + 3))), .int (mI (xs (i + 4))), .int (mI (xs (i + 5))), .ref 74, am_J] [] h) := by
  have w1 : wr (i + 1) = i + 1 := wr_id (by omega) (by omega)
  have w2 : wr (i + 2) = i + 2 := wr_id (by omega) (by omega)
  have w3 : wr (i + 3) = i + 3 := wr_id (by omega) (by omega)
  have w4 : wr (i + 4) = i + 4 := wr_id (by omega) (by omega)
  have w5 : wr (i + 5) = i + 5 := wr_id (by omega) (by omega)
  refine (b_L_law_204 sr.2.1 sr.1 (by omega) (by omega) (by omega) (by omega) (by omega)).trans ?_
  simp only [w1, w2, w3, w4, w5, sr.2.2]
theorem BM_fill (hi : 0 ≤ i ∧ i + 5 < n) (hn : n ≤ 3072) (g h2 : am_H) (x z : Int) (sr : SR g n xs) (k10 : K10 g 51) (wx : wr x = x) (wz : wr z = z) (e : rn m_X12_fill 0 [.ref 51, .int (mI (xs (i + 1))), .int (mI (xs (i + 2))), .int (mI (xs (i + 3))), .int (mI (xs (i + 4))), .int (mI (xs (i + 5))), am_J, am_J, am_J, am_J] [] g = some (.inl (some (.int (mI z))), h2)) (k2 : K10 h2 51) (o : OUT h2) (f : fZ h2 51 0 = x) (q : x = 0 → gJ h2 74 0 = z) (v6 v7 v8 : Value) : ∃ a b c, rn m_L_law 239 (LL i v6 v7 v8) [.int (mI x)] g = rn m_L_law 2383 (LL i a b c) [] h2 := by
  have w1 : wr (i + 1) = i + 1 := wr_id (by omega) (by omega)
  have w2 : wr (i + 2) = i + 2 := wr_id (by omega) (by omega)
  have w3 : wr (i + 3) = i + 3 := wr_id (by omega) (by omega)
  have w4 : wr (i + 4) = i + 4 := wr_id (by omega) (by omega)
  have w5 : wr (i + 5) = i + 5 := wr_id (by omega) (by omega)
  refine ⟨.int (mI x), .int (mI z), v8, ?_⟩
  refine (b_L_law_239 sr.2.1 sr.1 (by omega) (by omega) (by omega) (by omega) (by omega) k10).trans ?_
  simp only [w1, w2, w3, w4, w5, sr.2.2]
  rw [e, cl_v]
  exact (b_L_law_275 wx wz k2 o.1.2 o.1.1 (fun _ _ => by decide)).trans (tail_ite f q)
theorem BL_slope (sr : SR h n xs) (hi : 0 ≤ i ∧ i + 5 < n) (hn : n ≤ 3072) (v6 v7 v8 : Value) : rn m_L_law 308 (LL i v6 v7 v8) [] h = cl m_L_law 331 (LL i v6 v7 v8) [] (rn m_L_slope 0 [.ref 2, .int (mI (xs (i + 1))), .int (mI (xs (i + 2))), .int (mI (xs (i + 3))), .ref 74, am_J] [] h) := by
  have w1 : wr (i + 1) = i + 1 := wr_id (by omega) (by omega)
  have w2 : wr (i + 2) = i + 2 := wr_id (by omega) (by omega)
  have w3 : wr (i + 3) = i + 3 := wr_id (by omega) (by omega)
  refine (b_L_law_308 sr.2.1 sr.1 (by omega) (by omega) (by omega)).trans ?_
  simp only [w1, w2, w3, sr.2.2]
theorem BM_slope (hi : 0 ≤ i ∧ i + 5 < n) (hn : n ≤ 3072) (g h2 : am_H) (x z : Int) (sr : SR g n xs) (k10 : K10 g 51) (wx : wr x = x) (wz : wr z = z) (e : rn m_X12_slope 0 [.ref 51, .int (mI (xs (i + 1))), .int (mI (xs (i + 2))), .int (mI (xs (i + 3))), am_J, am_J] [] g = some (.inl (some (.int (mI z))), h2)) (k2 : K10 h2 51) (o : OUT h2) (f : fZ h2 51 0 = x) (q : x = 0 → gJ h2 74 0 = z) (v6 v7 v8 : Value) : ∃ a b c, rn m_L_law 331 (LL i v6 v7 v8) [.int (mI x)] g = rn m_L_law 2383 (LL i a b c) [] h2 := by
  have w1 : wr (i + 1) = i + 1 := wr_id (by omega) (by omega)
  have w2 : wr (i + 2) = i + 2 := wr_id (by omega) (by omega)
  have w3 : wr (i + 3) = i + 3 := wr_id (by omega) (by omega)
  refine ⟨.int (mI x), .int (mI z), v8, ?_⟩
  refine (b_L_law_331 sr.2.1 sr.1 (by omega) (by omega) (by omega) k10).trans ?_
  simp only [w1, w2, w3, sr.2.2]
  rw [e, cl_v]
  exact (b_L_law_355 wx wz k2 o.1.2 o.1.1 (fun _ _ => by decide)).trans (tail_ite f q)
theorem BL_grain (sr : SR h n xs) (hi : 0 ≤ i ∧ i + 5 < n) (hn : n ≤ 3072) (v6 v7 v8 : Value) : rn m_L_law 388 (LL i v6 v7 v8) [] h = cl m_L_law 405 (LL i v6 v7 v8) [] (rn m_L_grain 0 [.ref 2, .int (mI (xs (i + 1))), .int (mI (xs (i + 2))), .ref 74, am_J] [] h) := by
  have w1 : wr (i + 1) = i + 1 := wr_id (by omega) (by omega)
  have w2 : wr (i + 2) = i + 2 := wr_id (by omega) (by omega)
  refine (b_L_law_388 sr.2.1 sr.1 (by omega) (by omega)).trans ?_
  simp only [w1, w2, sr.2.2]
theorem BM_grain (hi : 0 ≤ i ∧ i + 5 < n) (hn : n ≤ 3072) (g h2 : am_H) (x z : Int) (sr : SR g n xs) (k10 : K10 g 51) (wx : wr x = x) (wz : wr z = z) (e : rn m_X12_grain 0 [.ref 51, .int (mI (xs (i + 1))), .int (mI (xs (i + 2))), am_J, am_J] [] g = some (.inl (some (.int (mI z))), h2)) (k2 : K10 h2 51) (o : OUT h2) (f : fZ h2 51 0 = x) (q : x = 0 → gJ h2 74 0 = z) (v6 v7 v8 : Value) : ∃ a b c, rn m_L_law 405 (LL i v6 v7 v8) [.int (mI x)] g = rn m_L_law 2383 (LL i a b c) [] h2 := by
  have w1 : wr (i + 1) = i + 1 := wr_id (by omega) (by omega)
  have w2 : wr (i + 2) = i + 2 := wr_id (by omega) (by omega)
  refine ⟨.int (mI x), .int (mI z), v8, ?_⟩
  refine (b_L_law_405 sr.2.1 sr.1 (by omega) (by omega) k10).trans ?_
  simp only [w1, w2, sr.2.2]
  rw [e, cl_v]
  exact (b_L_law_423 wx wz k2 o.1.2 o.1.1 (fun _ _ => by decide)).trans (tail_ite f q)
theorem BL_move (sr : SR h n xs) (hi : 0 ≤ i ∧ i + 5 < n) (hn : n ≤ 3072) (v6 v7 v8 : Value) : rn m_L_law 456 (LL i v6 v7 v8) [] h = cl m_L_law 473 (LL i v6 v7 v8) [] (rn m_L_move 0 [.ref 2, .int (mI (xs (i + 1))), .int (mI (xs (i + 2))), .ref 74, am_J] [] h) := by
  have w1 : wr (i + 1) = i + 1 := wr_id (by omega) (by omega)
  have w2 : wr (i + 2) = i + 2 := wr_id (by omega) (by omega)
  refine (b_L_law_456 sr.2.1 sr.1 (by omega) (by omega)).trans ?_
  simp only [w1, w2, sr.2.2]
theorem BM_move (hi : 0 ≤ i ∧ i + 5 < n) (hn : n ≤ 3072) (g h2 : am_H) (x z : Int) (sr : SR g n xs) (k10 : K10 g 51) (wx : wr x = x) (wz : wr z = z) (e : rn m_X12_move 0 [.ref 51, .int (mI (xs (i + 1))), .int (mI (xs (i + 2))), am_J, am_J, am_J, am_J] [] g = some (.inl (some (.int (mI z))), h2)) (k2 : K10 h2 51) (o : OUT h2) (f : fZ h2 51 0 = x) (q : x = 0 → gJ h2 74 0 = z) (v6 v7 v8 : Value) : ∃ a b c, rn m_L_law 473 (LL i v6 v7 v8) [.int (mI x)] g = rn m_L_law 2383 (LL i a b c) [] h2 := by
  have w1 : wr (i + 1) = i + 1 := wr_id (by omega) (by omega)
  have w2 : wr (i + 2) = i + 2 := wr_id (by omega) (by omega)
  refine ⟨.int (mI x), .int (mI z), v8, ?_⟩
  refine (b_L_law_473 sr.2.1 sr.1 (by omega) (by omega) k10).trans ?_
  simp only [w1, w2, sr.2.2]
  rw [e, cl_v]
  exact (b_L_law_491 wx wz k2 o.1.2 o.1.1 (fun _ _ => by decide)).trans (tail_ite f q)
theorem BL_pixel (sr : SR h n xs) (hi : 0 ≤ i ∧ i + 5 < n) (hn : n ≤ 3072) (v6 v7 v8 : Value) : rn m_L_law 524 (LL i v6 v7 v8) [] h = cl m_L_law 541 (LL i v6 v7 v8) [] (rn m_L_pixel 0 [.ref 2, .int (mI (xs (i + 1))), .int (mI (xs (i + 2))), .ref 74, am_J] [] h) := by
  have w1 : wr (i + 1) = i + 1 := wr_id (by omega) (by omega)
  have w2 : wr (i + 2) = i + 2 := wr_id (by omega) (by omega)
  refine (b_L_law_524 sr.2.1 sr.1 (by omega) (by omega)).trans ?_
  simp only [w1, w2, sr.2.2]
theorem BM_pixel (hi : 0 ≤ i ∧ i + 5 < n) (hn : n ≤ 3072) (g h2 : am_H) (x z : Int) (sr : SR g n xs) (k10 : K10 g 51) (wx : wr x = x) (wz : wr z = z) (e : rn m_X12_pixel 0 [.ref 51, .int (mI (xs (i + 1))), .int (mI (xs (i + 2)))] [] g = some (.inl (some (.int (mI z))), h2)) (k2 : K10 h2 51) (o : OUT h2) (f : fZ h2 51 0 = x) (q : x = 0 → gJ h2 74 0 = z) (v6 v7 v8 : Value) : ∃ a b c, rn m_L_law 541 (LL i v6 v7 v8) [.int (mI x)] g = rn m_L_law 2383 (LL i a b c) [] h2 := by
  have w1 : wr (i + 1) = i + 1 := wr_id (by omega) (by omega)
  have w2 : wr (i + 2) = i + 2 := wr_id (by omega) (by omega)
  refine ⟨.int (mI x), .int (mI z), v8, ?_⟩
  refine (b_L_law_541 sr.2.1 sr.1 (by omega) (by omega) k10).trans ?_
  simp only [w1, w2, sr.2.2]
  rw [e, cl_v]
  exact (b_L_law_559 wx wz k2 o.1.2 o.1.1 (fun _ _ => by decide)).trans (tail_ite f q)
theorem BL_setCoarseness (sr : SR h n xs) (hi : 0 ≤ i ∧ i + 5 < n) (hn : n ≤ 3072) (v6 v7 v8 : Value) : rn m_L_law 592 (LL i v6 v7 v8) [] h = cl m_L_law 603 (LL i v6 v7 v8) [] (rn m_L_setCoarseness 0 [.ref 2, .int (mI (xs (i + 1))), .ref 74, am_J] [] h) := by
  have w1 : wr (i + 1) = i + 1 := wr_id (by omega) (by omega)
  refine (b_L_law_592 sr.2.1 sr.1 (by omega)).trans ?_
  simp only [w1, sr.2.2]
theorem BM_setCoarseness (hi : 0 ≤ i ∧ i + 5 < n) (hn : n ≤ 3072) (g h2 : am_H) (x z : Int) (sr : SR g n xs) (k10 : K10 g 51) (wx : wr x = x) (wz : wr z = z) (e : rn m_X12_setCoarseness 0 [.ref 51, .int (mI (xs (i + 1))), am_J] [] g = some (.inl (some (.int (mI z))), h2)) (k2 : K10 h2 51) (o : OUT h2) (f : fZ h2 51 0 = x) (q : x = 0 → gJ h2 74 0 = z) (v6 v7 v8 : Value) : ∃ a b c, rn m_L_law 603 (LL i v6 v7 v8) [.int (mI x)] g = rn m_L_law 2383 (LL i a b c) [] h2 := by
  have w1 : wr (i + 1) = i + 1 := wr_id (by omega) (by omega)
  refine ⟨.int (mI x), .int (mI z), v8, ?_⟩
  refine (b_L_law_603 sr.2.1 sr.1 (by omega) k10).trans ?_
  simp only [w1, sr.2.2]
  rw [e, cl_v]
  exact (b_L_law_615 wx wz k2 o.1.2 o.1.1 (fun _ _ => by decide)).trans (tail_ite f q)
theorem BL_setTools (sr : SR h n xs) (hi : 0 ≤ i ∧ i + 5 < n) (hn : n ≤ 3072) (v6 v7 v8 : Value) : rn m_L_law 648 (LL i v6 v7 v8) [] h = cl m_L_law 659 (LL i v6 v7 v8) [] (rn m_L_setTools 0 [.ref 2, .int (mI (xs (i + 1))), .ref 74, am_J] [] h) := by
  have w1 : wr (i + 1) = i + 1 := wr_id (by omega) (by omega)
  refine (b_L_law_648 sr.2.1 sr.1 (by omega)).trans ?_
  simp only [w1, sr.2.2]
theorem BM_setTools (hi : 0 ≤ i ∧ i + 5 < n) (hn : n ≤ 3072) (g h2 : am_H) (x z : Int) (sr : SR g n xs) (k10 : K10 g 51) (wx : wr x = x) (wz : wr z = z) (e : rn m_X12_setTools 0 [.ref 51, .int (mI (xs (i + 1))), am_J] [] g = some (.inl (some (.int (mI z))), h2)) (k2 : K10 h2 51) (o : OUT h2) (f : fZ h2 51 0 = x) (q : x = 0 → gJ h2 74 0 = z) (v6 v7 v8 : Value) : ∃ a b c, rn m_L_law 659 (LL i v6 v7 v8) [.int (mI x)] g = rn m_L_law 2383 (LL i a b c) [] h2 := by
  have w1 : wr (i + 1) = i + 1 := wr_id (by omega) (by omega)
  refine ⟨.int (mI x), .int (mI z), v8, ?_⟩
  refine (b_L_law_659 sr.2.1 sr.1 (by omega) k10).trans ?_
  simp only [w1, sr.2.2]
  rw [e, cl_v]
  exact (b_L_law_671 wx wz k2 o.1.2 o.1.1 (fun _ _ => by decide)).trans (tail_ite f q)
theorem BL_setSlices (sr : SR h n xs) (hi : 0 ≤ i ∧ i + 5 < n) (hn : n ≤ 3072) (v6 v7 v8 : Value) : rn m_L_law 704 (LL i v6 v7 v8) [] h = cl m_L_law 715 (LL i v6 v7 v8) [] (rn m_L_setSlices 0 [.ref 2, .int (mI (xs (i + 1))), .ref 74, am_J] [] h) := by
  have w1 : wr (i + 1) = i + 1 := wr_id (by omega) (by omega)
  refine (b_L_law_704 sr.2.1 sr.1 (by omega)).trans ?_
  simp only [w1, sr.2.2]
theorem BM_setSlices (hi : 0 ≤ i ∧ i + 5 < n) (hn : n ≤ 3072) (g h2 : am_H) (x z : Int) (sr : SR g n xs) (k10 : K10 g 51) (wx : wr x = x) (wz : wr z = z) (e : rn m_X12_setSlices 0 [.ref 51, .int (mI (xs (i + 1))), am_J] [] g = some (.inl (some (.int (mI z))), h2)) (k2 : K10 h2 51) (o : OUT h2) (f : fZ h2 51 0 = x) (q : x = 0 → gJ h2 74 0 = z) (v6 v7 v8 : Value) : ∃ a b c, rn m_L_law 715 (LL i v6 v7 v8) [.int (mI x)] g = rn m_L_law 2383 (LL i a b c) [] h2 := by
  have w1 : wr (i + 1) = i + 1 := wr_id (by omega) (by omega)
  refine ⟨.int (mI x), .int (mI z), v8, ?_⟩
  refine (b_L_law_715 sr.2.1 sr.1 (by omega) k10).trans ?_
  simp only [w1, sr.2.2]
  rw [e, cl_v]
  exact (b_L_law_727 wx wz k2 o.1.2 o.1.1 (fun _ _ => by decide)).trans (tail_ite f q)
theorem BL_setKept (sr : SR h n xs) (hi : 0 ≤ i ∧ i + 5 < n) (hn : n ≤ 3072) (k9 : K9 h 2) (v6 v7 v8 : Value) : rn m_L_law 760 (LL i v6 v7 v8) [] h = cl m_L_law 778 (LL i v6 v7 v8) [] (rn m_X11_setKept 0 [.ref 2, .int (mI (bZ (¬ ((xs (i + 1)) = 0)))), am_J] [] h) := by
  have w1 : wr (i + 1) = i + 1 := wr_id (by omega) (by omega)
  refine (b_L_law_760 sr.2.1 sr.1 (by omega) k9).trans ?_
  simp only [w1, sr.2.2]
theorem BM_setKept (sr : SR g n xs) (hi : 0 ≤ i ∧ i + 5 < n) (hn : n ≤ 3072) (k10 : K10 g 51) {x z : Int} (wx : wr x = x) (wz : wr z = z) {h2 : am_H} (e : rn m_X12_setKept 0 [.ref 51, .int (mI (bZ (¬ ((xs (i + 1)) = 0)))), am_J] [] g = some (.inl (some (.int (mI z))), h2)) (q : x = z) (v6 v7 v8 : Value) : ∃ a b c, rn m_L_law 778 (LL i v6 v7 v8) [.int (mI x)] g = rn m_L_law 2383 (LL i a b c) [] h2 := by
  have w1 : wr (i + 1) = i + 1 := wr_id (by omega) (by omega)
  refine ⟨v6, v7, v8, ?_⟩
  refine (b_L_law_778 sr.2.1 sr.1 (by omega) k10).trans ?_
  simp only [w1, sr.2.2]
  rw [e, cl_v]
  exact (b_L_law_796 wz wx).trans (if_pos q)
theorem BL_setBucket (sr : SR h n xs) (hi : 0 ≤ i ∧ i + 5 < n) (hn : n ≤ 3072) (v6 v7 v8 : Value) : rn m_L_law 801 (LL i v6 v7 v8) [] h = cl m_L_law 818 (LL i v6 v7 v8) [] (rn m_L_setBucket 0 [.ref 2, .int (mI (xs (i + 1))), .int (mI (xs (i + 2))), .ref 74, am_J] [] h) := by
  have w1 : wr (i + 1) = i + 1 := wr_id (by omega) (by omega)
  have w2 : wr (i + 2) = i + 2 := wr_id (by omega) (by omega)
  refine (b_L_law_801 sr.2.1 sr.1 (by omega) (by omega)).trans ?_
  simp only [w1, w2, sr.2.2]
theorem BM_setBucket (hi : 0 ≤ i ∧ i + 5 < n) (hn : n ≤ 3072) (g h2 : am_H) (x z : Int) (sr : SR g n xs) (k10 : K10 g 51) (wx : wr x = x) (wz : wr z = z) (e : rn m_X12_setBucket 0 [.ref 51, .int (mI (xs (i + 1))), .int (mI (xs (i + 2))), am_J] [] g = some (.inl (some (.int (mI z))), h2)) (k2 : K10 h2 51) (o : OUT h2) (f : fZ h2 51 0 = x) (q : x = 0 → gJ h2 74 0 = z) (v6 v7 v8 : Value) : ∃ a b c, rn m_L_law 818 (LL i v6 v7 v8) [.int (mI x)] g = rn m_L_law 2383 (LL i a b c) [] h2 := by
  have w1 : wr (i + 1) = i + 1 := wr_id (by omega) (by omega)
  have w2 : wr (i + 2) = i + 2 := wr_id (by omega) (by omega)
  refine ⟨.int (mI x), .int (mI z), v8, ?_⟩
  refine (b_L_law_818 sr.2.1 sr.1 (by omega) (by omega) k10).trans ?_
  simp only [w1, w2, sr.2.2]
  rw [e, cl_v]
  exact (b_L_law_836 wx wz k2 o.1.2 o.1.1 (fun _ _ => by decide)).trans (tail_ite f q)
theorem BL_code (sr : SR h n xs) (hi : 0 ≤ i ∧ i + 5 < n) (hn : n ≤ 3072) (v6 v7 v8 : Value) : rn m_L_law 869 (LL i v6 v7 v8) [] h = cl m_L_law 893 (LL i v6 v7 v8) [] (rn m_L_code 0 [.ref 2, .int (mI ((xs (i + 1)) % 65536)), .int (mI (xs (i + 2))), .int (mI (xs (i + 3))), .ref 74, am_J] [] h) := by
  have w1 : wr (i + 1) = i + 1 := wr_id (by omega) (by omega)
  have w2 : wr (i + 2) = i + 2 := wr_id (by omega) (by omega)
  have w3 : wr (i + 3) = i + 3 := wr_id (by omega) (by omega)
  refine (b_L_law_869 sr.2.1 sr.1 (by omega) (by omega) (by omega)).trans ?_
  simp only [w1, w2, w3, sr.2.2]
theorem BM_code (hi : 0 ≤ i ∧ i + 5 < n) (hn : n ≤ 3072) (g h2 : am_H) (x z : Int) (sr : SR g n xs) (k10 : K10 g 51) (wx : wr x = x) (wz : wr z = z) (e : rn m_X12_code 0 [.ref 51, .int (mI ((xs (i + 1)) % 65536)), .int (mI (xs (i + 2))), .int (mI (xs (i + 3))), am_J, am_J, am_J, am_J, am_J, am_J, am_J, am_J] [] g = some (.inl (some (.int (mI z))), h2)) (k2 : K10 h2 51) (o : OUT h2) (f : fZ h2 51 0 = x) (q : x = 0 → gJ h2 74 0 = z) (v6 v7 v8 : Value) : ∃ a b c, rn m_L_law 893 (LL i v6 v7 v8) [.int (mI x)] g = rn m_L_law 2383 (LL i a b c) [] h2 := by
  have w1 : wr (i + 1) = i + 1 := wr_id (by omega) (by omega)
  have w2 : wr (i + 2) = i + 2 := wr_id (by omega) (by omega)
  have w3 : wr (i + 3) = i + 3 := wr_id (by omega) (by omega)
  refine ⟨.int (mI x), .int (mI z), v8, ?_⟩
  refine (b_L_law_893 sr.2.1 sr.1 (by omega) (by omega) (by omega) k10).trans ?_
  simp only [w1, w2, w3, sr.2.2]
  rw [e, cl_v]
  exact (b_L_law_918 wx wz k2 o.1.2 o.1.1 (fun _ _ => by decide)).trans (tail_ite f q)
theorem BL_pictures (sr : SR h n xs) (hi : 0 ≤ i ∧ i + 5 < n) (hn : n ≤ 3072) (k9 : K9 h 2) (v6 v7 v8 : Value) : rn m_L_law 951 (LL i v6 v7 v8) [] h = cl m_L_law 955 (LL i v6 v7 v8) [] (rn m_X11_pictures 0 [.ref 2] [] h) := by
  exact b_L_law_951 k9
theorem BM_pictures (sr : SR g n xs) (hi : 0 ≤ i ∧ i + 5 < n) (hn : n ≤ 3072) (k10 : K10 g 51) {x z : Int} (wx : wr x = x) (wz : wr z = z) {h2 : am_H} (e : rn m_X12_pictures 0 [.ref 51] [] g = some (.inl (some (.int (mI z))), h2)) (q : x = z) (v6 v7 v8 : Value) : ∃ a b c, rn m_L_law 955 (LL i v6 v7 v8) [.int (mI x)] g = rn m_L_law 2383 (LL i a b c) [] h2 := by
  refine ⟨v6, v7, v8, ?_⟩
  refine (b_L_law_955 k10).trans ?_
  rw [e, cl_v]
  exact (b_L_law_959 wz wx).trans (if_pos q)
theorem BL_kept (sr : SR h n xs) (hi : 0 ≤ i ∧ i + 5 < n) (hn : n ≤ 3072) (k9 : K9 h 2) (v6 v7 v8 : Value) : rn m_L_law 964 (LL i v6 v7 v8) [] h = cl m_L_law 968 (LL i v6 v7 v8) [] (rn m_X11_kept 0 [.ref 2] [] h) := by
  exact b_L_law_964 k9
theorem BM_kept (sr : SR g n xs) (hi : 0 ≤ i ∧ i + 5 < n) (hn : n ≤ 3072) (k10 : K10 g 51) {x z : Int} (wx : wr x = x) (wz : wr z = z) {h2 : am_H} (e : rn m_X12_kept 0 [.ref 51] [] g = some (.inl (some (.int (mI z))), h2)) (q : x = z) (v6 v7 v8 : Value) : ∃ a b c, rn m_L_law 968 (LL i v6 v7 v8) [.int (mI x)] g = rn m_L_law 2383 (LL i a b c) [] h2 := by
  refine ⟨v6, v7, v8, ?_⟩
  refine (b_L_law_968 k10).trans ?_
  rw [e, cl_v]
  exact (b_L_law_972 wz wx).trans (if_pos q)
theorem BL_keptAt (sr : SR h n xs) (hi : 0 ≤ i ∧ i + 5 < n) (hn : n ≤ 3072) (v6 v7 v8 : Value) : rn m_L_law 977 (LL i v6 v7 v8) [] h = cl m_L_law 988 (LL i v6 v7 v8) [] (rn m_L_keptAt 0 [.ref 2, .int (mI (xs (i + 1))), .ref 74, am_J] [] h) := by
  have w1 : wr (i + 1) = i + 1 := wr_id (by omega) (by omega)
  refine (b_L_law_977 sr.2.1 sr.1 (by omega)).trans ?_
  simp only [w1, sr.2.2]
theorem BM_keptAt (hi : 0 ≤ i ∧ i + 5 < n) (hn : n ≤ 3072) (g h2 : am_H) (x z : Int) (sr : SR g n xs) (k10 : K10 g 51) (wx : wr x = x) (wz : wr z = z) (e : rn m_X12_keptAt 0 [.ref 51, .int (mI (xs (i + 1)))] [] g = some (.inl (some (.int (mI z))), h2)) (k2 : K10 h2 51) (o : OUT h2) (f : fZ h2 51 0 = x) (q : x = 0 → gJ h2 74 0 = z) (v6 v7 v8 : Value) : ∃ a b c, rn m_L_law 988 (LL i v6 v7 v8) [.int (mI x)] g = rn m_L_law 2383 (LL i a b c) [] h2 := by
  have w1 : wr (i + 1) = i + 1 := wr_id (by omega) (by omega)
  refine ⟨.int (mI x), .int (mI z), v8, ?_⟩
  refine (b_L_law_988 sr.2.1 sr.1 (by omega) k10).trans ?_
  simp only [w1, sr.2.2]
  rw [e, cl_v]
  exact (b_L_law_1000 wx wz k2 o.1.2 o.1.1 (fun _ _ => by decide)).trans (tail_ite f q)
theorem BL_coarseness (sr : SR h n xs) (hi : 0 ≤ i ∧ i + 5 < n) (hn : n ≤ 3072) (k9 : K9 h 2) (v6 v7 v8 : Value) : rn m_L_law 1033 (LL i v6 v7 v8) [] h = cl m_L_law 1037 (LL i v6 v7 v8) [] (rn m_X11_coarseness 0 [.ref 2] [] h) := by
  exact b_L_law_1033 k9
theorem BM_coarseness (sr : SR g n xs) (hi : 0 ≤ i ∧ i + 5 < n) (hn : n ≤ 3072) (k10 : K10 g 51) {x z : Int} (wx : wr x = x) (wz : wr z = z) {h2 : am_H} (e : rn m_X12_coarseness 0 [.ref 51] [] g = some (.inl (some (.int (mI z))), h2)) (q : x = z) (v6 v7 v8 : Value) : ∃ a b c, rn m_L_law 1037 (LL i v6 v7 v8) [.int (mI x)] g = rn m_L_law 2383 (LL i a b c) [] h2 := by
  refine ⟨v6, v7, v8, ?_⟩
  refine (b_L_law_1037 k10).trans ?_
  rw [e, cl_v]
  exact (b_L_law_1041 wz wx).trans (if_pos q)
theorem BL_bucket (sr : SR h n xs) (hi : 0 ≤ i ∧ i + 5 < n) (hn : n ≤ 3072) (v6 v7 v8 : Value) : rn m_L_law 1046 (LL i v6 v7 v8) [] h = cl m_L_law 1051 (LL i v6 v7 v8) [] (rn m_L_bucket 0 [.ref 2, .ref 74, am_J] [] h) := by
  exact b_L_law_1046
theorem BM_bucket (hi : 0 ≤ i ∧ i + 5 < n) (hn : n ≤ 3072) (g h2 : am_H) (x z : Int) (sr : SR g n xs) (k10 : K10 g 51) (wx : wr x = x) (wz : wr z = z) (e : rn m_X12_bucket 0 [.ref 51] [] g = some (.inl (some (.int (mI z))), h2)) (k2 : K10 h2 51) (o : OUT h2) (f : fZ h2 51 0 = x) (q : x = 0 → gJ h2 74 0 = z) (v6 v7 v8 : Value) : ∃ a b c, rn m_L_law 1051 (LL i v6 v7 v8) [.int (mI x)] g = rn m_L_law 2383 (LL i a b c) [] h2 := by
  refine ⟨.int (mI x), .int (mI z), v8, ?_⟩
  refine (b_L_law_1051 k10).trans ?_
  rw [e, cl_v]
  exact (b_L_law_1057 wx wz k2 o.1.2 o.1.1 (fun _ _ => by decide)).trans (tail_ite f q)
theorem BL_kindOf (sr : SR h n xs) (hi : 0 ≤ i ∧ i + 5 < n) (hn : n ≤ 3072) (v6 v7 v8 : Value) : rn m_L_law 1090 (LL i v6 v7 v8) [] h = cl m_L_law 1101 (LL i v6 v7 v8) [] (rn m_L_kindOf 0 [.ref 2, .int (mI (xs (i + 1))), .ref 74, am_J] [] h) := by
  have w1 : wr (i + 1) = i + 1 := wr_id (by omega) (by omega)
  refine (b_L_law_1090 sr.2.1 sr.1 (by omega)).trans ?_
  simp only [w1, sr.2.2]
theorem BM_kindOf (hi : 0 ≤ i ∧ i + 5 < n) (hn : n ≤ 3072) (g h2 : am_H) (x z : Int) (sr : SR g n xs) (k10 : K10 g 51) (wx : wr x = x) (wz : wr z = z) (e : rn m_X12_kindOf 0 [.ref 51, .int (mI (xs (i + 1)))] [] g = some (.inl (some (.int (mI z))), h2)) (k2 : K10 h2 51) (o : OUT h2) (f : fZ h2 51 0 = x) (q : x = 0 → gJ h2 74 0 = z) (v6 v7 v8 : Value) : ∃ a b c, rn m_L_law 1101 (LL i v6 v7 v8) [.int (mI x)] g = rn m_L_law 2383 (LL i a b c) [] h2 := by
  have w1 : wr (i + 1) = i + 1 := wr_id (by omega) (by omega)
  refine ⟨.int (mI x), .int (mI z), v8, ?_⟩
  refine (b_L_law_1101 sr.2.1 sr.1 (by omega) k10).trans ?_
  simp only [w1, sr.2.2]
  rw [e, cl_v]
  exact (b_L_law_1113 wx wz k2 o.1.2 o.1.1 (fun _ _ => by decide)).trans (tail_ite f q)
theorem BL_coarsenessOf (sr : SR h n xs) (hi : 0 ≤ i ∧ i + 5 < n) (hn : n ≤ 3072) (v6 v7 v8 : Value) : rn m_L_law 1146 (LL i v6 v7 v8) [] h = cl m_L_law 1157 (LL i v6 v7 v8) [] (rn m_L_coarsenessOf 0 [.ref 2, .int (mI (xs (i + 1))), .ref 74, am_J] [] h) := by
  have w1 : wr (i + 1) = i + 1 := wr_id (by omega) (by omega)
  refine (b_L_law_1146 sr.2.1 sr.1 (by omega)).trans ?_
  simp only [w1, sr.2.2]
theorem BM_coarsenessOf (hi : 0 ≤ i ∧ i + 5 < n) (hn : n ≤ 3072) (g h2 : am_H) (x z : Int) (sr : SR g n xs) (k10 : K10 g 51) (wx : wr x = x) (wz : wr z = z) (e : rn m_X12_coarsenessOf 0 [.ref 51, .int (mI (xs (i + 1)))] [] g = some (.inl (some (.int (mI z))), h2)) (k2 : K10 h2 51) (o : OUT h2) (f : fZ h2 51 0 = x) (q : x = 0 → gJ h2 74 0 = z) (v6 v7 v8 : Value) : ∃ a b c, rn m_L_law 1157 (LL i v6 v7 v8) [.int (mI x)] g = rn m_L_law 2383 (LL i a b c) [] h2 := by
  have w1 : wr (i + 1) = i + 1 := wr_id (by omega) (by omega)
  refine ⟨.int (mI x), .int (mI z), v8, ?_⟩
  refine (b_L_law_1157 sr.2.1 sr.1 (by omega) k10).trans ?_
  simp only [w1, sr.2.2]
  rw [e, cl_v]
  exact (b_L_law_1169 wx wz k2 o.1.2 o.1.1 (fun _ _ => by decide)).trans (tail_ite f q)
theorem BL_bytes (sr : SR h n xs) (hi : 0 ≤ i ∧ i + 5 < n) (hn : n ≤ 3072) (v6 v7 v8 : Value) : rn m_L_law 1202 (LL i v6 v7 v8) [] h = cl m_L_law 1219 (LL i v6 v7 v8) [] (rn m_L_bytes 0 [.ref 2, .int (mI (xs (i + 1))), .int (mI (xs (i + 2))), .ref 74, am_J] [] h) := by
  have w1 : wr (i + 1) = i + 1 := wr_id (by omega) (by omega)
  have w2 : wr (i + 2) = i + 2 := wr_id (by omega) (by omega)
  refine (b_L_law_1202 sr.2.1 sr.1 (by omega) (by omega)).trans ?_
  simp only [w1, w2, sr.2.2]
theorem BM_bytes (hi : 0 ≤ i ∧ i + 5 < n) (hn : n ≤ 3072) (g h2 : am_H) (x z : Int) (sr : SR g n xs) (k10 : K10 g 51) (wx : wr x = x) (wz : wr z = z) (e : rn m_X12_bytes 0 [.ref 51, .int (mI (xs (i + 1))), .int (mI (xs (i + 2)))] [] g = some (.inl (some (.int (mI z))), h2)) (k2 : K10 h2 51) (o : OUT h2) (f : fZ h2 51 0 = x) (q : x = 0 → gJ h2 74 0 = z) (v6 v7 v8 : Value) : ∃ a b c, rn m_L_law 1219 (LL i v6 v7 v8) [.int (mI x)] g = rn m_L_law 2383 (LL i a b c) [] h2 := by
  have w1 : wr (i + 1) = i + 1 := wr_id (by omega) (by omega)
  have w2 : wr (i + 2) = i + 2 := wr_id (by omega) (by omega)
  refine ⟨.int (mI x), .int (mI z), v8, ?_⟩
  refine (b_L_law_1219 sr.2.1 sr.1 (by omega) (by omega) k10).trans ?_
  simp only [w1, w2, sr.2.2]
  rw [e, cl_v]
  exact (b_L_law_1237 wx wz k2 o.1.2 o.1.1 (fun _ _ => by decide)).trans (tail_ite f q)
theorem BL_byteAt (sr : SR h n xs) (hi : 0 ≤ i ∧ i + 5 < n) (hn : n ≤ 3072) (v6 v7 v8 : Value) : rn m_L_law 1270 (LL i v6 v7 v8) [] h = cl m_L_law 1293 (LL i v6 v7 v8) [] (rn m_L_byteAt 0 [.ref 2, .int (mI (xs (i + 1))), .int (mI (xs (i + 2))), .int (mI (xs (i + 3))), .ref 74, am_J] [] h) := by
  have w1 : wr (i + 1) = i + 1 := wr_id (by omega) (by omega)
  have w2 : wr (i + 2) = i + 2 := wr_id (by omega) (by omega)
  have w3 : wr (i + 3) = i + 3 := wr_id (by omega) (by omega)
  refine (b_L_law_1270 sr.2.1 sr.1 (by omega) (by omega) (by omega)).trans ?_
  simp only [w1, w2, w3, sr.2.2]
theorem BM_byteAt (hi : 0 ≤ i ∧ i + 5 < n) (hn : n ≤ 3072) (g h2 : am_H) (x z : Int) (sr : SR g n xs) (k10 : K10 g 51) (wx : wr x = x) (wz : wr z = z) (e : rn m_X12_byteAt 0 [.ref 51, .int (mI (xs (i + 1))), .int (mI (xs (i + 2))), .int (mI (xs (i + 3))), am_J] [] g = some (.inl (some (.int (mI z))), h2)) (k2 : K10 h2 51) (o : OUT h2) (f : fZ h2 51 0 = x) (q : x = 0 → gJ h2 74 0 = z) (v6 v7 v8 : Value) : ∃ a b c, rn m_L_law 1293 (LL i v6 v7 v8) [.int (mI x)] g = rn m_L_law 2383 (LL i a b c) [] h2 := by
  have w1 : wr (i + 1) = i + 1 := wr_id (by omega) (by omega)
  have w2 : wr (i + 2) = i + 2 := wr_id (by omega) (by omega)
  have w3 : wr (i + 3) = i + 3 := wr_id (by omega) (by omega)
  refine ⟨.int (mI x), .int (mI z), v8, ?_⟩
  refine (b_L_law_1293 sr.2.1 sr.1 (by omega) (by omega) (by omega) k10).trans ?_
  simp only [w1, w2, w3, sr.2.2]
  rw [e, cl_v]
  exact (b_L_law_1317 wx wz k2 o.1.2 o.1.1 (fun _ _ => by decide)).trans (tail_ite f q)
theorem BL_partAt (sr : SR h n xs) (hi : 0 ≤ i ∧ i + 5 < n) (hn : n ≤ 3072) (v6 v7 v8 : Value) : rn m_L_law 1350 (LL i v6 v7 v8) [] h = cl m_L_law 1373 (LL i v6 v7 v8) [] (rn m_L_partAt 0 [.ref 2, .int (mI (xs (i + 1))), .int (mI (xs (i + 2))), .int (mI (xs (i + 3))), .ref 74, am_J] [] h) := by
  have w1 : wr (i + 1) = i + 1 := wr_id (by omega) (by omega)
  have w2 : wr (i + 2) = i + 2 := wr_id (by omega) (by omega)
  have w3 : wr (i + 3) = i + 3 := wr_id (by omega) (by omega)
  refine (b_L_law_1350 sr.2.1 sr.1 (by omega) (by omega) (by omega)).trans ?_
  simp only [w1, w2, w3, sr.2.2]
theorem BM_partAt (hi : 0 ≤ i ∧ i + 5 < n) (hn : n ≤ 3072) (g h2 : am_H) (x z : Int) (sr : SR g n xs) (k10 : K10 g 51) (wx : wr x = x) (wz : wr z = z) (e : rn m_X12_partAt 0 [.ref 51, .int (mI (xs (i + 1))), .int (mI (xs (i + 2))), .int (mI (xs (i + 3)))] [] g = some (.inl (some (.int (mI z))), h2)) (k2 : K10 h2 51) (o : OUT h2) (f : fZ h2 51 0 = x) (q : x = 0 → gJ h2 74 0 = z) (v6 v7 v8 : Value) : ∃ a b c, rn m_L_law 1373 (LL i v6 v7 v8) [.int (mI x)] g = rn m_L_law 2383 (LL i a b c) [] h2 := by
  have w1 : wr (i + 1) = i + 1 := wr_id (by omega) (by omega)
  have w2 : wr (i + 2) = i + 2 := wr_id (by omega) (by omega)
  have w3 : wr (i + 3) = i + 3 := wr_id (by omega) (by omega)
  refine ⟨.int (mI x), .int (mI z), v8, ?_⟩
  refine (b_L_law_1373 sr.2.1 sr.1 (by omega) (by omega) (by omega) k10).trans ?_
  simp only [w1, w2, w3, sr.2.2]
  rw [e, cl_v]
  exact (b_L_law_1397 wx wz k2 o.1.2 o.1.1 (fun _ _ => by decide)).trans (tail_ite f q)
theorem BL_modeAt (sr : SR h n xs) (hi : 0 ≤ i ∧ i + 5 < n) (hn : n ≤ 3072) (v6 v7 v8 : Value) : rn m_L_law 1430 (LL i v6 v7 v8) [] h = cl m_L_law 1453 (LL i v6 v7 v8) [] (rn m_L_modeAt 0 [.ref 2, .int (mI (xs (i + 1))), .int (mI (xs (i + 2))), .int (mI (xs (i + 3))), .ref 74, am_J] [] h) := by
  have w1 : wr (i + 1) = i + 1 := wr_id (by omega) (by omega)
  have w2 : wr (i + 2) = i + 2 := wr_id (by omega) (by omega)
  have w3 : wr (i + 3) = i + 3 := wr_id (by omega) (by omega)
  refine (b_L_law_1430 sr.2.1 sr.1 (by omega) (by omega) (by omega)).trans ?_
  simp only [w1, w2, w3, sr.2.2]
theorem BM_modeAt (hi : 0 ≤ i ∧ i + 5 < n) (hn : n ≤ 3072) (g h2 : am_H) (x z : Int) (sr : SR g n xs) (k10 : K10 g 51) (wx : wr x = x) (wz : wr z = z) (e : rn m_X12_modeAt 0 [.ref 51, .int (mI (xs (i + 1))), .int (mI (xs (i + 2))), .int (mI (xs (i + 3)))] [] g = some (.inl (some (.int (mI z))), h2)) (k2 : K10 h2 51) (o : OUT h2) (f : fZ h2 51 0 = x) (q : x = 0 → gJ h2 74 0 = z) (v6 v7 v8 : Value) : ∃ a b c, rn m_L_law 1453 (LL i v6 v7 v8) [.int (mI x)] g = rn m_L_law 2383 (LL i a b c) [] h2 := by
  have w1 : wr (i + 1) = i + 1 := wr_id (by omega) (by omega)
  have w2 : wr (i + 2) = i + 2 := wr_id (by omega) (by omega)
  have w3 : wr (i + 3) = i + 3 := wr_id (by omega) (by omega)
  refine ⟨.int (mI x), .int (mI z), v8, ?_⟩
  refine (b_L_law_1453 sr.2.1 sr.1 (by omega) (by omega) (by omega) k10).trans ?_
  simp only [w1, w2, w3, sr.2.2]
  rw [e, cl_v]
  exact (b_L_law_1477 wx wz k2 o.1.2 o.1.1 (fun _ _ => by decide)).trans (tail_ite f q)
theorem BL_vectorAt (sr : SR h n xs) (hi : 0 ≤ i ∧ i + 5 < n) (hn : n ≤ 3072) (v6 v7 v8 : Value) : rn m_L_law 1510 (LL i v6 v7 v8) [] h = cl m_L_law 1547 (LL i v6 v7 v8) [] (rn m_L_vectorAt 0 [.ref 2, .int (mI (xs (i + 1))), .int (mI (xs (i + 2))), .int (mI (xs (i + 3))), .int (mI (bZ (¬ ((xs (i + 4)) = 0)))), .ref 74, am_J] [] h) := by
  have w1 : wr (i + 1) = i + 1 := wr_id (by omega) (by omega)
  have w2 : wr (i + 2) = i + 2 := wr_id (by omega) (by omega)
  have w3 : wr (i + 3) = i + 3 := wr_id (by omega) (by omega)
  have w4 : wr (i + 4) = i + 4 := wr_id (by omega) (by omega)
  refine (b_L_law_1510 sr.2.1 sr.1 (by omega) (by omega) (by omega) (by omega)).trans ?_
  simp only [w1, w2, w3, w4, sr.2.2]
theorem BM_vectorAt (hi : 0 ≤ i ∧ i + 5 < n) (hn : n ≤ 3072) (g h2 : am_H) (x z : Int) (sr : SR g n xs) (k10 : K10 g 51) (wx : wr x = x) (wz : wr z = z) (e : rn m_X12_vectorAt 0 [.ref 51, .int (mI (xs (i + 1))), .int (mI (xs (i + 2))), .int (mI (xs (i + 3))), .int (mI (bZ (¬ ((xs (i + 4)) = 0)))), am_J, am_J] [] g = some (.inl (some (.int (mI z))), h2)) (k2 : K10 h2 51) (o : OUT h2) (f : fZ h2 51 0 = x) (q : x = 0 → gJ h2 74 0 = z) (v6 v7 v8 : Value) : ∃ a b c, rn m_L_law 1547 (LL i v6 v7 v8) [.int (mI x)] g = rn m_L_law 2383 (LL i a b c) [] h2 := by
  have w1 : wr (i + 1) = i + 1 := wr_id (by omega) (by omega)
  have w2 : wr (i + 2) = i + 2 := wr_id (by omega) (by omega)
  have w3 : wr (i + 3) = i + 3 := wr_id (by omega) (by omega)
  have w4 : wr (i + 4) = i + 4 := wr_id (by omega) (by omega)
  refine ⟨.int (mI x), .int (mI z), v8, ?_⟩
  refine (b_L_law_1547 sr.2.1 sr.1 (by omega) (by omega) (by omega) (by omega) k10).trans ?_
  simp only [w1, w2, w3, w4, sr.2.2]
  rw [e, cl_v]
  exact (b_L_law_1585 wx wz k2 o.1.2 o.1.1 (fun _ _ => by decide)).trans (tail_ite f q)
theorem BL_levelAt (sr : SR h n xs) (hi : 0 ≤ i ∧ i + 5 < n) (hn : n ≤ 3072) (v6 v7 v8 : Value) : rn m_L_law 1618 (LL i v6 v7 v8) [] h = cl m_L_law 1641 (LL i v6 v7 v8) [] (rn m_L_levelAt 0 [.ref 2, .int (mI (xs (i + 1))), .int (mI (xs (i + 2))), .int (mI (xs (i + 3))), .ref 74, am_J] [] h) := by
  have w1 : wr (i + 1) = i + 1 := wr_id (by omega) (by omega)
  have w2 : wr (i + 2) = i + 2 := wr_id (by omega) (by omega)
  have w3 : wr (i + 3) = i + 3 := wr_id (by omega) (by omega)
  refine (b_L_law_1618 sr.2.1 sr.1 (by omega) (by omega) (by omega)).trans ?_
  simp only [w1, w2, w3, sr.2.2]
theorem BM_levelAt (hi : 0 ≤ i ∧ i + 5 < n) (hn : n ≤ 3072) (g h2 : am_H) (x z : Int) (sr : SR g n xs) (k10 : K10 g 51) (wx : wr x = x) (wz : wr z = z) (e : rn m_X12_levelAt 0 [.ref 51, .int (mI (xs (i + 1))), .int (mI (xs (i + 2))), .int (mI (xs (i + 3)))] [] g = some (.inl (some (.int (mI z))), h2)) (k2 : K10 h2 51) (o : OUT h2) (f : fZ h2 51 0 = x) (q : x = 0 → gJ h2 74 0 = z) (v6 v7 v8 : Value) : ∃ a b c, rn m_L_law 1641 (LL i v6 v7 v8) [.int (mI x)] g = rn m_L_law 2383 (LL i a b c) [] h2 := by
  have w1 : wr (i + 1) = i + 1 := wr_id (by omega) (by omega)
  have w2 : wr (i + 2) = i + 2 := wr_id (by omega) (by omega)
  have w3 : wr (i + 3) = i + 3 := wr_id (by omega) (by omega)
  refine ⟨.int (mI x), .int (mI z), v8, ?_⟩
  refine (b_L_law_1641 sr.2.1 sr.1 (by omega) (by omega) (by omega) k10).trans ?_
  simp only [w1, w2, w3, sr.2.2]
  rw [e, cl_v]
  exact (b_L_law_1665 wx wz k2 o.1.2 o.1.1 (fun _ _ => by decide)).trans (tail_ite f q)
theorem BL_built (sr : SR h n xs) (hi : 0 ≤ i ∧ i + 5 < n) (hn : n ≤ 3072) (v6 v7 v8 : Value) : rn m_L_law 1698 (LL i v6 v7 v8) [] h = cl m_L_law 1721 (LL i v6 v7 v8) [] (rn m_L_built 0 [.ref 2, .int (mI (xs (i + 1))), .int (mI (xs (i + 2))), .int (mI (xs (i + 3))), .ref 74, am_J] [] h) := by
  have w1 : wr (i + 1) = i + 1 := wr_id (by omega) (by omega)
  have w2 : wr (i + 2) = i + 2 := wr_id (by omega) (by omega)
  have w3 : wr (i + 3) = i + 3 := wr_id (by omega) (by omega)
  refine (b_L_law_1698 sr.2.1 sr.1 (by omega) (by omega) (by omega)).trans ?_
  simp only [w1, w2, w3, sr.2.2]
theorem BM_built (hi : 0 ≤ i ∧ i + 5 < n) (hn : n ≤ 3072) (g h2 : am_H) (x z : Int) (sr : SR g n xs) (k10 : K10 g 51) (wx : wr x = x) (wz : wr z = z) (e : rn m_X12_built 0 [.ref 51, .int (mI (xs (i + 1))), .int (mI (xs (i + 2))), .int (mI (xs (i + 3)))] [] g = some (.inl (some (.int (mI z))), h2)) (k2 : K10 h2 51) (o : OUT h2) (f : fZ h2 51 0 = x) (q : x = 0 → gJ h2 74 0 = z) (v6 v7 v8 : Value) : ∃ a b c, rn m_L_law 1721 (LL i v6 v7 v8) [.int (mI x)] g = rn m_L_law 2383 (LL i a b c) [] h2 := by
  have w1 : wr (i + 1) = i + 1 := wr_id (by omega) (by omega)
  have w2 : wr (i + 2) = i + 2 := wr_id (by omega) (by omega)
  have w3 : wr (i + 3) = i + 3 := wr_id (by omega) (by omega)
  refine ⟨.int (mI x), .int (mI z), v8, ?_⟩
  refine (b_L_law_1721 sr.2.1 sr.1 (by omega) (by omega) (by omega) k10).trans ?_
  simp only [w1, w2, w3, sr.2.2]
  rw [e, cl_v]
  exact (b_L_law_1745 wx wz k2 o.1.2 o.1.1 (fun _ _ => by decide)).trans (tail_ite f q)
theorem BL_errorOf (sr : SR h n xs) (hi : 0 ≤ i ∧ i + 5 < n) (hn : n ≤ 3072) (v6 v7 v8 : Value) : rn m_L_law 1778 (LL i v6 v7 v8) [] h = cl m_L_law 1789 (LL i v6 v7 v8) [] (rn m_L_errorOf 0 [.ref 2, .int (mI (xs (i + 1))), .ref 74, am_J] [] h) := by
  have w1 : wr (i + 1) = i + 1 := wr_id (by omega) (by omega)
  refine (b_L_law_1778 sr.2.1 sr.1 (by omega)).trans ?_
  simp only [w1, sr.2.2]
theorem BM_errorOf (hi : 0 ≤ i ∧ i + 5 < n) (hn : n ≤ 3072) (g h2 : am_H) (x z : Int) (sr : SR g n xs) (k10 : K10 g 51) (wx : wr x = x) (wz : wl z = z) (e : rn m_X12_errorOf 0 [.ref 51, .int (mI (xs (i + 1)))] [] g = some (.inl (some (.long (mL z))), h2)) (k2 : K10 h2 51) (o : OUT h2) (f : fZ h2 51 0 = x) (q : x = 0 → gJ h2 74 0 = z) (v6 v7 v8 : Value) : ∃ a b c, rn m_L_law 1789 (LL i v6 v7 v8) [.int (mI x)] g = rn m_L_law 2383 (LL i a b c) [] h2 := by
  have w1 : wr (i + 1) = i + 1 := wr_id (by omega) (by omega)
  refine ⟨.int (mI x), .long (mL z), am_J, ?_⟩
  refine (b_L_law_1789 sr.2.1 sr.1 (by omega) k10).trans ?_
  simp only [w1, sr.2.2]
  rw [e, cl_v]
  exact (b_L_law_1801 wx wz k2 o.1.2 o.1.1 (fun _ _ => by decide)).trans (tail_ite f q)
theorem BL_heaviest (sr : SR h n xs) (hi : 0 ≤ i ∧ i + 5 < n) (hn : n ≤ 3072) (v6 v7 v8 : Value) : rn m_L_law 1833 (LL i v6 v7 v8) [] h = cl m_L_law 1844 (LL i v6 v7 v8) [] (rn m_L_heaviest 0 [.ref 2, .int (mI (xs (i + 1))), .ref 74, am_J] [] h) := by
  have w1 : wr (i + 1) = i + 1 := wr_id (by omega) (by omega)
  refine (b_L_law_1833 sr.2.1 sr.1 (by omega)).trans ?_
  simp only [w1, sr.2.2]
theorem BM_heaviest (hi : 0 ≤ i ∧ i + 5 < n) (hn : n ≤ 3072) (g h2 : am_H) (x z : Int) (sr : SR g n xs) (k10 : K10 g 51) (wx : wr x = x) (wz : wr z = z) (e : rn m_X12_heaviest 0 [.ref 51, .int (mI (xs (i + 1))), am_J, am_J, am_J] [] g = some (.inl (some (.int (mI z))), h2)) (k2 : K10 h2 51) (o : OUT h2) (f : fZ h2 51 0 = x) (q : x = 0 → gJ h2 74 0 = z) (v6 v7 v8 : Value) : ∃ a b c, rn m_L_law 1844 (LL i v6 v7 v8) [.int (mI x)] g = rn m_L_law 2383 (LL i a b c) [] h2 := by
  have w1 : wr (i + 1) = i + 1 := wr_id (by omega) (by omega)
  refine ⟨.int (mI x), .int (mI z), v8, ?_⟩
  refine (b_L_law_1844 sr.2.1 sr.1 (by omega) k10).trans ?_
  simp only [w1, sr.2.2]
  rw [e, cl_v]
  exact (b_L_law_1856 wx wz k2 o.1.2 o.1.1 (fun _ _ => by decide)).trans (tail_ite f q)
theorem BL_commonest (sr : SR h n xs) (hi : 0 ≤ i ∧ i + 5 < n) (hn : n ≤ 3072) (v6 v7 v8 : Value) : rn m_L_law 1889 (LL i v6 v7 v8) [] h = cl m_L_law 1894 (LL i v6 v7 v8) [] (rn m_L_commonest 0 [.ref 2, .ref 74, am_J] [] h) := by
  exact b_L_law_1889
theorem BM_commonest (hi : 0 ≤ i ∧ i + 5 < n) (hn : n ≤ 3072) (g h2 : am_H) (x z : Int) (sr : SR g n xs) (k10 : K10 g 51) (wx : wr x = x) (wz : wr z = z) (e : rn m_X12_commonest 0 [.ref 51, am_J, am_J, am_J, am_J] [] g = some (.inl (some (.int (mI z))), h2)) (k2 : K10 h2 51) (o : OUT h2) (f : fZ h2 51 0 = x) (q : x = 0 → gJ h2 74 0 = z) (v6 v7 v8 : Value) : ∃ a b c, rn m_L_law 1894 (LL i v6 v7 v8) [.int (mI x)] g = rn m_L_law 2383 (LL i a b c) [] h2 := by
  refine ⟨.int (mI x), .int (mI z), v8, ?_⟩
  refine (b_L_law_1894 k10).trans ?_
  rw [e, cl_v]
  exact (b_L_law_1900 wx wz k2 o.1.2 o.1.1 (fun _ _ => by decide)).trans (tail_ite f q)
theorem BL_send (sr : SR h n xs) (hi : 0 ≤ i ∧ i + 5 < n) (hn : n ≤ 3072) (v6 v7 v8 : Value) : rn m_L_law 1933 (LL i v6 v7 v8) [] h = cl m_L_law 1944 (LL i v6 v7 v8) [] (rn m_L_send 0 [.ref 2, .int (mI (xs (i + 1))), .ref 74, am_J] [] h) := by
  have w1 : wr (i + 1) = i + 1 := wr_id (by omega) (by omega)
  refine (b_L_law_1933 sr.2.1 sr.1 (by omega)).trans ?_
  simp only [w1, sr.2.2]
theorem BM_send (hi : 0 ≤ i ∧ i + 5 < n) (hn : n ≤ 3072) (g h2 : am_H) (x z : Int) (sr : SR g n xs) (k10 : K10 g 51) (wx : wr x = x) (wz : wr z = z) (e : rn m_X12_send 0 [.ref 51, .int (mI (xs (i + 1))), am_J, am_J] [] g = some (.inl (some (.int (mI z))), h2)) (k2 : K10 h2 51) (o : OUT h2) (f : fZ h2 51 0 = x) (q : x = 0 → gJ h2 74 0 = z) (v6 v7 v8 : Value) : ∃ a b c, rn m_L_law 1944 (LL i v6 v7 v8) [.int (mI x)] g = rn m_L_law 2383 (LL i a b c) [] h2 := by
  have w1 : wr (i + 1) = i + 1 := wr_id (by omega) (by omega)
  refine ⟨.int (mI x), .int (mI z), v8, ?_⟩
  refine (b_L_law_1944 sr.2.1 sr.1 (by omega) k10).trans ?_
  simp only [w1, sr.2.2]
  rw [e, cl_v]
  exact (b_L_law_1956 wx wz k2 o.1.2 o.1.1 (fun _ _ => by decide)).trans (tail_ite f q)
theorem BL_join (sr : SR h n xs) (hi : 0 ≤ i ∧ i + 5 < n) (hn : n ≤ 3072) (v6 v7 v8 : Value) : rn m_L_law 1989 (LL i v6 v7 v8) [] h = cl m_L_law 2000 (LL i v6 v7 v8) [] (rn m_L_join 0 [.ref 2, .int (mI (xs (i + 1))), .ref 74, am_J] [] h) := by
  have w1 : wr (i + 1) = i + 1 := wr_id (by omega) (by omega)
  refine (b_L_law_1989 sr.2.1 sr.1 (by omega)).trans ?_
  simp only [w1, sr.2.2]
theorem BM_join (hi : 0 ≤ i ∧ i + 5 < n) (hn : n ≤ 3072) (g h2 : am_H) (x z : Int) (sr : SR g n xs) (k10 : K10 g 51) (wx : wr x = x) (wz : wr z = z) (e : rn m_X12_join 0 [.ref 51, .int (mI (xs (i + 1))), am_J] [] g = some (.inl (some (.int (mI z))), h2)) (k2 : K10 h2 51) (o : OUT h2) (f : fZ h2 51 0 = x) (q : x = 0 → gJ h2 74 0 = z) (v6 v7 v8 : Value) : ∃ a b c, rn m_L_law 2000 (LL i v6 v7 v8) [.int (mI x)] g = rn m_L_law 2383 (LL i a b c) [] h2 := by
  have w1 : wr (i + 1) = i + 1 := wr_id (by omega) (by omega)
  refine ⟨.int (mI x), .int (mI z), v8, ?_⟩
  refine (b_L_law_2000 sr.2.1 sr.1 (by omega) k10).trans ?_
  simp only [w1, sr.2.2]
  rw [e, cl_v]
  exact (b_L_law_2012 wx wz k2 o.1.2 o.1.1 (fun _ _ => by decide)).trans (tail_ite f q)
theorem BL_shown (sr : SR h n xs) (hi : 0 ≤ i ∧ i + 5 < n) (hn : n ≤ 3072) (v6 v7 v8 : Value) : rn m_L_law 2045 (LL i v6 v7 v8) [] h = cl m_L_law 2050 (LL i v6 v7 v8) [] (rn m_L_shown 0 [.ref 2, .ref 74, am_J] [] h) := by
  exact b_L_law_2045
theorem BM_shown (hi : 0 ≤ i ∧ i + 5 < n) (hn : n ≤ 3072) (g h2 : am_H) (x z : Int) (sr : SR g n xs) (k10 : K10 g 51) (wx : wr x = x) (wz : wr z = z) (e : rn m_X12_shown 0 [.ref 51] [] g = some (.inl (some (.int (mI z))), h2)) (k2 : K10 h2 51) (o : OUT h2) (f : fZ h2 51 0 = x) (q : x = 0 → gJ h2 74 0 = z) (v6 v7 v8 : Value) : ∃ a b c, rn m_L_law 2050 (LL i v6 v7 v8) [.int (mI x)] g = rn m_L_law 2383 (LL i a b c) [] h2 := by
  refine ⟨.int (mI x), .int (mI z), v8, ?_⟩
  refine (b_L_law_2050 k10).trans ?_
  rw [e, cl_v]
  exact (b_L_law_2056 wx wz k2 o.1.2 o.1.1 (fun _ _ => by decide)).trans (tail_ite f q)
theorem BL_shownAt (sr : SR h n xs) (hi : 0 ≤ i ∧ i + 5 < n) (hn : n ≤ 3072) (v6 v7 v8 : Value) : rn m_L_law 2089 (LL i v6 v7 v8) [] h = cl m_L_law 2106 (LL i v6 v7 v8) [] (rn m_L_shownAt 0 [.ref 2, .int (mI (xs (i + 1))), .int (mI (xs (i + 2))), .ref 74, am_J] [] h) := by
  have w1 : wr (i + 1) = i + 1 := wr_id (by omega) (by omega)
  have w2 : wr (i + 2) = i + 2 := wr_id (by omega) (by omega)
  refine (b_L_law_2089 sr.2.1 sr.1 (by omega) (by omega)).trans ?_
  simp only [w1, w2, sr.2.2]
theorem BM_shownAt (hi : 0 ≤ i ∧ i + 5 < n) (hn : n ≤ 3072) (g h2 : am_H) (x z : Int) (sr : SR g n xs) (k10 : K10 g 51) (wx : wr x = x) (wz : wr z = z) (e : rn m_X12_shownAt 0 [.ref 51, .int (mI (xs (i + 1))), .int (mI (xs (i + 2)))] [] g = some (.inl (some (.int (mI z))), h2)) (k2 : K10 h2 51) (o : OUT h2) (f : fZ h2 51 0 = x) (q : x = 0 → gJ h2 74 0 = z) (v6 v7 v8 : Value) : ∃ a b c, rn m_L_law 2106 (LL i v6 v7 v8) [.int (mI x)] g = rn m_L_law 2383 (LL i a b c) [] h2 := by
  have w1 : wr (i + 1) = i + 1 := wr_id (by omega) (by omega)
  have w2 : wr (i + 2) = i + 2 := wr_id (by omega) (by omega)
  refine ⟨.int (mI x), .int (mI z), v8, ?_⟩
  refine (b_L_law_2106 sr.2.1 sr.1 (by omega) (by omega) k10).trans ?_
  simp only [w1, w2, sr.2.2]
  rw [e, cl_v]
  exact (b_L_law_2124 wx wz k2 o.1.2 o.1.1 (fun _ _ => by decide)).trans (tail_ite f q)
theorem BL_isClean (sr : SR h n xs) (hi : 0 ≤ i ∧ i + 5 < n) (hn : n ≤ 3072) (v6 v7 v8 : Value) : rn m_L_law 2157 (LL i v6 v7 v8) [] h = cl m_L_law 2162 (LL i v6 v7 v8) [] (rn m_L_isClean 0 [.ref 2, .ref 74, am_J] [] h) := by
  exact b_L_law_2157
theorem BM_isClean (hi : 0 ≤ i ∧ i + 5 < n) (hn : n ≤ 3072) (g h2 : am_H) (x z : Int) (sr : SR g n xs) (k10 : K10 g 51) (wx : wr x = x) (wz : wr z = z) (e : rn m_X12_isClean 0 [.ref 51] [] g = some (.inl (some (.int (mI z))), h2)) (k2 : K10 h2 51) (o : OUT h2) (f : fZ h2 51 0 = x) (q : x = 0 → gJ h2 74 0 = if z = 0 then 0 else 1) (v6 v7 v8 : Value) : ∃ a b c, rn m_L_law 2162 (LL i v6 v7 v8) [.int (mI x)] g = rn m_L_law 2383 (LL i a b c) [] h2 := by
  refine ⟨.int (mI x), .int (mI z), v8, ?_⟩
  refine (b_L_law_2162 k10).trans ?_
  rw [e, cl_v]
  exact (b_L_law_2168 wx wz k2 o.1.2 o.1.1 (fun _ _ => by decide)).trans (tail_ite f q)
theorem BL_drift (sr : SR h n xs) (hi : 0 ≤ i ∧ i + 5 < n) (hn : n ≤ 3072) (v6 v7 v8 : Value) : rn m_L_law 2208 (LL i v6 v7 v8) [] h = cl m_L_law 2213 (LL i v6 v7 v8) [] (rn m_L_drift 0 [.ref 2, .ref 74, am_J] [] h) := by
  exact b_L_law_2208
theorem BM_drift (hi : 0 ≤ i ∧ i + 5 < n) (hn : n ≤ 3072) (g h2 : am_H) (x z : Int) (sr : SR g n xs) (k10 : K10 g 51) (wx : wr x = x) (wz : wr z = z) (e : rn m_X12_drift 0 [.ref 51, am_J, am_J] [] g = some (.inl (some (.int (mI z))), h2)) (k2 : K10 h2 51) (o : OUT h2) (f : fZ h2 51 0 = x) (q : x = 0 → gJ h2 74 0 = z) (v6 v7 v8 : Value) : ∃ a b c, rn m_L_law 2213 (LL i v6 v7 v8) [.int (mI x)] g = rn m_L_law 2383 (LL i a b c) [] h2 := by
  refine ⟨.int (mI x), .int (mI z), v8, ?_⟩
  refine (b_L_law_2213 k10).trans ?_
  rw [e, cl_v]
  exact (b_L_law_2219 wx wz k2 o.1.2 o.1.1 (fun _ _ => by decide)).trans (tail_ite f q)
theorem BL_meanBits (sr : SR h n xs) (hi : 0 ≤ i ∧ i + 5 < n) (hn : n ≤ 3072) (v6 v7 v8 : Value) : rn m_L_law 2252 (LL i v6 v7 v8) [] h = cl m_L_law 2258 (LL i v6 v7 v8) [] (rn m_L_meanBits 0 [.ref 2, .ref 75, am_J] [] h) := by
  exact b_L_law_2252
theorem BM_meanBits (hi : 0 ≤ i ∧ i + 5 < n) (hn : n ≤ 3072) (g h2 : am_H) {x : Int} {z : UInt64} (sr : SR g n xs) (k10 : K10 g 51) (wx : wr x = x) (e : rn m_X12_meanBits 0 [.ref 51, am_J, am_J] [] g = some (.inl (some (.double z)), h2)) (k2 : K10 h2 51) (o : OUT h2) (f : fZ h2 51 0 = x) (q : x = 0 → gDD h2 75 0 = z ∧ wr ((Op.cmpValue (FP.dcmp z z) .l).toInt) = 0) (v6 v7 v8 : Value) : ∃ a b c, rn m_L_law 2258 (LL i v6 v7 v8) [.int (mI x)] g = rn m_L_law 2383 (LL i a b c) [] h2 := by
  refine ⟨.int (mI x), .double z, am_J, ?_⟩
  refine (b_L_law_2258 k10).trans ?_
  rw [e, cl_v]
  exact (b_L_law_2264 wx k2 o.2.2 o.2.1 (fun _ _ => by decide)).trans (tail_dbl f (fun e0 => by rw [(q e0).1]; exact (q e0).2))
theorem BL_cleanShare (sr : SR h n xs) (hi : 0 ≤ i ∧ i + 5 < n) (hn : n ≤ 3072) (v6 v7 v8 : Value) : rn m_L_law 2317 (LL i v6 v7 v8) [] h = cl m_L_law 2323 (LL i v6 v7 v8) [] (rn m_L_cleanShare 0 [.ref 2, .ref 75, am_J] [] h) := by
  exact b_L_law_2317
theorem BM_cleanShare (hi : 0 ≤ i ∧ i + 5 < n) (hn : n ≤ 3072) (g h2 : am_H) {x : Int} {z : UInt32} (sr : SR g n xs) (k10 : K10 g 51) (wx : wr x = x) (e : rn m_X12_cleanShare 0 [.ref 51] [] g = some (.inl (some (.float z)), h2)) (k2 : K10 h2 51) (o : OUT h2) (f : fZ h2 51 0 = x) (nn : decide (FP.f2d z &&& 0x7fffffffffffffff ≤ 0x7ff0000000000000) = true) (q : x = 0 → gDD h2 75 0 = (FP.f2d z) ∧ wr ((Op.cmpValue (FP.dcmp (FP.f2d z) (FP.f2d z)) .l).toInt) = 0) (v6 v7 v8 : Value) : ∃ a b c, rn m_L_law 2323 (LL i v6 v7 v8) [.int (mI x)] g = rn m_L_law 2383 (LL i a b c) [] h2 := by
  refine ⟨.int (mI x), .float z, v8, ?_⟩
  refine (b_L_law_2323 k10).trans ?_
  rw [e, cl_v]
  exact (b_L_law_2329 wx k2 o.2.2 o.2.1 (fun _ _ => by decide) (fun _ _ => nn)).trans (tail_dbl f (fun e0 => by rw [(q e0).1]; exact (q e0).2))
end LU
