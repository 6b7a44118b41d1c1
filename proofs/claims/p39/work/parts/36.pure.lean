/-! ===== what is computed, in whole numbers ===== -/
def clampv (z : Int) : Int := if z < 0 then 0 else if 255 < z then 255 else z
theorem clampv_0 (z : Int) : 0 ≤ clampv z := by unfold clampv; repeat' split <;> omega
theorem clampv_255 (z : Int) : clampv z ≤ 255 := by unfold clampv; repeat' split <;> omega
theorem wr_clampv (z : Int) : wr (clampv z) = clampv z := by
  have h0 := clampv_0 z
  have h1 := clampv_255 z
  exact wr_id (by omega) (by omega)
def ixs (v : Int) : Int := if v < 0 then 0 else if 15 < v then 15 else v
theorem ixs_b (v : Int) : 0 ≤ ixs v ∧ ixs v ≤ 15 := by unfold ixs; repeat' split <;> omega
theorem wr_ixs (z : Int) : wr (ixs z) = ixs z := by
  have h0 := ixs_b z
  exact wr_id (by omega) (by omega)
def cx (s : Int) : Int := 8 * (s / 4 % 2) + 4 * (s % 2)
def cy (s : Int) : Int := 8 * (s / 8 % 2) + 4 * (s / 2 % 2)
def ip (k : Int) : Int := 16 * (k / 4 % 4) + k % 4
def sq (x y : Int) : Int := 4 * (2 * (y / 8 % 2) + x / 8 % 2) + (2 * (y / 4 % 2) + x / 4 % 2)
theorem wr_cx (z : Int) : wr (cx z) = cx z := by unfold cx; exact wr_id (by omega) (by omega)
theorem wr_cy (z : Int) : wr (cy z) = cy z := by unfold cy; exact wr_id (by omega) (by omega)
theorem wr_ip (z : Int) : wr (ip z) = ip z := by unfold ip; exact wr_id (by omega) (by omega)
theorem wr_sq (x y : Int) : wr (sq x y) = sq x y := by unfold sq; exact wr_id (by omega) (by omega)
theorem cx_b (s : Int) : cx s = 0 ∨ cx s = 4 ∨ cx s = 8 ∨ cx s = 12 := by unfold cx; omega
theorem cy_b (s : Int) : cy s = 0 ∨ cy s = 4 ∨ cy s = 8 ∨ cy s = 12 := by unfold cy; omega
theorem ip_b (k : Int) : 0 ≤ ip k ∧ ip k ≤ 51 := by unfold ip; omega
theorem tdv {x y : Int} (h : 0 ≤ x) : Int.tdiv x y = x / y := Int.tdiv_eq_ediv_of_nonneg h
theorem tmd {x y : Int} (h : 0 ≤ x) : Int.tmod x y = x % y := Int.tmod_eq_emod_of_nonneg h
theorem columnOf_ok {x0 x0' : Int} {h : am_H} (w : wr x0 = x0') (g : 0 ≤ x0' ∧ x0' < 16) : rn m_X11_columnOf 0 [.int (mI x0)] [] h = some (.inl (some (.int (mI (cx x0')))), h) := by
  rw [b_X11_columnOf_0 w, tdv g.1, tmd g.1, wr_id (z := x0' / 4) (by omega) (by omega), tmd (by omega)]
  rfl
theorem rowOf_ok {x0 x0' : Int} {h : am_H} (w : wr x0 = x0') (g : 0 ≤ x0' ∧ x0' < 16) : rn m_X11_rowOf 0 [.int (mI x0)] [] h = some (.inl (some (.int (mI (cy x0')))), h) := by
  rw [b_X11_rowOf_0 w, tdv g.1, tdv g.1, wr_id (z := x0' / 2) (by omega) (by omega), tmd (by omega)]
  rw [show 8 * (x0' / 8) + 4 * (x0' / 2 % 2) = cy x0' by unfold cy; omega]
theorem inPicture_ok {x0 x0' : Int} {h : am_H} (w : wr x0 = x0') (g : 0 ≤ x0' ∧ x0' < 16) : rn m_X11_inPicture 0 [.int (mI x0)] [] h = some (.inl (some (.int (mI (ip x0')))), h) := by
  rw [b_X11_inPicture_0 w, tdv g.1, tmd g.1]
  rw [show 16 * (x0' / 4) + x0' % 4 = ip x0' by unfold ip; omega]
theorem startsBlock_ok {x0 x0' : Int} {h : am_H} (w : wr x0 = x0') (g : 0 ≤ x0' ∧ x0' < 16) : rn m_X11_startsBlock 0 [.int (mI x0)] [] h = some (.inl (some (.int (mI (bZ (x0' % 4 = 0))))), h) := by
  rw [b_X11_startsBlock_0 w, tmd g.1, wr_id (z := x0' % 4) (by omega) (by omega)]
  simp only [Decidable.not_not]
theorem squareAt_ok {x0 x1 x0' x1' : Int} {h : am_H} (w0 : wr x0 = x0') (w1 : wr x1 = x1') (g : 0 ≤ x0' ∧ x0' < 16) (g2 : 0 ≤ x1' ∧ x1' < 16) : rn m_X11_squareAt 0 [.int (mI x0), .int (mI x1), am_J] [] h = some (.inl (some (.int (mI (sq x0' x1')))), h) := by
  rw [b_X11_squareAt_0 w0 w1, tdv g.1, tdv g2.1, tmd g.1, tmd g2.1, wr_id (z := x0' % 8) (by omega) (by omega), wr_id (z := x1' % 8) (by omega) (by omega), tdv (by omega), tdv (by omega)]
  rw [show ((4 * ((2 * (x1' / 8)) + (x0' / 8))) + (2 * ((x1' % 8) / 4))) + ((x0' % 8) / 4) = sq x0' x1' by unfold sq; omega]
theorem withinValues_ok {x0 x0' : Int} {h : am_H} (w : wr x0 = x0') : rn m_X11_withinValues 0 [.int (mI x0)] [] h = some (.inl (some (.int (mI (clampv x0')))), h) := by
  rw [b_X11_withinValues_0 w]
  have e : mI (if 0 ≤ x0' then (if x0' ≤ 255 then x0 else 255) else 0) = mI (clampv x0') := by
    unfold clampv
    repeat' split
    all_goals first | rfl | (exfalso; omega) | (rw [← w, mI_wr])
  rw [e]
theorem inside4_ok {x0 x0' : Int} {h : am_H} (w : wr x0 = x0') : rn m_X4_inside 0 [.int (mI x0)] [] h = some (.inl (some (.int (mI (ixs x0')))), h) := by
  rw [b_X4_inside_0 w]
  have e : mI (if 0 ≤ x0' then (if x0' < 16 then x0 else 15) else 0) = mI (ixs x0') := by
    unfold ixs
    repeat' split
    all_goals first | rfl | (exfalso; omega) | (rw [← w, mI_wr])
  rw [e]
