/-! ===== the tables hold: words, methods (printed by program) ===== -/
theorem am_wd {w : Jvm.Cond} (i : Nat) (h : lw_tbl[i]? = some w) (hm : am_mv w = true) : w ∈ am_ok := List.mem_filter.mpr ⟨List.mem_of_getElem? h, hm⟩
theorem am_mk {m pc len : Nat} {ins : Instr} {pl : List Nat} {kz : Int} {c : ByteArray} (hb : am_b m = c) (hd : decode c pc = .ok (ins, len)) (hI : am_okI m pc ins len pl kz) : am_okE m (pc, ins, len, pl, kz) := ⟨hb ▸ hd, hI⟩
theorem am_lt {m n i : Nat} (hn : am_n m = n) (h : i < n) : i < am_n m := hn ▸ h
theorem am_ld {m n i : Nat} (hn : am_d m = n) (h : i ≤ n) : i ≤ am_d m := hn ▸ h
theorem am_w1 {m ix mj : Nat} {ow : String} {y : MethodName} (ho : am_o m = ow) (hy : am_y mj = y) (h : Jvm.Cond.methodLink ow ix y ∈ am_ok) : Jvm.Cond.methodLink (am_o m) ix (am_y mj) ∈ am_ok := by rw [ho, hy]; exact h
theorem am_w2 {m ix mj : Nat} {ow host : String} {y : MethodName} (ho : am_o m = ow) (hy : am_y mj = y) (h : Jvm.Cond.methodLinkNest ow ix y host ∈ am_ok) : ∃ host, Jvm.Cond.methodLinkNest (am_o m) ix (am_y mj) host ∈ am_ok := ⟨host, by rw [ho, hy]; exact h⟩
theorem am_w3 {m ix : Nat} {ow : String} {y : MethodName} (ho : am_o m = ow) (h : Jvm.Cond.methodLink ow ix y ∈ am_ok) : Jvm.Cond.methodLink (am_o m) ix y ∈ am_ok := by rw [ho]; exact h
theorem am_w4 {m ix : Nat} {ow : String} {r nn d : String} (ho : am_o m = ow) (h : Jvm.Cond.fieldLink ow ix r nn d ∈ am_ok) : Jvm.Cond.fieldLink (am_o m) ix r nn d ∈ am_ok := by rw [ho]; exact h
theorem am_w5 {m ix : Nat} {ow : String} {r nn d host : String} (ho : am_o m = ow) (h : Jvm.Cond.fieldLinkNest ow ix r nn d host ∈ am_ok) : ∃ host, Jvm.Cond.fieldLinkNest (am_o m) ix r nn d host ∈ am_ok := ⟨host, by rw [ho]; exact h⟩
theorem am_w6 {m ix : Nat} {ow C : String} (ho : am_o m = ow) (h : Jvm.Cond.classLink ow ix C ∈ am_ok) : Jvm.Cond.classLink (am_o m) ix C ∈ am_ok := by rw [ho]; exact h
theorem am_w7 {m ix : Nat} {ow : String} {v : Int32} (ho : am_o m = ow) (h : Jvm.Cond.constant ow ix v ∈ am_ok) : Jvm.Cond.constant (am_o m) ix v ∈ am_ok := by rw [ho]; exact h
theorem am_w8 {m ix : Nat} {ow : String} {v : Int64} (ho : am_o m = ow) (h : Jvm.Cond.constantLong ow ix v ∈ am_ok) : Jvm.Cond.constantLong (am_o m) ix v ∈ am_ok := by rw [ho]; exact h
theorem am_w9 {m ix : Nat} {ow : String} {v : UInt64} (ho : am_o m = ow) (h : Jvm.Cond.constantDouble ow ix v ∈ am_ok) : Jvm.Cond.constantDouble (am_o m) ix v ∈ am_ok := by rw [ho]; exact h
theorem am_hOK_nil {m pc : Nat} (h : am_hl m = []) : am_hOK m pc := by
  intro x pc' i hx
  unfold am_hd at hx
  rw [h] at hx
  simp at hx
theorem am_ats {ow cls : String} {ic jx : Nat} {rx : ByteArray} {names : List String} (h : (vx_atX ow ic cls jx rx names).all (fun w => decide (w ∈ lw_tbl) && am_mv w && vx_ot w) = true) : ∀ w ∈ vx_atX ow ic cls jx rx names, w ∈ am_ok ∧ vx_ot w = true := by
  intro w hw
  have h1 := List.all_eq_true.mp h w hw
  simp only [Bool.and_eq_true, decide_eq_true_eq] at h1
  exact ⟨List.mem_filter.mpr h1.1, h1.2⟩
theorem bb_L_at : am_b m_L_at = cL_at := rfl
theorem nn_L_at : am_n m_L_at = 2 := rfl
theorem oo_L_at : am_o m_L_at = RL := rfl
theorem yy_L_at : am_y m_L_at = yL_at := rfl
theorem dd_L_at : am_d m_L_at = 1 := rfl
theorem hl_L_at : am_hl m_L_at = [] := rfl
theorem hh_L_at : am_h m_L_at = [] := rfl
theorem bb_L_some : am_b m_L_some = cL_some := rfl
theorem nn_L_some : am_n m_L_some = 3 := rfl
theorem oo_L_some : am_o m_L_some = RL := rfl
theorem yy_L_some : am_y m_L_some = yL_some := rfl
theorem dd_L_some : am_d m_L_some = 1 := rfl
theorem hl_L_some : am_hl m_L_some = [] := rfl
theorem hh_L_some : am_h m_L_some = [] := rfl
theorem bb_X0_filledWith : am_b m_X0_filledWith = cX0_filledWith := rfl
theorem nn_X0_filledWith : am_n m_X0_filledWith = 2 := rfl
theorem oo_X0_filledWith : am_o m_X0_filledWith = RX0 := rfl
theorem yy_X0_filledWith : am_y m_X0_filledWith = yX0_filledWith := rfl
theorem dd_X0_filledWith : am_d m_X0_filledWith = 1 := rfl
theorem hl_X0_filledWith : am_hl m_X0_filledWith = [] := rfl
theorem hh_X0_filledWith : am_h m_X0_filledWith = [] := rfl
theorem bb_X0_isThere : am_b m_X0_isThere = cX0_isThere := rfl
theorem nn_X0_isThere : am_n m_X0_isThere = 1 := rfl
theorem oo_X0_isThere : am_o m_X0_isThere = RX0 := rfl
theorem yy_X0_isThere : am_y m_X0_isThere = yX0_isThere := rfl
theorem dd_X0_isThere : am_d m_X0_isThere = 1 := rfl
theorem hl_X0_isThere : am_hl m_X0_isThere = [] := rfl
theorem hh_X0_isThere : am_h m_X0_isThere = [] := rfl
theorem bb_X0_put : am_b m_X0_put = cX0_put := rfl
theorem nn_X0_put : am_n m_X0_put = 3 := rfl
theorem oo_X0_put : am_o m_X0_put = RX0 := rfl
theorem yy_X0_put : am_y m_X0_put = yX0_put := rfl
theorem dd_X0_put : am_d m_X0_put = 1 := rfl
theorem hl_X0_put : am_hl m_X0_put = [] := rfl
theorem hh_X0_put : am_h m_X0_put = [] := rfl
theorem bb_X10_giveByte : am_b m_X10_giveByte = cX10_giveByte := rfl
theorem nn_X10_giveByte : am_n m_X10_giveByte = 1 := rfl
theorem oo_X10_giveByte : am_o m_X10_giveByte = RX10 := rfl
theorem yy_X10_giveByte : am_y m_X10_giveByte = yX10_giveByte := rfl
theorem dd_X10_giveByte : am_d m_X10_giveByte = 1 := rfl
theorem hl_X10_giveByte : am_hl m_X10_giveByte = [] := rfl
theorem hh_X10_giveByte : am_h m_X10_giveByte = [] := rfl
theorem bb_X11_columnOf : am_b m_X11_columnOf = cX11_columnOf := rfl
theorem nn_X11_columnOf : am_n m_X11_columnOf = 1 := rfl
theorem oo_X11_columnOf : am_o m_X11_columnOf = RX11 := rfl
theorem yy_X11_columnOf : am_y m_X11_columnOf = yX11_columnOf := rfl
theorem dd_X11_columnOf : am_d m_X11_columnOf = 1 := rfl
theorem hl_X11_columnOf : am_hl m_X11_columnOf = [] := rfl
theorem hh_X11_columnOf : am_h m_X11_columnOf = [] := rfl
theorem bb_X11_inPicture : am_b m_X11_inPicture = cX11_inPicture := rfl
theorem nn_X11_inPicture : am_n m_X11_inPicture = 1 := rfl
theorem oo_X11_inPicture : am_o m_X11_inPicture = RX11 := rfl
theorem yy_X11_inPicture : am_y m_X11_inPicture = yX11_inPicture := rfl
theorem dd_X11_inPicture : am_d m_X11_inPicture = 1 := rfl
theorem hl_X11_inPicture : am_hl m_X11_inPicture = [] := rfl
theorem hh_X11_inPicture : am_h m_X11_inPicture = [] := rfl
theorem bb_X11_isKeptPlace : am_b m_X11_isKeptPlace = cX11_isKeptPlace := rfl
theorem nn_X11_isKeptPlace : am_n m_X11_isKeptPlace = 2 := rfl
theorem oo_X11_isKeptPlace : am_o m_X11_isKeptPlace = RX11 := rfl
theorem yy_X11_isKeptPlace : am_y m_X11_isKeptPlace = yX11_isKeptPlace := rfl
theorem dd_X11_isKeptPlace : am_d m_X11_isKeptPlace = 1 := rfl
theorem hl_X11_isKeptPlace : am_hl m_X11_isKeptPlace = [] := rfl
theorem hh_X11_isKeptPlace : am_h m_X11_isKeptPlace = [] := rfl
theorem bb_X11_isOnCanvas : am_b m_X11_isOnCanvas = cX11_isOnCanvas := rfl
theorem nn_X11_isOnCanvas : am_n m_X11_isOnCanvas = 2 := rfl
theorem oo_X11_isOnCanvas : am_o m_X11_isOnCanvas = RX11 := rfl
theorem yy_X11_isOnCanvas : am_y m_X11_isOnCanvas = yX11_isOnCanvas := rfl
theorem dd_X11_isOnCanvas : am_d m_X11_isOnCanvas = 1 := rfl
theorem hl_X11_isOnCanvas : am_hl m_X11_isOnCanvas = [] := rfl
theorem hh_X11_isOnCanvas : am_h m_X11_isOnCanvas = [] := rfl
theorem bb_X11_isValue : am_b m_X11_isValue = cX11_isValue := rfl
theorem nn_X11_isValue : am_n m_X11_isValue = 1 := rfl
theorem oo_X11_isValue : am_o m_X11_isValue = RX11 := rfl
theorem yy_X11_isValue : am_y m_X11_isValue = yX11_isValue := rfl
theorem dd_X11_isValue : am_d m_X11_isValue = 1 := rfl
theorem hl_X11_isValue : am_hl m_X11_isValue = [] := rfl
theorem hh_X11_isValue : am_h m_X11_isValue = [] := rfl
theorem bb_X11_kept : am_b m_X11_kept = cX11_kept := rfl
theorem nn_X11_kept : am_n m_X11_kept = 1 := rfl
theorem oo_X11_kept : am_o m_X11_kept = RX11 := rfl
theorem yy_X11_kept : am_y m_X11_kept = yX11_kept := rfl
theorem dd_X11_kept : am_d m_X11_kept = 1 := rfl
theorem hl_X11_kept : am_hl m_X11_kept = [] := rfl
theorem hh_X11_kept : am_h m_X11_kept = [] := rfl
theorem bb_X11_pictures : am_b m_X11_pictures = cX11_pictures := rfl
theorem nn_X11_pictures : am_n m_X11_pictures = 1 := rfl
theorem oo_X11_pictures : am_o m_X11_pictures = RX11 := rfl
theorem yy_X11_pictures : am_y m_X11_pictures = yX11_pictures := rfl
theorem dd_X11_pictures : am_d m_X11_pictures = 1 := rfl
theorem hl_X11_pictures : am_hl m_X11_pictures = [] := rfl
theorem hh_X11_pictures : am_h m_X11_pictures = [] := rfl
theorem bb_X11_placeOf : am_b m_X11_placeOf = cX11_placeOf := rfl
theorem nn_X11_placeOf : am_n m_X11_placeOf = 2 := rfl
theorem oo_X11_placeOf : am_o m_X11_placeOf = RX11 := rfl
theorem yy_X11_placeOf : am_y m_X11_placeOf = yX11_placeOf := rfl
theorem dd_X11_placeOf : am_d m_X11_placeOf = 1 := rfl
theorem hl_X11_placeOf : am_hl m_X11_placeOf = [] := rfl
theorem hh_X11_placeOf : am_h m_X11_placeOf = [] := rfl
theorem bb_X11_rowOf : am_b m_X11_rowOf = cX11_rowOf := rfl
theorem nn_X11_rowOf : am_n m_X11_rowOf = 1 := rfl
theorem oo_X11_rowOf : am_o m_X11_rowOf = RX11 := rfl
theorem yy_X11_rowOf : am_y m_X11_rowOf = yX11_rowOf := rfl
theorem dd_X11_rowOf : am_d m_X11_rowOf = 1 := rfl
theorem hl_X11_rowOf : am_hl m_X11_rowOf = [] := rfl
theorem hh_X11_rowOf : am_h m_X11_rowOf = [] := rfl
theorem bb_X11_squareAt : am_b m_X11_squareAt = cX11_squareAt := rfl
theorem nn_X11_squareAt : am_n m_X11_squareAt = 3 := rfl
theorem oo_X11_squareAt : am_o m_X11_squareAt = RX11 := rfl
theorem yy_X11_squareAt : am_y m_X11_squareAt = yX11_squareAt := rfl
theorem dd_X11_squareAt : am_d m_X11_squareAt = 1 := rfl
theorem hl_X11_squareAt : am_hl m_X11_squareAt = [] := rfl
theorem hh_X11_squareAt : am_h m_X11_squareAt = [] := rfl
theorem bb_X11_startsBlock : am_b m_X11_startsBlock = cX11_startsBlock := rfl
theorem nn_X11_startsBlock : am_n m_X11_startsBlock = 1 := rfl
theorem oo_X11_startsBlock : am_o m_X11_startsBlock = RX11 := rfl
theorem yy_X11_startsBlock : am_y m_X11_startsBlock = yX11_startsBlock := rfl
theorem dd_X11_startsBlock : am_d m_X11_startsBlock = 1 := rfl
theorem hl_X11_startsBlock : am_hl m_X11_startsBlock = [] := rfl
theorem hh_X11_startsBlock : am_h m_X11_startsBlock = [] := rfl
theorem bb_X11_withinValues : am_b m_X11_withinValues = cX11_withinValues := rfl
theorem nn_X11_withinValues : am_n m_X11_withinValues = 1 := rfl
theorem oo_X11_withinValues : am_o m_X11_withinValues = RX11 := rfl
theorem yy_X11_withinValues : am_y m_X11_withinValues = yX11_withinValues := rfl
theorem dd_X11_withinValues : am_d m_X11_withinValues = 1 := rfl
theorem hl_X11_withinValues : am_hl m_X11_withinValues = [] := rfl
theorem hh_X11_withinValues : am_h m_X11_withinValues = [] := rfl
theorem bb_X4_inside : am_b m_X4_inside = cX4_inside := rfl
theorem nn_X4_inside : am_n m_X4_inside = 1 := rfl
theorem oo_X4_inside : am_o m_X4_inside = RX4 := rfl
theorem yy_X4_inside : am_y m_X4_inside = yX4_inside := rfl
theorem dd_X4_inside : am_d m_X4_inside = 1 := rfl
theorem hl_X4_inside : am_hl m_X4_inside = [] := rfl
theorem hh_X4_inside : am_h m_X4_inside = [] := rfl
theorem bb_X4_placeFrom : am_b m_X4_placeFrom = cX4_placeFrom := rfl
theorem nn_X4_placeFrom : am_n m_X4_placeFrom = 3 := rfl
theorem oo_X4_placeFrom : am_o m_X4_placeFrom = RX4 := rfl
theorem yy_X4_placeFrom : am_y m_X4_placeFrom = yX4_placeFrom := rfl
theorem dd_X4_placeFrom : am_d m_X4_placeFrom = 1 := rfl
theorem hl_X4_placeFrom : am_hl m_X4_placeFrom = [] := rfl
theorem hh_X4_placeFrom : am_h m_X4_placeFrom = [] := rfl
theorem bb_X5_isOfBorder : am_b m_X5_isOfBorder = cX5_isOfBorder := rfl
theorem nn_X5_isOfBorder : am_n m_X5_isOfBorder = 1 := rfl
theorem oo_X5_isOfBorder : am_o m_X5_isOfBorder = RX5 := rfl
theorem yy_X5_isOfBorder : am_y m_X5_isOfBorder = yX5_isOfBorder := rfl
theorem dd_X5_isOfBorder : am_d m_X5_isOfBorder = 1 := rfl
theorem hl_X5_isOfBorder : am_hl m_X5_isOfBorder = [] := rfl
theorem hh_X5_isOfBorder : am_h m_X5_isOfBorder = [] := rfl
theorem bb_X5_lay : am_b m_X5_lay = cX5_lay := rfl
theorem nn_X5_lay : am_n m_X5_lay = 5 := rfl
theorem oo_X5_lay : am_o m_X5_lay = RX5 := rfl
theorem yy_X5_lay : am_y m_X5_lay = yX5_lay := rfl
theorem dd_X5_lay : am_d m_X5_lay = 1 := rfl
theorem hl_X5_lay : am_hl m_X5_lay = [] := rfl
theorem hh_X5_lay : am_h m_X5_lay = [] := rfl
theorem bb_X5_usesFirst : am_b m_X5_usesFirst = cX5_usesFirst := rfl
theorem nn_X5_usesFirst : am_n m_X5_usesFirst = 1 := rfl
theorem oo_X5_usesFirst : am_o m_X5_usesFirst = RX5 := rfl
theorem yy_X5_usesFirst : am_y m_X5_usesFirst = yX5_usesFirst := rfl
theorem dd_X5_usesFirst : am_d m_X5_usesFirst = 1 := rfl
theorem hl_X5_usesFirst : am_hl m_X5_usesFirst = [] := rfl
theorem hh_X5_usesFirst : am_h m_X5_usesFirst = [] := rfl
theorem bb_X5_usesSecond : am_b m_X5_usesSecond = cX5_usesSecond := rfl
theorem nn_X5_usesSecond : am_n m_X5_usesSecond = 1 := rfl
theorem oo_X5_usesSecond : am_o m_X5_usesSecond = RX5 := rfl
theorem yy_X5_usesSecond : am_y m_X5_usesSecond = yX5_usesSecond := rfl
theorem dd_X5_usesSecond : am_d m_X5_usesSecond = 1 := rfl
theorem hl_X5_usesSecond : am_hl m_X5_usesSecond = [] := rfl
theorem hh_X5_usesSecond : am_h m_X5_usesSecond = [] := rfl
theorem bb_X6_bits : am_b m_X6_bits = cX6_bits := rfl
theorem nn_X6_bits : am_n m_X6_bits = 1 := rfl
theorem oo_X6_bits : am_o m_X6_bits = RX6 := rfl
theorem yy_X6_bits : am_y m_X6_bits = yX6_bits := rfl
theorem dd_X6_bits : am_d m_X6_bits = 1 := rfl
theorem hl_X6_bits : am_hl m_X6_bits = [] := rfl
theorem hh_X6_bits : am_h m_X6_bits = [] := rfl
theorem bb_X6_describe : am_b m_X6_describe = cX6_describe := rfl
theorem nn_X6_describe : am_n m_X6_describe = 4 := rfl
theorem oo_X6_describe : am_o m_X6_describe = RX6 := rfl
theorem yy_X6_describe : am_y m_X6_describe = yX6_describe := rfl
theorem dd_X6_describe : am_d m_X6_describe = 1 := rfl
theorem hl_X6_describe : am_hl m_X6_describe = [] := rfl
theorem hh_X6_describe : am_h m_X6_describe = [] := rfl
theorem bb_X6_has : am_b m_X6_has = cX6_has := rfl
theorem nn_X6_has : am_n m_X6_has = 2 := rfl
theorem oo_X6_has : am_o m_X6_has = RX6 := rfl
theorem yy_X6_has : am_y m_X6_has = yX6_has := rfl
theorem dd_X6_has : am_d m_X6_has = 1 := rfl
theorem hl_X6_has : am_hl m_X6_has = [] := rfl
theorem hh_X6_has : am_h m_X6_has = [] := rfl
theorem bb_X6_leansOnFirst : am_b m_X6_leansOnFirst = cX6_leansOnFirst := rfl
theorem nn_X6_leansOnFirst : am_n m_X6_leansOnFirst = 1 := rfl
theorem oo_X6_leansOnFirst : am_o m_X6_leansOnFirst = RX6 := rfl
theorem yy_X6_leansOnFirst : am_y m_X6_leansOnFirst = yX6_leansOnFirst := rfl
theorem dd_X6_leansOnFirst : am_d m_X6_leansOnFirst = 1 := rfl
theorem hl_X6_leansOnFirst : am_hl m_X6_leansOnFirst = [] := rfl
theorem hh_X6_leansOnFirst : am_h m_X6_leansOnFirst = [] := rfl
theorem bb_X6_leansOnSecond : am_b m_X6_leansOnSecond = cX6_leansOnSecond := rfl
theorem nn_X6_leansOnSecond : am_n m_X6_leansOnSecond = 1 := rfl
theorem oo_X6_leansOnSecond : am_o m_X6_leansOnSecond = RX6 := rfl
theorem yy_X6_leansOnSecond : am_y m_X6_leansOnSecond = yX6_leansOnSecond := rfl
theorem dd_X6_leansOnSecond : am_d m_X6_leansOnSecond = 1 := rfl
theorem hl_X6_leansOnSecond : am_hl m_X6_leansOnSecond = [] := rfl
theorem hh_X6_leansOnSecond : am_h m_X6_leansOnSecond = [] := rfl
theorem bb_X6_sliceOf : am_b m_X6_sliceOf = cX6_sliceOf := rfl
theorem nn_X6_sliceOf : am_n m_X6_sliceOf = 2 := rfl
theorem oo_X6_sliceOf : am_o m_X6_sliceOf = RX6 := rfl
theorem yy_X6_sliceOf : am_y m_X6_sliceOf = yX6_sliceOf := rfl
theorem dd_X6_sliceOf : am_d m_X6_sliceOf = 1 := rfl
theorem hl_X6_sliceOf : am_hl m_X6_sliceOf = [] := rfl
theorem hh_X6_sliceOf : am_h m_X6_sliceOf = [] := rfl
theorem bb_X6_useSettings : am_b m_X6_useSettings = cX6_useSettings := rfl
theorem nn_X6_useSettings : am_n m_X6_useSettings = 5 := rfl
theorem oo_X6_useSettings : am_o m_X6_useSettings = RX6 := rfl
theorem yy_X6_useSettings : am_y m_X6_useSettings = yX6_useSettings := rfl
theorem dd_X6_useSettings : am_d m_X6_useSettings = 1 := rfl
theorem hl_X6_useSettings : am_hl m_X6_useSettings = [] := rfl
theorem hh_X6_useSettings : am_h m_X6_useSettings = [] := rfl
theorem bb_X7_copy : am_b m_X7_copy = cX7_copy := rfl
theorem nn_X7_copy : am_n m_X7_copy = 3 := rfl
theorem oo_X7_copy : am_o m_X7_copy = RX7 := rfl
theorem yy_X7_copy : am_y m_X7_copy = yX7_copy := rfl
theorem dd_X7_copy : am_d m_X7_copy = 1 := rfl
theorem hl_X7_copy : am_hl m_X7_copy = [] := rfl
theorem hh_X7_copy : am_h m_X7_copy = [] := rfl
theorem bb_X7_get : am_b m_X7_get = cX7_get := rfl
theorem nn_X7_get : am_n m_X7_get = 2 := rfl
theorem oo_X7_get : am_o m_X7_get = RX7 := rfl
theorem yy_X7_get : am_y m_X7_get = yX7_get := rfl
theorem dd_X7_get : am_d m_X7_get = 1 := rfl
theorem hl_X7_get : am_hl m_X7_get = [] := rfl
theorem hh_X7_get : am_h m_X7_get = [] := rfl
theorem bb_X7_put : am_b m_X7_put = cX7_put := rfl
theorem nn_X7_put : am_n m_X7_put = 3 := rfl
theorem oo_X7_put : am_o m_X7_put = RX7 := rfl
theorem yy_X7_put : am_y m_X7_put = yX7_put := rfl
theorem dd_X7_put : am_d m_X7_put = 1 := rfl
theorem hl_X7_put : am_hl m_X7_put = [] := rfl
theorem hh_X7_put : am_h m_X7_put = [] := rfl
theorem bb_X7_set : am_b m_X7_set = cX7_set := rfl
theorem nn_X7_set : am_n m_X7_set = 3 := rfl
theorem oo_X7_set : am_o m_X7_set = RX7 := rfl
theorem yy_X7_set : am_y m_X7_set = yX7_set := rfl
theorem dd_X7_set : am_d m_X7_set = 1 := rfl
theorem hl_X7_set : am_hl m_X7_set = [] := rfl
theorem hh_X7_set : am_h m_X7_set = [] := rfl
theorem bb_X7_shift : am_b m_X7_shift = cX7_shift := rfl
theorem nn_X7_shift : am_n m_X7_shift = 3 := rfl
theorem oo_X7_shift : am_o m_X7_shift = RX7 := rfl
theorem yy_X7_shift : am_y m_X7_shift = yX7_shift := rfl
theorem dd_X7_shift : am_d m_X7_shift = 1 := rfl
theorem hl_X7_shift : am_hl m_X7_shift = [] := rfl
theorem hh_X7_shift : am_h m_X7_shift = [] := rfl
theorem bb_X8_bits : am_b m_X8_bits = cX8_bits := rfl
theorem nn_X8_bits : am_n m_X8_bits = 1 := rfl
theorem oo_X8_bits : am_o m_X8_bits = RX8 := rfl
theorem yy_X8_bits : am_y m_X8_bits = yX8_bits := rfl
theorem dd_X8_bits : am_d m_X8_bits = 1 := rfl
theorem hl_X8_bits : am_hl m_X8_bits = [] := rfl
theorem hh_X8_bits : am_h m_X8_bits = [] := rfl
theorem bb_X9_down : am_b m_X9_down = cX9_down := rfl
theorem nn_X9_down : am_n m_X9_down = 1 := rfl
theorem oo_X9_down : am_o m_X9_down = RX9 := rfl
theorem yy_X9_down : am_y m_X9_down = yX9_down := rfl
theorem dd_X9_down : am_d m_X9_down = 1 := rfl
theorem hl_X9_down : am_hl m_X9_down = [] := rfl
theorem hh_X9_down : am_h m_X9_down = [] := rfl
theorem bb_X9_of : am_b m_X9_of = cX9_of := rfl
theorem nn_X9_of : am_n m_X9_of = 2 := rfl
theorem oo_X9_of : am_o m_X9_of = RX9 := rfl
theorem yy_X9_of : am_y m_X9_of = yX9_of := rfl
theorem dd_X9_of : am_d m_X9_of = 1 := rfl
theorem hl_X9_of : am_hl m_X9_of = [] := rfl
theorem hh_X9_of : am_h m_X9_of = [] := rfl
theorem bb_X9_right : am_b m_X9_right = cX9_right := rfl
theorem nn_X9_right : am_n m_X9_right = 1 := rfl
theorem oo_X9_right : am_o m_X9_right = RX9 := rfl
theorem yy_X9_right : am_y m_X9_right = yX9_right := rfl
theorem dd_X9_right : am_d m_X9_right = 1 := rfl
theorem hl_X9_right : am_hl m_X9_right = [] := rfl
theorem hh_X9_right : am_h m_X9_right = [] := rfl
theorem bb_X0_hasRoomFor : am_b m_X0_hasRoomFor = cX0_hasRoomFor := rfl
theorem nn_X0_hasRoomFor : am_n m_X0_hasRoomFor = 2 := rfl
theorem oo_X0_hasRoomFor : am_o m_X0_hasRoomFor = RX0 := rfl
theorem yy_X0_hasRoomFor : am_y m_X0_hasRoomFor = yX0_hasRoomFor := rfl
theorem dd_X0_hasRoomFor : am_d m_X0_hasRoomFor = 2 := rfl
theorem hl_X0_hasRoomFor : am_hl m_X0_hasRoomFor = [] := rfl
theorem hh_X0_hasRoomFor : am_h m_X0_hasRoomFor = [] := rfl
theorem bb_X0_init : am_b m_X0_init = cX0_init := rfl
theorem nn_X0_init : am_n m_X0_init = 1 := rfl
theorem oo_X0_init : am_o m_X0_init = RX0 := rfl
theorem yy_X0_init : am_y m_X0_init = yX0_init := rfl
theorem dd_X0_init : am_d m_X0_init = 2 := rfl
theorem hl_X0_init : am_hl m_X0_init = [] := rfl
theorem hh_X0_init : am_h m_X0_init = [] := rfl
theorem bb_X0_steer : am_b m_X0_steer = cX0_steer := rfl
theorem nn_X0_steer : am_n m_X0_steer = 2 := rfl
theorem oo_X0_steer : am_o m_X0_steer = RX0 := rfl
theorem yy_X0_steer : am_y m_X0_steer = yX0_steer := rfl
theorem dd_X0_steer : am_d m_X0_steer = 2 := rfl
theorem hl_X0_steer : am_hl m_X0_steer = [] := rfl
theorem hh_X0_steer : am_h m_X0_steer = [] := rfl
theorem bb_X0_take : am_b m_X0_take = cX0_take := rfl
theorem nn_X0_take : am_n m_X0_take = 2 := rfl
theorem oo_X0_take : am_o m_X0_take = RX0 := rfl
theorem yy_X0_take : am_y m_X0_take = yX0_take := rfl
theorem dd_X0_take : am_d m_X0_take = 2 := rfl
theorem hl_X0_take : am_hl m_X0_take = [] := rfl
theorem hh_X0_take : am_h m_X0_take = [] := rfl
theorem bb_X10_end : am_b m_X10_end = cX10_end := rfl
theorem nn_X10_end : am_n m_X10_end = 2 := rfl
theorem oo_X10_end : am_o m_X10_end = RX10 := rfl
theorem yy_X10_end : am_y m_X10_end = yX10_end := rfl
theorem dd_X10_end : am_d m_X10_end = 2 := rfl
theorem hl_X10_end : am_hl m_X10_end = [] := rfl
theorem hh_X10_end : am_h m_X10_end = [] := rfl
theorem bb_X10_init : am_b m_X10_init = cX10_init := rfl
theorem nn_X10_init : am_n m_X10_init = 1 := rfl
theorem oo_X10_init : am_o m_X10_init = RX10 := rfl
theorem yy_X10_init : am_y m_X10_init = yX10_init := rfl
theorem dd_X10_init : am_d m_X10_init = 2 := rfl
theorem hl_X10_init : am_hl m_X10_init = [] := rfl
theorem hh_X10_init : am_h m_X10_init = [] := rfl
theorem bb_X10_narrow : am_b m_X10_narrow = cX10_narrow := rfl
theorem nn_X10_narrow : am_n m_X10_narrow = 6 := rfl
theorem oo_X10_narrow : am_o m_X10_narrow = RX10 := rfl
theorem yy_X10_narrow : am_y m_X10_narrow = yX10_narrow := rfl
theorem dd_X10_narrow : am_d m_X10_narrow = 2 := rfl
theorem hl_X10_narrow : am_hl m_X10_narrow = [] := rfl
theorem hh_X10_narrow : am_h m_X10_narrow = [] := rfl
theorem bb_X10_start : am_b m_X10_start = cX10_start := rfl
theorem nn_X10_start : am_n m_X10_start = 1 := rfl
theorem oo_X10_start : am_o m_X10_start = RX10 := rfl
theorem yy_X10_start : am_y m_X10_start = yX10_start := rfl
theorem dd_X10_start : am_d m_X10_start = 2 := rfl
theorem hl_X10_start : am_hl m_X10_start = [] := rfl
theorem hh_X10_start : am_h m_X10_start = [] := rfl
theorem bb_X10_written : am_b m_X10_written = cX10_written := rfl
theorem nn_X10_written : am_n m_X10_written = 2 := rfl
theorem oo_X10_written : am_o m_X10_written = RX10 := rfl
theorem yy_X10_written : am_y m_X10_written = yX10_written := rfl
theorem dd_X10_written : am_d m_X10_written = 2 := rfl
theorem hl_X10_written : am_hl m_X10_written = [] := rfl
theorem hh_X10_written : am_h m_X10_written = [] := rfl
theorem bb_X1_bordering : am_b m_X1_bordering = cX1_bordering := rfl
theorem nn_X1_bordering : am_n m_X1_bordering = 4 := rfl
theorem oo_X1_bordering : am_o m_X1_bordering = RX1 := rfl
theorem yy_X1_bordering : am_y m_X1_bordering = yX1_bordering := rfl
theorem dd_X1_bordering : am_d m_X1_bordering = 2 := rfl
theorem hl_X1_bordering : am_hl m_X1_bordering = [] := rfl
theorem hh_X1_bordering : am_h m_X1_bordering = [] := rfl
theorem bb_X1_fromBorder : am_b m_X1_fromBorder = cX1_fromBorder := rfl
theorem nn_X1_fromBorder : am_n m_X1_fromBorder = 4 := rfl
theorem oo_X1_fromBorder : am_o m_X1_fromBorder = RX1 := rfl
theorem yy_X1_fromBorder : am_y m_X1_fromBorder = yX1_fromBorder := rfl
theorem dd_X1_fromBorder : am_d m_X1_fromBorder = 2 := rfl
theorem hl_X1_fromBorder : am_hl m_X1_fromBorder = [] := rfl
theorem hh_X1_fromBorder : am_h m_X1_fromBorder = [] := rfl
theorem bb_X1_guessError : am_b m_X1_guessError = cX1_guessError := rfl
theorem nn_X1_guessError : am_n m_X1_guessError = 7 := rfl
theorem oo_X1_guessError : am_o m_X1_guessError = RX1 := rfl
theorem yy_X1_guessError : am_y m_X1_guessError = yX1_guessError := rfl
theorem dd_X1_guessError : am_d m_X1_guessError = 2 := rfl
theorem hl_X1_guessError : am_hl m_X1_guessError = [] := rfl
theorem hh_X1_guessError : am_h m_X1_guessError = [] := rfl
theorem bb_X1_levelOf : am_b m_X1_levelOf = cX1_levelOf := rfl
theorem nn_X1_levelOf : am_n m_X1_levelOf = 3 := rfl
theorem oo_X1_levelOf : am_o m_X1_levelOf = RX1 := rfl
theorem yy_X1_levelOf : am_y m_X1_levelOf = yX1_levelOf := rfl
theorem dd_X1_levelOf : am_d m_X1_levelOf = 2 := rfl
theorem hl_X1_levelOf : am_hl m_X1_levelOf = [] := rfl
theorem hh_X1_levelOf : am_h m_X1_levelOf = [] := rfl
theorem bb_X1_smoothPair : am_b m_X1_smoothPair = cX1_smoothPair := rfl
theorem nn_X1_smoothPair : am_n m_X1_smoothPair = 7 := rfl
theorem oo_X1_smoothPair : am_o m_X1_smoothPair = RX1 := rfl
theorem yy_X1_smoothPair : am_y m_X1_smoothPair = yX1_smoothPair := rfl
theorem dd_X1_smoothPair : am_d m_X1_smoothPair = 2 := rfl
theorem hl_X1_smoothPair : am_hl m_X1_smoothPair = [] := rfl
theorem hh_X1_smoothPair : am_h m_X1_smoothPair = [] := rfl
theorem bb_X1_transformLine : am_b m_X1_transformLine = cX1_transformLine := rfl
theorem nn_X1_transformLine : am_n m_X1_transformLine = 7 := rfl
theorem oo_X1_transformLine : am_o m_X1_transformLine = RX1 := rfl
theorem yy_X1_transformLine : am_y m_X1_transformLine = yX1_transformLine := rfl
theorem dd_X1_transformLine : am_d m_X1_transformLine = 2 := rfl
theorem hl_X1_transformLine : am_hl m_X1_transformLine = [] := rfl
theorem hh_X1_transformLine : am_h m_X1_transformLine = [] := rfl
theorem bb_X2_isToSplit : am_b m_X2_isToSplit = cX2_isToSplit := rfl
theorem nn_X2_isToSplit : am_n m_X2_isToSplit = 9 := rfl
theorem oo_X2_isToSplit : am_o m_X2_isToSplit = RX2 := rfl
theorem yy_X2_isToSplit : am_y m_X2_isToSplit = yX2_isToSplit := rfl
theorem dd_X2_isToSplit : am_d m_X2_isToSplit = 2 := rfl
theorem hl_X2_isToSplit : am_hl m_X2_isToSplit = [] := rfl
theorem hh_X2_isToSplit : am_h m_X2_isToSplit = [] := rfl
theorem bb_X3_conceal : am_b m_X3_conceal = cX3_conceal := rfl
theorem nn_X3_conceal : am_n m_X3_conceal = 4 := rfl
theorem oo_X3_conceal : am_o m_X3_conceal = RX3 := rfl
theorem yy_X3_conceal : am_y m_X3_conceal = yX3_conceal := rfl
theorem dd_X3_conceal : am_d m_X3_conceal = 2 := rfl
theorem hl_X3_conceal : am_hl m_X3_conceal = [] := rfl
theorem hh_X3_conceal : am_h m_X3_conceal = [] := rfl
theorem bb_X3_keep : am_b m_X3_keep = cX3_keep := rfl
theorem nn_X3_keep : am_n m_X3_keep = 1 := rfl
theorem oo_X3_keep : am_o m_X3_keep = RX3 := rfl
theorem yy_X3_keep : am_y m_X3_keep = yX3_keep := rfl
theorem dd_X3_keep : am_d m_X3_keep = 2 := rfl
theorem hl_X3_keep : am_hl m_X3_keep = [] := rfl
theorem hh_X3_keep : am_h m_X3_keep = [] := rfl
theorem bb_X3_leansOnClean : am_b m_X3_leansOnClean = cX3_leansOnClean := rfl
theorem nn_X3_leansOnClean : am_n m_X3_leansOnClean = 2 := rfl
theorem oo_X3_leansOnClean : am_o m_X3_leansOnClean = RX3 := rfl
theorem yy_X3_leansOnClean : am_y m_X3_leansOnClean = yX3_leansOnClean := rfl
theorem dd_X3_leansOnClean : am_d m_X3_leansOnClean = 2 := rfl
theorem hl_X3_leansOnClean : am_hl m_X3_leansOnClean = [] := rfl
theorem hh_X3_leansOnClean : am_h m_X3_leansOnClean = [] := rfl
theorem bb_X3_startAt : am_b m_X3_startAt = cX3_startAt := rfl
theorem nn_X3_startAt : am_n m_X3_startAt = 2 := rfl
theorem oo_X3_startAt : am_o m_X3_startAt = RX3 := rfl
theorem yy_X3_startAt : am_y m_X3_startAt = yX3_startAt := rfl
theorem dd_X3_startAt : am_d m_X3_startAt = 2 := rfl
theorem hl_X3_startAt : am_hl m_X3_startAt = [] := rfl
theorem hh_X3_startAt : am_h m_X3_startAt = [] := rfl
theorem bb_X4_between : am_b m_X4_between = cX4_between := rfl
theorem nn_X4_between : am_n m_X4_between = 9 := rfl
theorem oo_X4_between : am_o m_X4_between = RX4 := rfl
theorem yy_X4_between : am_y m_X4_between = yX4_between := rfl
theorem dd_X4_between : am_d m_X4_between = 2 := rfl
theorem hl_X4_between : am_hl m_X4_between = [] := rfl
theorem hh_X4_between : am_h m_X4_between = [] := rfl
theorem bb_X4_guessed : am_b m_X4_guessed = cX4_guessed := rfl
theorem nn_X4_guessed : am_n m_X4_guessed = 4 := rfl
theorem oo_X4_guessed : am_o m_X4_guessed = RX4 := rfl
theorem yy_X4_guessed : am_y m_X4_guessed = yX4_guessed := rfl
theorem dd_X4_guessed : am_d m_X4_guessed = 2 := rfl
theorem hl_X4_guessed : am_hl m_X4_guessed = [] := rfl
theorem hh_X4_guessed : am_h m_X4_guessed = [] := rfl
theorem bb_X4_init : am_b m_X4_init = cX4_init := rfl
theorem nn_X4_init : am_n m_X4_init = 1 := rfl
theorem oo_X4_init : am_o m_X4_init = RX4 := rfl
theorem yy_X4_init : am_y m_X4_init = yX4_init := rfl
theorem dd_X4_init : am_d m_X4_init = 2 := rfl
theorem hl_X4_init : am_hl m_X4_init = [] := rfl
theorem hh_X4_init : am_h m_X4_init = [] := rfl
theorem bb_X4_rowDifference : am_b m_X4_rowDifference = cX4_rowDifference := rfl
theorem nn_X4_rowDifference : am_n m_X4_rowDifference = 7 := rfl
theorem oo_X4_rowDifference : am_o m_X4_rowDifference = RX4 := rfl
theorem yy_X4_rowDifference : am_y m_X4_rowDifference = yX4_rowDifference := rfl
theorem dd_X4_rowDifference : am_d m_X4_rowDifference = 2 := rfl
theorem hl_X4_rowDifference : am_hl m_X4_rowDifference = [] := rfl
theorem hh_X4_rowDifference : am_h m_X4_rowDifference = [] := rfl
theorem bb_X5_init : am_b m_X5_init = cX5_init := rfl
theorem nn_X5_init : am_n m_X5_init = 1 := rfl
theorem oo_X5_init : am_o m_X5_init = RX5 := rfl
theorem yy_X5_init : am_y m_X5_init = yX5_init := rfl
theorem dd_X5_init : am_d m_X5_init = 2 := rfl
theorem hl_X5_init : am_hl m_X5_init = [] := rfl
theorem hh_X5_init : am_h m_X5_init = [] := rfl
theorem bb_X6_finish : am_b m_X6_finish = cX6_finish := rfl
theorem nn_X6_finish : am_n m_X6_finish = 6 := rfl
theorem oo_X6_finish : am_o m_X6_finish = RX6 := rfl
theorem yy_X6_finish : am_y m_X6_finish = yX6_finish := rfl
theorem dd_X6_finish : am_d m_X6_finish = 2 := rfl
theorem hl_X6_finish : am_hl m_X6_finish = [] := rfl
theorem hh_X6_finish : am_h m_X6_finish = [] := rfl
theorem bb_X6_init : am_b m_X6_init = cX6_init := rfl
theorem nn_X6_init : am_n m_X6_init = 1 := rfl
theorem oo_X6_init : am_o m_X6_init = RX6 := rfl
theorem yy_X6_init : am_y m_X6_init = yX6_init := rfl
theorem dd_X6_init : am_d m_X6_init = 2 := rfl
theorem hl_X6_init : am_hl m_X6_init = [] := rfl
theorem hh_X6_init : am_h m_X6_init = [] := rfl
theorem bb_X6_isSplitAt : am_b m_X6_isSplitAt = cX6_isSplitAt := rfl
theorem nn_X6_isSplitAt : am_n m_X6_isSplitAt = 2 := rfl
theorem oo_X6_isSplitAt : am_o m_X6_isSplitAt = RX6 := rfl
theorem yy_X6_isSplitAt : am_y m_X6_isSplitAt = yX6_isSplitAt := rfl
theorem dd_X6_isSplitAt : am_d m_X6_isSplitAt = 2 := rfl
theorem hl_X6_isSplitAt : am_hl m_X6_isSplitAt = [] := rfl
theorem hh_X6_isSplitAt : am_h m_X6_isSplitAt = [] := rfl
theorem bb_X6_modeCount : am_b m_X6_modeCount = cX6_modeCount := rfl
theorem nn_X6_modeCount : am_n m_X6_modeCount = 1 := rfl
theorem oo_X6_modeCount : am_o m_X6_modeCount = RX6 := rfl
theorem yy_X6_modeCount : am_y m_X6_modeCount = yX6_modeCount := rfl
theorem dd_X6_modeCount : am_d m_X6_modeCount = 2 := rfl
theorem hl_X6_modeCount : am_hl m_X6_modeCount = [] := rfl
theorem hh_X6_modeCount : am_h m_X6_modeCount = [] := rfl
theorem bb_X6_note : am_b m_X6_note = cX6_note := rfl
theorem nn_X6_note : am_n m_X6_note = 5 := rfl
theorem oo_X6_note : am_o m_X6_note = RX6 := rfl
theorem yy_X6_note : am_y m_X6_note = yX6_note := rfl
theorem dd_X6_note : am_d m_X6_note = 2 := rfl
theorem hl_X6_note : am_hl m_X6_note = [] := rfl
theorem hh_X6_note : am_h m_X6_note = [] := rfl
theorem bb_X6_topOf : am_b m_X6_topOf = cX6_topOf := rfl
theorem nn_X6_topOf : am_n m_X6_topOf = 2 := rfl
theorem oo_X6_topOf : am_o m_X6_topOf = RX6 := rfl
theorem yy_X6_topOf : am_y m_X6_topOf = yX6_topOf := rfl
theorem dd_X6_topOf : am_d m_X6_topOf = 2 := rfl
theorem hl_X6_topOf : am_hl m_X6_topOf = [] := rfl
theorem hh_X6_topOf : am_h m_X6_topOf = [] := rfl
theorem bb_X9_length : am_b m_X9_length = cX9_length := rfl
theorem nn_X9_length : am_n m_X9_length = 1 := rfl
theorem oo_X9_length : am_o m_X9_length = RX9 := rfl
theorem yy_X9_length : am_y m_X9_length = yX9_length := rfl
theorem dd_X9_length : am_d m_X9_length = 2 := rfl
theorem hl_X9_length : am_hl m_X9_length = [] := rfl
theorem hh_X9_length : am_h m_X9_length = [] := rfl
theorem bb_X10_bit : am_b m_X10_bit = cX10_bit := rfl
theorem nn_X10_bit : am_n m_X10_bit = 6 := rfl
theorem oo_X10_bit : am_o m_X10_bit = RX10 := rfl
theorem yy_X10_bit : am_y m_X10_bit = yX10_bit := rfl
theorem dd_X10_bit : am_d m_X10_bit = 3 := rfl
theorem hl_X10_bit : am_hl m_X10_bit = [] := rfl
theorem hh_X10_bit : am_h m_X10_bit = [] := rfl
theorem bb_X10_plain : am_b m_X10_plain = cX10_plain := rfl
theorem nn_X10_plain : am_n m_X10_plain = 4 := rfl
theorem oo_X10_plain : am_o m_X10_plain = RX10 := rfl
theorem yy_X10_plain : am_y m_X10_plain = yX10_plain := rfl
theorem dd_X10_plain : am_d m_X10_plain = 3 := rfl
theorem hl_X10_plain : am_hl m_X10_plain = [] := rfl
theorem hh_X10_plain : am_h m_X10_plain = [] := rfl
theorem bb_X11_takeDraft : am_b m_X11_takeDraft = cX11_takeDraft := rfl
theorem nn_X11_takeDraft : am_n m_X11_takeDraft = 1 := rfl
theorem oo_X11_takeDraft : am_o m_X11_takeDraft = RX11 := rfl
theorem yy_X11_takeDraft : am_y m_X11_takeDraft = yX11_takeDraft := rfl
theorem dd_X11_takeDraft : am_d m_X11_takeDraft = 3 := rfl
theorem hl_X11_takeDraft : am_hl m_X11_takeDraft = [] := rfl
theorem hh_X11_takeDraft : am_h m_X11_takeDraft = [] := rfl
theorem bb_X1_fromKept : am_b m_X1_fromKept = cX1_fromKept := rfl
theorem nn_X1_fromKept : am_n m_X1_fromKept = 5 := rfl
theorem oo_X1_fromKept : am_o m_X1_fromKept = RX1 := rfl
theorem yy_X1_fromKept : am_y m_X1_fromKept = yX1_fromKept := rfl
theorem dd_X1_fromKept : am_d m_X1_fromKept = 3 := rfl
theorem hl_X1_fromKept : am_hl m_X1_fromKept = [] := rfl
theorem hh_X1_fromKept : am_h m_X1_fromKept = [] := rfl
theorem bb_X1_init : am_b m_X1_init = cX1_init := rfl
theorem nn_X1_init : am_n m_X1_init = 1 := rfl
theorem oo_X1_init : am_o m_X1_init = RX1 := rfl
theorem yy_X1_init : am_y m_X1_init = yX1_init := rfl
theorem dd_X1_init : am_d m_X1_init = 3 := rfl
theorem hl_X1_init : am_hl m_X1_init = [] := rfl
theorem hh_X1_init : am_h m_X1_init = [] := rfl
theorem bb_X1_smooth : am_b m_X1_smooth = cX1_smooth := rfl
theorem nn_X1_smooth : am_n m_X1_smooth = 6 := rfl
theorem oo_X1_smooth : am_o m_X1_smooth = RX1 := rfl
theorem yy_X1_smooth : am_y m_X1_smooth = yX1_smooth := rfl
theorem dd_X1_smooth : am_d m_X1_smooth = 3 := rfl
theorem hl_X1_smooth : am_hl m_X1_smooth = [] := rfl
theorem hh_X1_smooth : am_h m_X1_smooth = [] := rfl
theorem bb_X1_takeBorder : am_b m_X1_takeBorder = cX1_takeBorder := rfl
theorem nn_X1_takeBorder : am_n m_X1_takeBorder = 7 := rfl
theorem oo_X1_takeBorder : am_o m_X1_takeBorder = RX1 := rfl
theorem yy_X1_takeBorder : am_y m_X1_takeBorder = yX1_takeBorder := rfl
theorem dd_X1_takeBorder : am_d m_X1_takeBorder = 3 := rfl
theorem hl_X1_takeBorder : am_hl m_X1_takeBorder = [] := rfl
theorem hh_X1_takeBorder : am_h m_X1_takeBorder = [] := rfl
theorem bb_X1_transform : am_b m_X1_transform = cX1_transform := rfl
theorem nn_X1_transform : am_n m_X1_transform = 2 := rfl
theorem oo_X1_transform : am_o m_X1_transform = RX1 := rfl
theorem yy_X1_transform : am_y m_X1_transform = yX1_transform := rfl
theorem dd_X1_transform : am_d m_X1_transform = 3 := rfl
theorem hl_X1_transform : am_hl m_X1_transform = [] := rfl
theorem hh_X1_transform : am_h m_X1_transform = [] := rfl
theorem bb_X4_costOf : am_b m_X4_costOf = cX4_costOf := rfl
theorem nn_X4_costOf : am_n m_X4_costOf = 9 := rfl
theorem oo_X4_costOf : am_o m_X4_costOf = RX4 := rfl
theorem yy_X4_costOf : am_y m_X4_costOf = yX4_costOf := rfl
theorem dd_X4_costOf : am_d m_X4_costOf = 3 := rfl
theorem hl_X4_costOf : am_hl m_X4_costOf = [] := rfl
theorem hh_X4_costOf : am_h m_X4_costOf = [] := rfl
theorem bb_X4_take : am_b m_X4_take = cX4_take := rfl
theorem nn_X4_take : am_n m_X4_take = 5 := rfl
theorem oo_X4_take : am_o m_X4_take = RX4 := rfl
theorem yy_X4_take : am_y m_X4_take = yX4_take := rfl
theorem dd_X4_take : am_d m_X4_take = 3 := rfl
theorem hl_X4_take : am_hl m_X4_take = [] := rfl
theorem hh_X4_take : am_h m_X4_take = [] := rfl
theorem bb_X5_extraCost : am_b m_X5_extraCost = cX5_extraCost := rfl
theorem nn_X5_extraCost : am_n m_X5_extraCost = 2 := rfl
theorem oo_X5_extraCost : am_o m_X5_extraCost = RX5 := rfl
theorem yy_X5_extraCost : am_y m_X5_extraCost = yX5_extraCost := rfl
theorem dd_X5_extraCost : am_d m_X5_extraCost = 3 := rfl
theorem hl_X5_extraCost : am_hl m_X5_extraCost = [] := rfl
theorem hh_X5_extraCost : am_h m_X5_extraCost = [] := rfl
theorem bb_X6_recall : am_b m_X6_recall = cX6_recall := rfl
theorem nn_X6_recall : am_n m_X6_recall = 4 := rfl
theorem oo_X6_recall : am_o m_X6_recall = RX6 := rfl
theorem yy_X6_recall : am_y m_X6_recall = yX6_recall := rfl
theorem dd_X6_recall : am_d m_X6_recall = 3 := rfl
theorem hl_X6_recall : am_hl m_X6_recall = [] := rfl
theorem hh_X6_recall : am_h m_X6_recall = [] := rfl
theorem bb_X6_startsPart : am_b m_X6_startsPart = cX6_startsPart := rfl
theorem nn_X6_startsPart : am_n m_X6_startsPart = 2 := rfl
theorem oo_X6_startsPart : am_o m_X6_startsPart = RX6 := rfl
theorem yy_X6_startsPart : am_y m_X6_startsPart = yX6_startsPart := rfl
theorem dd_X6_startsPart : am_d m_X6_startsPart = 3 := rfl
theorem hl_X6_startsPart : am_hl m_X6_startsPart = [] := rfl
theorem hh_X6_startsPart : am_h m_X6_startsPart = [] := rfl
theorem bb_X8_init : am_b m_X8_init = cX8_init := rfl
theorem nn_X8_init : am_n m_X8_init = 1 := rfl
theorem oo_X8_init : am_o m_X8_init = RX8 := rfl
theorem yy_X8_init : am_y m_X8_init = yX8_init := rfl
theorem dd_X8_init : am_d m_X8_init = 3 := rfl
theorem hl_X8_init : am_hl m_X8_init = [] := rfl
theorem hh_X8_init : am_h m_X8_init = [] := rfl
theorem bb_X8_slice : am_b m_X8_slice = cX8_slice := rfl
theorem nn_X8_slice : am_n m_X8_slice = 2 := rfl
theorem oo_X8_slice : am_o m_X8_slice = RX8 := rfl
theorem yy_X8_slice : am_y m_X8_slice = yX8_slice := rfl
theorem dd_X8_slice : am_d m_X8_slice = 3 := rfl
theorem hl_X8_slice : am_hl m_X8_slice = [] := rfl
theorem hh_X8_slice : am_h m_X8_slice = [] := rfl
theorem bb_X10_number : am_b m_X10_number = cX10_number := rfl
theorem nn_X10_number : am_n m_X10_number = 7 := rfl
theorem oo_X10_number : am_o m_X10_number = RX10 := rfl
theorem yy_X10_number : am_y m_X10_number = yX10_number := rfl
theorem dd_X10_number : am_d m_X10_number = 4 := rfl
theorem hl_X10_number : am_hl m_X10_number = [] := rfl
theorem hh_X10_number : am_h m_X10_number = [] := rfl
theorem bb_X1_buildSquare : am_b m_X1_buildSquare = cX1_buildSquare := rfl
theorem nn_X1_buildSquare : am_n m_X1_buildSquare = 7 := rfl
theorem oo_X1_buildSquare : am_o m_X1_buildSquare = RX1 := rfl
theorem yy_X1_buildSquare : am_y m_X1_buildSquare = yX1_buildSquare := rfl
theorem dd_X1_buildSquare : am_d m_X1_buildSquare = 4 := rfl
theorem hl_X1_buildSquare : am_hl m_X1_buildSquare = [] := rfl
theorem hh_X1_buildSquare : am_h m_X1_buildSquare = [] := rfl
theorem bb_X1_guessPart : am_b m_X1_guessPart = cX1_guessPart := rfl
theorem nn_X1_guessPart : am_n m_X1_guessPart = 5 := rfl
theorem oo_X1_guessPart : am_o m_X1_guessPart = RX1 := rfl
theorem yy_X1_guessPart : am_y m_X1_guessPart = yX1_guessPart := rfl
theorem dd_X1_guessPart : am_d m_X1_guessPart = 4 := rfl
theorem hl_X1_guessPart : am_hl m_X1_guessPart = [] := rfl
theorem hh_X1_guessPart : am_h m_X1_guessPart = [] := rfl
theorem bb_X1_levelSquare : am_b m_X1_levelSquare = cX1_levelSquare := rfl
theorem nn_X1_levelSquare : am_n m_X1_levelSquare = 6 := rfl
theorem oo_X1_levelSquare : am_o m_X1_levelSquare = RX1 := rfl
theorem yy_X1_levelSquare : am_y m_X1_levelSquare = yX1_levelSquare := rfl
theorem dd_X1_levelSquare : am_d m_X1_levelSquare = 4 := rfl
theorem hl_X1_levelSquare : am_hl m_X1_levelSquare = [] := rfl
theorem hh_X1_levelSquare : am_h m_X1_levelSquare = [] := rfl
theorem bb_X2_init : am_b m_X2_init = cX2_init := rfl
theorem nn_X2_init : am_n m_X2_init = 1 := rfl
theorem oo_X2_init : am_o m_X2_init = RX2 := rfl
theorem yy_X2_init : am_y m_X2_init = yX2_init := rfl
theorem dd_X2_init : am_d m_X2_init = 4 := rfl
theorem hl_X2_init : am_hl m_X2_init = [] := rfl
theorem hh_X2_init : am_h m_X2_init = [] := rfl
theorem bb_X2_lean : am_b m_X2_lean = cX2_lean := rfl
theorem nn_X2_lean : am_n m_X2_lean = 4 := rfl
theorem oo_X2_lean : am_o m_X2_lean = RX2 := rfl
theorem yy_X2_lean : am_y m_X2_lean = yX2_lean := rfl
theorem dd_X2_lean : am_d m_X2_lean = 4 := rfl
theorem hl_X2_lean : am_hl m_X2_lean = [] := rfl
theorem hh_X2_lean : am_h m_X2_lean = [] := rfl
theorem bb_X2_search : am_b m_X2_search = cX2_search := rfl
theorem nn_X2_search : am_n m_X2_search = 11 := rfl
theorem oo_X2_search : am_o m_X2_search = RX2 := rfl
theorem yy_X2_search : am_y m_X2_search = yX2_search := rfl
theorem dd_X2_search : am_d m_X2_search = 4 := rfl
theorem hl_X2_search : am_hl m_X2_search = [] := rfl
theorem hh_X2_search : am_h m_X2_search = [] := rfl
theorem bb_X3_init : am_b m_X3_init = cX3_init := rfl
theorem nn_X3_init : am_n m_X3_init = 1 := rfl
theorem oo_X3_init : am_o m_X3_init = RX3 := rfl
theorem yy_X3_init : am_y m_X3_init = yX3_init := rfl
theorem dd_X3_init : am_d m_X3_init = 4 := rfl
theorem hl_X3_init : am_hl m_X3_init = [] := rfl
theorem hh_X3_init : am_h m_X3_init = [] := rfl
theorem bb_X6_partsInMode : am_b m_X6_partsInMode = cX6_partsInMode := rfl
theorem nn_X6_partsInMode : am_n m_X6_partsInMode = 4 := rfl
theorem oo_X6_partsInMode : am_o m_X6_partsInMode = RX6 := rfl
theorem yy_X6_partsInMode : am_y m_X6_partsInMode = yX6_partsInMode := rfl
theorem dd_X6_partsInMode : am_d m_X6_partsInMode = 4 := rfl
theorem hl_X6_partsInMode : am_hl m_X6_partsInMode = [] := rfl
theorem hh_X6_partsInMode : am_h m_X6_partsInMode = [] := rfl
theorem bb_X8_writeLastPlace : am_b m_X8_writeLastPlace = cX8_writeLastPlace := rfl
theorem nn_X8_writeLastPlace : am_n m_X8_writeLastPlace = 5 := rfl
theorem oo_X8_writeLastPlace : am_o m_X8_writeLastPlace = RX8 := rfl
theorem yy_X8_writeLastPlace : am_y m_X8_writeLastPlace = yX8_writeLastPlace := rfl
theorem dd_X8_writeLastPlace : am_d m_X8_writeLastPlace = 4 := rfl
theorem hl_X8_writeLastPlace : am_hl m_X8_writeLastPlace = [] := rfl
theorem hh_X8_writeLastPlace : am_h m_X8_writeLastPlace = [] := rfl
theorem bb_X8_writeMode : am_b m_X8_writeMode = cX8_writeMode := rfl
theorem nn_X8_writeMode : am_n m_X8_writeMode = 2 := rfl
theorem oo_X8_writeMode : am_o m_X8_writeMode = RX8 := rfl
theorem yy_X8_writeMode : am_y m_X8_writeMode = yX8_writeMode := rfl
theorem dd_X8_writeMode : am_d m_X8_writeMode = 4 := rfl
theorem hl_X8_writeMode : am_hl m_X8_writeMode = [] := rfl
theorem hh_X8_writeMode : am_h m_X8_writeMode = [] := rfl
theorem bb_X11_init : am_b m_X11_init = cX11_init := rfl
theorem nn_X11_init : am_n m_X11_init = 1 := rfl
theorem oo_X11_init : am_o m_X11_init = RX11 := rfl
theorem yy_X11_init : am_y m_X11_init = yX11_init := rfl
theorem dd_X11_init : am_d m_X11_init = 5 := rfl
theorem hl_X11_init : am_hl m_X11_init = [] := rfl
theorem hh_X11_init : am_h m_X11_init = [] := rfl
theorem bb_X2_choosePart : am_b m_X2_choosePart = cX2_choosePart := rfl
theorem nn_X2_choosePart : am_n m_X2_choosePart = 8 := rfl
theorem oo_X2_choosePart : am_o m_X2_choosePart = RX2 := rfl
theorem yy_X2_choosePart : am_y m_X2_choosePart = yX2_choosePart := rfl
theorem dd_X2_choosePart : am_d m_X2_choosePart = 5 := rfl
theorem hl_X2_choosePart : am_hl m_X2_choosePart = [] := rfl
theorem hh_X2_choosePart : am_h m_X2_choosePart = [] := rfl
theorem bb_X3_build : am_b m_X3_build = cX3_build := rfl
theorem nn_X3_build : am_n m_X3_build = 6 := rfl
theorem oo_X3_build : am_o m_X3_build = RX3 := rfl
theorem yy_X3_build : am_y m_X3_build = yX3_build := rfl
theorem dd_X3_build : am_d m_X3_build = 5 := rfl
theorem hl_X3_build : am_hl m_X3_build = [] := rfl
theorem hh_X3_build : am_h m_X3_build = [] := rfl
theorem bb_X8_writeSquare : am_b m_X8_writeSquare = cX8_writeSquare := rfl
theorem nn_X8_writeSquare : am_n m_X8_writeSquare = 6 := rfl
theorem oo_X8_writeSquare : am_o m_X8_writeSquare = RX8 := rfl
theorem yy_X8_writeSquare : am_y m_X8_writeSquare = yX8_writeSquare := rfl
theorem dd_X8_writeSquare : am_d m_X8_writeSquare = 5 := rfl
theorem hl_X8_writeSquare : am_hl m_X8_writeSquare = [] := rfl
theorem hh_X8_writeSquare : am_h m_X8_writeSquare = [] := rfl
theorem bb_X8_writeVector : am_b m_X8_writeVector = cX8_writeVector := rfl
theorem nn_X8_writeVector : am_n m_X8_writeVector = 6 := rfl
theorem oo_X8_writeVector : am_o m_X8_writeVector = RX8 := rfl
theorem yy_X8_writeVector : am_y m_X8_writeVector = yX8_writeVector := rfl
theorem dd_X8_writeVector : am_d m_X8_writeVector = 5 := rfl
theorem hl_X8_writeVector : am_hl m_X8_writeVector = [] := rfl
theorem hh_X8_writeVector : am_h m_X8_writeVector = [] := rfl
theorem bb_X2_choose : am_b m_X2_choose = cX2_choose := rfl
theorem nn_X2_choose : am_n m_X2_choose = 7 := rfl
theorem oo_X2_choose : am_o m_X2_choose = RX2 := rfl
theorem yy_X2_choose : am_y m_X2_choose = yX2_choose := rfl
theorem dd_X2_choose : am_d m_X2_choose = 6 := rfl
theorem hl_X2_choose : am_hl m_X2_choose = [] := rfl
theorem hh_X2_choose : am_h m_X2_choose = [] := rfl
theorem bb_X3_receive : am_b m_X3_receive = cX3_receive := rfl
theorem nn_X3_receive : am_n m_X3_receive = 3 := rfl
theorem oo_X3_receive : am_o m_X3_receive = RX3 := rfl
theorem yy_X3_receive : am_y m_X3_receive = yX3_receive := rfl
theorem dd_X3_receive : am_d m_X3_receive = 6 := rfl
theorem hl_X3_receive : am_hl m_X3_receive = [] := rfl
theorem hh_X3_receive : am_h m_X3_receive = [] := rfl
theorem bb_X8_writeSlice : am_b m_X8_writeSlice = cX8_writeSlice := rfl
theorem nn_X8_writeSlice : am_n m_X8_writeSlice = 6 := rfl
theorem oo_X8_writeSlice : am_o m_X8_writeSlice = RX8 := rfl
theorem yy_X8_writeSlice : am_y m_X8_writeSlice = yX8_writeSlice := rfl
theorem dd_X8_writeSlice : am_d m_X8_writeSlice = 6 := rfl
theorem hl_X8_writeSlice : am_hl m_X8_writeSlice = [] := rfl
theorem hh_X8_writeSlice : am_h m_X8_writeSlice = [] := rfl
theorem bb_X11_bucket : am_b m_X11_bucket = cX11_bucket := rfl
theorem nn_X11_bucket : am_n m_X11_bucket = 1 := rfl
theorem oo_X11_bucket : am_o m_X11_bucket = RX11 := rfl
theorem yy_X11_bucket : am_y m_X11_bucket = yX11_bucket := rfl
theorem dd_X11_bucket : am_d m_X11_bucket = 8 := rfl
theorem hl_X11_bucket : am_hl m_X11_bucket = [] := rfl
theorem hh_X11_bucket : am_h m_X11_bucket = [] := rfl
theorem bb_X11_cleanShare : am_b m_X11_cleanShare = cX11_cleanShare := rfl
theorem nn_X11_cleanShare : am_n m_X11_cleanShare = 1 := rfl
theorem oo_X11_cleanShare : am_o m_X11_cleanShare = RX11 := rfl
theorem yy_X11_cleanShare : am_y m_X11_cleanShare = yX11_cleanShare := rfl
theorem dd_X11_cleanShare : am_d m_X11_cleanShare = 8 := rfl
theorem hl_X11_cleanShare : am_hl m_X11_cleanShare = [] := rfl
theorem hh_X11_cleanShare : am_h m_X11_cleanShare = [] := rfl
theorem bb_X11_fill : am_b m_X11_fill = cX11_fill := rfl
theorem nn_X11_fill : am_n m_X11_fill = 10 := rfl
theorem oo_X11_fill : am_o m_X11_fill = RX11 := rfl
theorem yy_X11_fill : am_y m_X11_fill = yX11_fill := rfl
theorem dd_X11_fill : am_d m_X11_fill = 8 := rfl
theorem hl_X11_fill : am_hl m_X11_fill = [] := rfl
theorem hh_X11_fill : am_h m_X11_fill = [] := rfl
theorem bb_X11_grain : am_b m_X11_grain = cX11_grain := rfl
theorem nn_X11_grain : am_n m_X11_grain = 6 := rfl
theorem oo_X11_grain : am_o m_X11_grain = RX11 := rfl
theorem yy_X11_grain : am_y m_X11_grain = yX11_grain := rfl
theorem dd_X11_grain : am_d m_X11_grain = 8 := rfl
theorem hl_X11_grain : am_hl m_X11_grain = [] := rfl
theorem hh_X11_grain : am_h m_X11_grain = [] := rfl
theorem bb_X11_join : am_b m_X11_join = cX11_join := rfl
theorem nn_X11_join : am_n m_X11_join = 3 := rfl
theorem oo_X11_join : am_o m_X11_join = RX11 := rfl
theorem yy_X11_join : am_y m_X11_join = yX11_join := rfl
theorem dd_X11_join : am_d m_X11_join = 8 := rfl
theorem hl_X11_join : am_hl m_X11_join = [] := rfl
theorem hh_X11_join : am_h m_X11_join = [] := rfl
theorem bb_X11_keptAt : am_b m_X11_keptAt = cX11_keptAt := rfl
theorem nn_X11_keptAt : am_n m_X11_keptAt = 2 := rfl
theorem oo_X11_keptAt : am_o m_X11_keptAt = RX11 := rfl
theorem yy_X11_keptAt : am_y m_X11_keptAt = yX11_keptAt := rfl
theorem dd_X11_keptAt : am_d m_X11_keptAt = 8 := rfl
theorem hl_X11_keptAt : am_hl m_X11_keptAt = [] := rfl
theorem hh_X11_keptAt : am_h m_X11_keptAt = [] := rfl
theorem bb_X11_move : am_b m_X11_move = cX11_move := rfl
theorem nn_X11_move : am_n m_X11_move = 6 := rfl
theorem oo_X11_move : am_o m_X11_move = RX11 := rfl
theorem yy_X11_move : am_y m_X11_move = yX11_move := rfl
theorem dd_X11_move : am_d m_X11_move = 8 := rfl
theorem hl_X11_move : am_hl m_X11_move = [] := rfl
theorem hh_X11_move : am_h m_X11_move = [] := rfl
theorem bb_X11_pictureAt : am_b m_X11_pictureAt = cX11_pictureAt := rfl
theorem nn_X11_pictureAt : am_n m_X11_pictureAt = 3 := rfl
theorem oo_X11_pictureAt : am_o m_X11_pictureAt = RX11 := rfl
theorem yy_X11_pictureAt : am_y m_X11_pictureAt = yX11_pictureAt := rfl
theorem dd_X11_pictureAt : am_d m_X11_pictureAt = 8 := rfl
theorem hl_X11_pictureAt : am_hl m_X11_pictureAt = [] := rfl
theorem hh_X11_pictureAt : am_h m_X11_pictureAt = [] := rfl
theorem bb_X11_refuseNoPixel : am_b m_X11_refuseNoPixel = cX11_refuseNoPixel := rfl
theorem nn_X11_refuseNoPixel : am_n m_X11_refuseNoPixel = 2 := rfl
theorem oo_X11_refuseNoPixel : am_o m_X11_refuseNoPixel = RX11 := rfl
theorem yy_X11_refuseNoPixel : am_y m_X11_refuseNoPixel = yX11_refuseNoPixel := rfl
theorem dd_X11_refuseNoPixel : am_d m_X11_refuseNoPixel = 8 := rfl
theorem hl_X11_refuseNoPixel : am_hl m_X11_refuseNoPixel = [] := rfl
theorem hh_X11_refuseNoPixel : am_h m_X11_refuseNoPixel = [] := rfl
theorem bb_X11_refuseNothingShown : am_b m_X11_refuseNothingShown = cX11_refuseNothingShown := rfl
theorem nn_X11_refuseNothingShown : am_n m_X11_refuseNothingShown = 1 := rfl
theorem oo_X11_refuseNothingShown : am_o m_X11_refuseNothingShown = RX11 := rfl
theorem yy_X11_refuseNothingShown : am_y m_X11_refuseNothingShown = yX11_refuseNothingShown := rfl
theorem dd_X11_refuseNothingShown : am_d m_X11_refuseNothingShown = 8 := rfl
theorem hl_X11_refuseNothingShown : am_hl m_X11_refuseNothingShown = [] := rfl
theorem hh_X11_refuseNothingShown : am_h m_X11_refuseNothingShown = [] := rfl
theorem bb_X11_setBucket : am_b m_X11_setBucket = cX11_setBucket := rfl
theorem nn_X11_setBucket : am_n m_X11_setBucket = 4 := rfl
theorem oo_X11_setBucket : am_o m_X11_setBucket = RX11 := rfl
theorem yy_X11_setBucket : am_y m_X11_setBucket = yX11_setBucket := rfl
theorem dd_X11_setBucket : am_d m_X11_setBucket = 8 := rfl
theorem hl_X11_setBucket : am_hl m_X11_setBucket = [] := rfl
theorem hh_X11_setBucket : am_h m_X11_setBucket = [] := rfl
theorem bb_X11_setCoarseness : am_b m_X11_setCoarseness = cX11_setCoarseness := rfl
theorem nn_X11_setCoarseness : am_n m_X11_setCoarseness = 3 := rfl
theorem oo_X11_setCoarseness : am_o m_X11_setCoarseness = RX11 := rfl
theorem yy_X11_setCoarseness : am_y m_X11_setCoarseness = yX11_setCoarseness := rfl
theorem dd_X11_setCoarseness : am_d m_X11_setCoarseness = 8 := rfl
theorem hl_X11_setCoarseness : am_hl m_X11_setCoarseness = [] := rfl
theorem hh_X11_setCoarseness : am_h m_X11_setCoarseness = [] := rfl
theorem bb_X11_setSlices : am_b m_X11_setSlices = cX11_setSlices := rfl
theorem nn_X11_setSlices : am_n m_X11_setSlices = 3 := rfl
theorem oo_X11_setSlices : am_o m_X11_setSlices = RX11 := rfl
theorem yy_X11_setSlices : am_y m_X11_setSlices = yX11_setSlices := rfl
theorem dd_X11_setSlices : am_d m_X11_setSlices = 8 := rfl
theorem hl_X11_setSlices : am_hl m_X11_setSlices = [] := rfl
theorem hh_X11_setSlices : am_h m_X11_setSlices = [] := rfl
theorem bb_X11_setTools : am_b m_X11_setTools = cX11_setTools := rfl
theorem nn_X11_setTools : am_n m_X11_setTools = 3 := rfl
theorem oo_X11_setTools : am_o m_X11_setTools = RX11 := rfl
theorem yy_X11_setTools : am_y m_X11_setTools = yX11_setTools := rfl
theorem dd_X11_setTools : am_d m_X11_setTools = 8 := rfl
theorem hl_X11_setTools : am_hl m_X11_setTools = [] := rfl
theorem hh_X11_setTools : am_h m_X11_setTools = [] := rfl
theorem bb_X11_slope : am_b m_X11_slope = cX11_slope := rfl
theorem nn_X11_slope : am_n m_X11_slope = 6 := rfl
theorem oo_X11_slope : am_o m_X11_slope = RX11 := rfl
theorem yy_X11_slope : am_y m_X11_slope = yX11_slope := rfl
theorem dd_X11_slope : am_d m_X11_slope = 8 := rfl
theorem hl_X11_slope : am_hl m_X11_slope = [] := rfl
theorem hh_X11_slope : am_h m_X11_slope = [] := rfl
theorem bb_L_bucket : am_b m_L_bucket = cL_bucket := rfl
theorem nn_L_bucket : am_n m_L_bucket = 4 := rfl
theorem oo_L_bucket : am_o m_L_bucket = RL := rfl
theorem yy_L_bucket : am_y m_L_bucket = yL_bucket := rfl
theorem dd_L_bucket : am_d m_L_bucket = 9 := rfl
theorem hl_L_bucket : am_hl m_L_bucket = [(0, 8, 3)] := rfl
theorem bb_L_paint : am_b m_L_paint = cL_paint := rfl
theorem nn_L_paint : am_n m_L_paint = 4 := rfl
theorem oo_L_paint : am_o m_L_paint = RL := rfl
theorem yy_L_paint : am_y m_L_paint = yL_paint := rfl
theorem dd_L_paint : am_d m_L_paint = 9 := rfl
theorem hl_L_paint : am_hl m_L_paint = [(0, 93, 3)] := rfl
theorem bb_X11_built : am_b m_X11_built = cX11_built := rfl
theorem nn_X11_built : am_n m_X11_built = 5 := rfl
theorem oo_X11_built : am_o m_X11_built = RX11 := rfl
theorem yy_X11_built : am_y m_X11_built = yX11_built := rfl
theorem dd_X11_built : am_d m_X11_built = 9 := rfl
theorem hl_X11_built : am_hl m_X11_built = [] := rfl
theorem hh_X11_built : am_h m_X11_built = [] := rfl
theorem bb_X11_coarsenessOf : am_b m_X11_coarsenessOf = cX11_coarsenessOf := rfl
theorem nn_X11_coarsenessOf : am_n m_X11_coarsenessOf = 2 := rfl
theorem oo_X11_coarsenessOf : am_o m_X11_coarsenessOf = RX11 := rfl
theorem yy_X11_coarsenessOf : am_y m_X11_coarsenessOf = yX11_coarsenessOf := rfl
theorem dd_X11_coarsenessOf : am_d m_X11_coarsenessOf = 9 := rfl
theorem hl_X11_coarsenessOf : am_hl m_X11_coarsenessOf = [] := rfl
theorem hh_X11_coarsenessOf : am_h m_X11_coarsenessOf = [] := rfl
theorem bb_X11_commonest : am_b m_X11_commonest = cX11_commonest := rfl
theorem nn_X11_commonest : am_n m_X11_commonest = 6 := rfl
theorem oo_X11_commonest : am_o m_X11_commonest = RX11 := rfl
theorem yy_X11_commonest : am_y m_X11_commonest = yX11_commonest := rfl
theorem dd_X11_commonest : am_d m_X11_commonest = 9 := rfl
theorem hl_X11_commonest : am_hl m_X11_commonest = [] := rfl
theorem hh_X11_commonest : am_h m_X11_commonest = [] := rfl
theorem bb_X11_drift : am_b m_X11_drift = cX11_drift := rfl
theorem nn_X11_drift : am_n m_X11_drift = 4 := rfl
theorem oo_X11_drift : am_o m_X11_drift = RX11 := rfl
theorem yy_X11_drift : am_y m_X11_drift = yX11_drift := rfl
theorem dd_X11_drift : am_d m_X11_drift = 9 := rfl
theorem hl_X11_drift : am_hl m_X11_drift = [] := rfl
theorem hh_X11_drift : am_h m_X11_drift = [] := rfl
theorem bb_X11_heavierThan : am_b m_X11_heavierThan = cX11_heavierThan := rfl
theorem nn_X11_heavierThan : am_n m_X11_heavierThan = 6 := rfl
theorem oo_X11_heavierThan : am_o m_X11_heavierThan = RX11 := rfl
theorem yy_X11_heavierThan : am_y m_X11_heavierThan = yX11_heavierThan := rfl
theorem dd_X11_heavierThan : am_d m_X11_heavierThan = 9 := rfl
theorem hl_X11_heavierThan : am_hl m_X11_heavierThan = [] := rfl
theorem hh_X11_heavierThan : am_h m_X11_heavierThan = [] := rfl
theorem bb_X11_isClean : am_b m_X11_isClean = cX11_isClean := rfl
theorem nn_X11_isClean : am_n m_X11_isClean = 1 := rfl
theorem oo_X11_isClean : am_o m_X11_isClean = RX11 := rfl
theorem yy_X11_isClean : am_y m_X11_isClean = yX11_isClean := rfl
theorem dd_X11_isClean : am_d m_X11_isClean = 9 := rfl
theorem hl_X11_isClean : am_hl m_X11_isClean = [] := rfl
theorem hh_X11_isClean : am_h m_X11_isClean = [] := rfl
theorem bb_X11_keptPixels : am_b m_X11_keptPixels = cX11_keptPixels := rfl
theorem nn_X11_keptPixels : am_n m_X11_keptPixels = 2 := rfl
theorem oo_X11_keptPixels : am_o m_X11_keptPixels = RX11 := rfl
theorem yy_X11_keptPixels : am_y m_X11_keptPixels = yX11_keptPixels := rfl
theorem dd_X11_keptPixels : am_d m_X11_keptPixels = 9 := rfl
theorem hl_X11_keptPixels : am_hl m_X11_keptPixels = [] := rfl
theorem hh_X11_keptPixels : am_h m_X11_keptPixels = [] := rfl
theorem bb_X11_kindOf : am_b m_X11_kindOf = cX11_kindOf := rfl
theorem nn_X11_kindOf : am_n m_X11_kindOf = 2 := rfl
theorem oo_X11_kindOf : am_o m_X11_kindOf = RX11 := rfl
theorem yy_X11_kindOf : am_y m_X11_kindOf = yX11_kindOf := rfl
theorem dd_X11_kindOf : am_d m_X11_kindOf = 9 := rfl
theorem hl_X11_kindOf : am_hl m_X11_kindOf = [] := rfl
theorem hh_X11_kindOf : am_h m_X11_kindOf = [] := rfl
theorem bb_X11_levelAt : am_b m_X11_levelAt = cX11_levelAt := rfl
theorem nn_X11_levelAt : am_n m_X11_levelAt = 5 := rfl
theorem oo_X11_levelAt : am_o m_X11_levelAt = RX11 := rfl
theorem yy_X11_levelAt : am_y m_X11_levelAt = yX11_levelAt := rfl
theorem dd_X11_levelAt : am_d m_X11_levelAt = 9 := rfl
theorem hl_X11_levelAt : am_hl m_X11_levelAt = [] := rfl
theorem hh_X11_levelAt : am_h m_X11_levelAt = [] := rfl
theorem bb_X11_meanBits : am_b m_X11_meanBits = cX11_meanBits := rfl
theorem nn_X11_meanBits : am_n m_X11_meanBits = 3 := rfl
theorem oo_X11_meanBits : am_o m_X11_meanBits = RX11 := rfl
theorem yy_X11_meanBits : am_y m_X11_meanBits = yX11_meanBits := rfl
theorem dd_X11_meanBits : am_d m_X11_meanBits = 9 := rfl
theorem hl_X11_meanBits : am_hl m_X11_meanBits = [] := rfl
theorem hh_X11_meanBits : am_h m_X11_meanBits = [] := rfl
theorem bb_X11_modeAt : am_b m_X11_modeAt = cX11_modeAt := rfl
theorem nn_X11_modeAt : am_n m_X11_modeAt = 5 := rfl
theorem oo_X11_modeAt : am_o m_X11_modeAt = RX11 := rfl
theorem yy_X11_modeAt : am_y m_X11_modeAt = yX11_modeAt := rfl
theorem dd_X11_modeAt : am_d m_X11_modeAt = 9 := rfl
theorem hl_X11_modeAt : am_hl m_X11_modeAt = [] := rfl
theorem hh_X11_modeAt : am_h m_X11_modeAt = [] := rfl
theorem bb_X11_partAt : am_b m_X11_partAt = cX11_partAt := rfl
theorem nn_X11_partAt : am_n m_X11_partAt = 5 := rfl
theorem oo_X11_partAt : am_o m_X11_partAt = RX11 := rfl
theorem yy_X11_partAt : am_y m_X11_partAt = yX11_partAt := rfl
theorem dd_X11_partAt : am_d m_X11_partAt = 9 := rfl
theorem hl_X11_partAt : am_hl m_X11_partAt = [] := rfl
theorem hh_X11_partAt : am_h m_X11_partAt = [] := rfl
theorem bb_X11_pixel : am_b m_X11_pixel = cX11_pixel := rfl
theorem nn_X11_pixel : am_n m_X11_pixel = 3 := rfl
theorem oo_X11_pixel : am_o m_X11_pixel = RX11 := rfl
theorem yy_X11_pixel : am_y m_X11_pixel = yX11_pixel := rfl
theorem dd_X11_pixel : am_d m_X11_pixel = 9 := rfl
theorem hl_X11_pixel : am_hl m_X11_pixel = [] := rfl
theorem hh_X11_pixel : am_h m_X11_pixel = [] := rfl
theorem bb_X11_send : am_b m_X11_send = cX11_send := rfl
theorem nn_X11_send : am_n m_X11_send = 3 := rfl
theorem oo_X11_send : am_o m_X11_send = RX11 := rfl
theorem yy_X11_send : am_y m_X11_send = yX11_send := rfl
theorem dd_X11_send : am_d m_X11_send = 9 := rfl
theorem hl_X11_send : am_hl m_X11_send = [] := rfl
theorem hh_X11_send : am_h m_X11_send = [] := rfl
theorem bb_X11_shown : am_b m_X11_shown = cX11_shown := rfl
theorem nn_X11_shown : am_n m_X11_shown = 1 := rfl
theorem oo_X11_shown : am_o m_X11_shown = RX11 := rfl
theorem yy_X11_shown : am_y m_X11_shown = yX11_shown := rfl
theorem dd_X11_shown : am_d m_X11_shown = 9 := rfl
theorem hl_X11_shown : am_hl m_X11_shown = [] := rfl
theorem hh_X11_shown : am_h m_X11_shown = [] := rfl
theorem bb_X11_shownAt : am_b m_X11_shownAt = cX11_shownAt := rfl
theorem nn_X11_shownAt : am_n m_X11_shownAt = 3 := rfl
theorem oo_X11_shownAt : am_o m_X11_shownAt = RX11 := rfl
theorem yy_X11_shownAt : am_y m_X11_shownAt = yX11_shownAt := rfl
theorem dd_X11_shownAt : am_d m_X11_shownAt = 9 := rfl
theorem hl_X11_shownAt : am_hl m_X11_shownAt = [] := rfl
theorem hh_X11_shownAt : am_h m_X11_shownAt = [] := rfl
theorem bb_X11_vectorAt : am_b m_X11_vectorAt = cX11_vectorAt := rfl
theorem nn_X11_vectorAt : am_n m_X11_vectorAt = 7 := rfl
theorem oo_X11_vectorAt : am_o m_X11_vectorAt = RX11 := rfl
theorem yy_X11_vectorAt : am_y m_X11_vectorAt = yX11_vectorAt := rfl
theorem dd_X11_vectorAt : am_d m_X11_vectorAt = 9 := rfl
theorem hl_X11_vectorAt : am_hl m_X11_vectorAt = [] := rfl
theorem hh_X11_vectorAt : am_h m_X11_vectorAt = [] := rfl
theorem bb_L_figure : am_b m_L_figure = cL_figure := rfl
theorem nn_L_figure : am_n m_L_figure = 3 := rfl
theorem oo_L_figure : am_o m_L_figure = RL := rfl
theorem yy_L_figure : am_y m_L_figure = yL_figure := rfl
theorem dd_L_figure : am_d m_L_figure = 10 := rfl
theorem hl_L_figure : am_hl m_L_figure = [(5, 18, 2)] := rfl
theorem bb_L_pixel : am_b m_L_pixel = cL_pixel := rfl
theorem nn_L_pixel : am_n m_L_pixel = 6 := rfl
theorem oo_L_pixel : am_o m_L_pixel = RL := rfl
theorem yy_L_pixel : am_y m_L_pixel = yL_pixel := rfl
theorem dd_L_pixel : am_d m_L_pixel = 10 := rfl
theorem hl_L_pixel : am_hl m_L_pixel = [(1, 178, 5), (4, 183, 5)] := rfl
theorem bb_X11_code : am_b m_X11_code = cX11_code := rfl
theorem nn_X11_code : am_n m_X11_code = 5 := rfl
theorem oo_X11_code : am_o m_X11_code = RX11 := rfl
theorem yy_X11_code : am_y m_X11_code = yX11_code := rfl
theorem dd_X11_code : am_d m_X11_code = 10 := rfl
theorem hl_X11_code : am_hl m_X11_code = [] := rfl
theorem hh_X11_code : am_h m_X11_code = [] := rfl
theorem bb_X11_heaviest : am_b m_X11_heaviest = cX11_heaviest := rfl
theorem nn_X11_heaviest : am_n m_X11_heaviest = 4 := rfl
theorem oo_X11_heaviest : am_o m_X11_heaviest = RX11 := rfl
theorem yy_X11_heaviest : am_y m_X11_heaviest = yX11_heaviest := rfl
theorem dd_X11_heaviest : am_d m_X11_heaviest = 10 := rfl
theorem hl_X11_heaviest : am_hl m_X11_heaviest = [] := rfl
theorem hh_X11_heaviest : am_h m_X11_heaviest = [] := rfl
theorem bb_L_ask : am_b m_L_ask = cL_ask := rfl
theorem nn_L_ask : am_n m_L_ask = 4 := rfl
theorem oo_L_ask : am_o m_L_ask = RL := rfl
theorem yy_L_ask : am_y m_L_ask = yL_ask := rfl
theorem dd_L_ask : am_d m_L_ask = 11 := rfl
theorem hl_L_ask : am_hl m_L_ask = [(1, 188, 3), (0, 193, 3), (4, 198, 3)] := rfl
theorem bb_L_code : am_b m_L_code = cL_code := rfl
theorem nn_L_code : am_n m_L_code = 5 := rfl
theorem oo_L_code : am_o m_L_code = RL := rfl
theorem yy_L_code : am_y m_L_code = yL_code := rfl
theorem dd_L_code : am_d m_L_code = 11 := rfl
theorem hl_L_code : am_hl m_L_code = [(1, 10, 4), (0, 16, 4), (2, 22, 4), (3, 28, 4)] := rfl
theorem bb_L_isLike : am_b m_L_isLike = cL_isLike := rfl
theorem nn_L_isLike : am_n m_L_isLike = 3 := rfl
theorem oo_L_isLike : am_o m_L_isLike = RL := rfl
theorem yy_L_isLike : am_y m_L_isLike = yL_isLike := rfl
theorem dd_L_isLike : am_d m_L_isLike = 11 := rfl
theorem hl_L_isLike : am_hl m_L_isLike = [] := rfl
theorem hh_L_isLike : am_h m_L_isLike = [] := rfl
theorem bb_L_flatIsGood : am_b m_L_flatIsGood = cL_flatIsGood := rfl
theorem nn_L_flatIsGood : am_n m_L_flatIsGood = 7 := rfl
theorem oo_L_flatIsGood : am_o m_L_flatIsGood = RL := rfl
theorem yy_L_flatIsGood : am_y m_L_flatIsGood = yL_flatIsGood := rfl
theorem dd_L_flatIsGood : am_d m_L_flatIsGood = 12 := rfl
theorem hl_L_flatIsGood : am_hl m_L_flatIsGood = [] := rfl
theorem hh_L_flatIsGood : am_h m_L_flatIsGood = [] := rfl
theorem bb_L_paints : am_b m_L_paints = cL_paints := rfl
theorem nn_L_paints : am_n m_L_paints = 21 := rfl
theorem oo_L_paints : am_o m_L_paints = RL := rfl
theorem yy_L_paints : am_y m_L_paints = yL_paints := rfl
theorem dd_L_paints : am_d m_L_paints = 12 := rfl
theorem hl_L_paints : am_hl m_L_paints = [] := rfl
theorem hh_L_paints : am_h m_L_paints = [] := rfl
theorem bb_L_law : am_b m_L_law = code := rfl
theorem nn_L_law : am_n m_L_law = 11 := rfl
theorem oo_L_law : am_o m_L_law = RL := rfl
theorem yy_L_law : am_y m_L_law = x := rfl
theorem dd_L_law : am_d m_L_law = 13 := rfl
theorem hl_L_law : am_hl m_L_law = [] := rfl
theorem hh_L_law : am_h m_L_law = [] := rfl
theorem wd_421 : Jvm.Cond.code yL_at cL_at 2 (some FieldType.int) ∈ am_ok := am_wd 421 (by decide +kernel) (by decide +kernel)
theorem wd_25 : Jvm.Cond.initialized RL ∈ am_ok := am_wd 25 (by decide +kernel) (by decide +kernel)
theorem mok_L_at : am_mOK m_L_at := ⟨Or.inl ⟨rfl, rfl, wd_421⟩, wd_25, by decide +kernel, rfl, by decide +kernel, by decide +kernel, by decide +kernel, by decide +kernel⟩
theorem wd_424 : Jvm.Cond.code yL_some cL_some 3 (some FieldType.int) ∈ am_ok := am_wd 424 (by decide +kernel) (by decide +kernel)
theorem mok_L_some : am_mOK m_L_some := ⟨Or.inl ⟨rfl, rfl, wd_424⟩, wd_25, by decide +kernel, rfl, by decide +kernel, by decide +kernel, by decide +kernel, by decide +kernel⟩
theorem wd_1047 : Jvm.Cond.code yX0_filledWith cX0_filledWith 2 (some FieldType.int) ∈ am_ok := am_wd 1047 (by decide +kernel) (by decide +kernel)
theorem wd_27 : Jvm.Cond.initialized RX0 ∈ am_ok := am_wd 27 (by decide +kernel) (by decide +kernel)
theorem mok_X0_filledWith : am_mOK m_X0_filledWith := ⟨Or.inl ⟨rfl, rfl, wd_1047⟩, wd_27, by decide +kernel, rfl, by decide +kernel, by decide +kernel, by decide +kernel, by decide +kernel⟩
theorem wd_817 : Jvm.Cond.code yX0_isThere cX0_isThere 1 (some FieldType.boolean) ∈ am_ok := am_wd 817 (by decide +kernel) (by decide +kernel)
theorem mok_X0_isThere : am_mOK m_X0_isThere := ⟨Or.inl ⟨rfl, rfl, wd_817⟩, wd_27, by decide +kernel, rfl, by decide +kernel, by decide +kernel, by decide +kernel, by decide +kernel⟩
theorem wd_1105 : Jvm.Cond.code yX0_put cX0_put 3 (none) ∈ am_ok := am_wd 1105 (by decide +kernel) (by decide +kernel)
theorem mok_X0_put : am_mOK m_X0_put := ⟨Or.inl ⟨rfl, rfl, wd_1105⟩, wd_27, by decide +kernel, rfl, by decide +kernel, by decide +kernel, by decide +kernel, by decide +kernel⟩
theorem wd_985 : Jvm.Cond.code yX10_giveByte cX10_giveByte 1 (none) ∈ am_ok := am_wd 985 (by decide +kernel) (by decide +kernel)
theorem wd_34 : Jvm.Cond.initialized RX10 ∈ am_ok := am_wd 34 (by decide +kernel) (by decide +kernel)
theorem mok_X10_giveByte : am_mOK m_X10_giveByte := ⟨Or.inl ⟨rfl, rfl, wd_985⟩, wd_34, by decide +kernel, rfl, by decide +kernel, by decide +kernel, by decide +kernel, by decide +kernel⟩
theorem wd_616 : Jvm.Cond.code yX11_columnOf cX11_columnOf 1 (some FieldType.int) ∈ am_ok := am_wd 616 (by decide +kernel) (by decide +kernel)
theorem wd_26 : Jvm.Cond.initialized RX11 ∈ am_ok := am_wd 26 (by decide +kernel) (by decide +kernel)
theorem mok_X11_columnOf : am_mOK m_X11_columnOf := ⟨Or.inl ⟨rfl, rfl, wd_616⟩, wd_26, by decide +kernel, rfl, by decide +kernel, by decide +kernel, by decide +kernel, by decide +kernel⟩
theorem wd_633 : Jvm.Cond.code yX11_inPicture cX11_inPicture 1 (some FieldType.int) ∈ am_ok := am_wd 633 (by decide +kernel) (by decide +kernel)
theorem mok_X11_inPicture : am_mOK m_X11_inPicture := ⟨Or.inl ⟨rfl, rfl, wd_633⟩, wd_26, by decide +kernel, rfl, by decide +kernel, by decide +kernel, by decide +kernel, by decide +kernel⟩
theorem wd_759 : Jvm.Cond.code yX11_isKeptPlace cX11_isKeptPlace 2 (some FieldType.boolean) ∈ am_ok := am_wd 759 (by decide +kernel) (by decide +kernel)
theorem mok_X11_isKeptPlace : am_mOK m_X11_isKeptPlace := ⟨Or.inl ⟨rfl, rfl, wd_759⟩, wd_26, by decide +kernel, rfl, by decide +kernel, by decide +kernel, by decide +kernel, by decide +kernel⟩
theorem wd_1118 : Jvm.Cond.code yX11_isOnCanvas cX11_isOnCanvas 2 (some FieldType.boolean) ∈ am_ok := am_wd 1118 (by decide +kernel) (by decide +kernel)
theorem mok_X11_isOnCanvas : am_mOK m_X11_isOnCanvas := ⟨Or.inl ⟨rfl, rfl, wd_1118⟩, wd_26, by decide +kernel, rfl, by decide +kernel, by decide +kernel, by decide +kernel, by decide +kernel⟩
theorem wd_1159 : Jvm.Cond.code yX11_isValue cX11_isValue 1 (some FieldType.boolean) ∈ am_ok := am_wd 1159 (by decide +kernel) (by decide +kernel)
theorem mok_X11_isValue : am_mOK m_X11_isValue := ⟨Or.inl ⟨rfl, rfl, wd_1159⟩, wd_26, by decide +kernel, rfl, by decide +kernel, by decide +kernel, by decide +kernel, by decide +kernel⟩
theorem wd_418 : Jvm.Cond.code yX11_kept cX11_kept 1 (some FieldType.int) ∈ am_ok := am_wd 418 (by decide +kernel) (by decide +kernel)
theorem mok_X11_kept : am_mOK m_X11_kept := ⟨Or.inl ⟨rfl, rfl, wd_418⟩, wd_26, by decide +kernel, rfl, by decide +kernel, by decide +kernel, by decide +kernel, by decide +kernel⟩
theorem wd_414 : Jvm.Cond.code yX11_pictures cX11_pictures 1 (some FieldType.int) ∈ am_ok := am_wd 414 (by decide +kernel) (by decide +kernel)
theorem mok_X11_pictures : am_mOK m_X11_pictures := ⟨Or.inl ⟨rfl, rfl, wd_414⟩, wd_26, by decide +kernel, rfl, by decide +kernel, by decide +kernel, by decide +kernel, by decide +kernel⟩
theorem wd_622 : Jvm.Cond.code yX11_placeOf cX11_placeOf 2 (some FieldType.int) ∈ am_ok := am_wd 622 (by decide +kernel) (by decide +kernel)
theorem mok_X11_placeOf : am_mOK m_X11_placeOf := ⟨Or.inl ⟨rfl, rfl, wd_622⟩, wd_26, by decide +kernel, rfl, by decide +kernel, by decide +kernel, by decide +kernel, by decide +kernel⟩
theorem wd_619 : Jvm.Cond.code yX11_rowOf cX11_rowOf 1 (some FieldType.int) ∈ am_ok := am_wd 619 (by decide +kernel) (by decide +kernel)
theorem mok_X11_rowOf : am_mOK m_X11_rowOf := ⟨Or.inl ⟨rfl, rfl, wd_619⟩, wd_26, by decide +kernel, rfl, by decide +kernel, by decide +kernel, by decide +kernel, by decide +kernel⟩
theorem wd_942 : Jvm.Cond.code yX11_squareAt cX11_squareAt 3 (some FieldType.int) ∈ am_ok := am_wd 942 (by decide +kernel) (by decide +kernel)
theorem mok_X11_squareAt : am_mOK m_X11_squareAt := ⟨Or.inl ⟨rfl, rfl, wd_942⟩, wd_26, by decide +kernel, rfl, by decide +kernel, by decide +kernel, by decide +kernel, by decide +kernel⟩
theorem wd_642 : Jvm.Cond.code yX11_startsBlock cX11_startsBlock 1 (some FieldType.boolean) ∈ am_ok := am_wd 642 (by decide +kernel) (by decide +kernel)
theorem mok_X11_startsBlock : am_mOK m_X11_startsBlock := ⟨Or.inl ⟨rfl, rfl, wd_642⟩, wd_26, by decide +kernel, rfl, by decide +kernel, by decide +kernel, by decide +kernel, by decide +kernel⟩
theorem wd_687 : Jvm.Cond.code yX11_withinValues cX11_withinValues 1 (some FieldType.int) ∈ am_ok := am_wd 687 (by decide +kernel) (by decide +kernel)
theorem mok_X11_withinValues : am_mOK m_X11_withinValues := ⟨Or.inl ⟨rfl, rfl, wd_687⟩, wd_26, by decide +kernel, rfl, by decide +kernel, by decide +kernel, by decide +kernel, by decide +kernel⟩
theorem wd_603 : Jvm.Cond.code yX4_inside cX4_inside 1 (some FieldType.int) ∈ am_ok := am_wd 603 (by decide +kernel) (by decide +kernel)
theorem wd_31 : Jvm.Cond.initialized RX4 ∈ am_ok := am_wd 31 (by decide +kernel) (by decide +kernel)
theorem mok_X4_inside : am_mOK m_X4_inside := ⟨Or.inl ⟨rfl, rfl, wd_603⟩, wd_31, by decide +kernel, rfl, by decide +kernel, by decide +kernel, by decide +kernel, by decide +kernel⟩
theorem wd_702 : Jvm.Cond.code yX4_placeFrom cX4_placeFrom 3 (some FieldType.int) ∈ am_ok := am_wd 702 (by decide +kernel) (by decide +kernel)
theorem mok_X4_placeFrom : am_mOK m_X4_placeFrom := ⟨Or.inl ⟨rfl, rfl, wd_702⟩, wd_31, by decide +kernel, rfl, by decide +kernel, by decide +kernel, by decide +kernel, by decide +kernel⟩
theorem wd_680 : Jvm.Cond.code yX5_isOfBorder cX5_isOfBorder 1 (some FieldType.boolean) ∈ am_ok := am_wd 680 (by decide +kernel) (by decide +kernel)
theorem wd_32 : Jvm.Cond.initialized RX5 ∈ am_ok := am_wd 32 (by decide +kernel) (by decide +kernel)
theorem mok_X5_isOfBorder : am_mOK m_X5_isOfBorder := ⟨Or.inl ⟨rfl, rfl, wd_680⟩, wd_32, by decide +kernel, rfl, by decide +kernel, by decide +kernel, by decide +kernel, by decide +kernel⟩
theorem wd_662 : Jvm.Cond.code yX5_lay cX5_lay 5 (none) ∈ am_ok := am_wd 662 (by decide +kernel) (by decide +kernel)
theorem mok_X5_lay : am_mOK m_X5_lay := ⟨Or.inl ⟨rfl, rfl, wd_662⟩, wd_32, by decide +kernel, rfl, by decide +kernel, by decide +kernel, by decide +kernel, by decide +kernel⟩
theorem wd_706 : Jvm.Cond.code yX5_usesFirst cX5_usesFirst 1 (some FieldType.boolean) ∈ am_ok := am_wd 706 (by decide +kernel) (by decide +kernel)
theorem mok_X5_usesFirst : am_mOK m_X5_usesFirst := ⟨Or.inl ⟨rfl, rfl, wd_706⟩, wd_32, by decide +kernel, rfl, by decide +kernel, by decide +kernel, by decide +kernel, by decide +kernel⟩
theorem wd_695 : Jvm.Cond.code yX5_usesSecond cX5_usesSecond 1 (some FieldType.boolean) ∈ am_ok := am_wd 695 (by decide +kernel) (by decide +kernel)
theorem mok_X5_usesSecond : am_mOK m_X5_usesSecond := ⟨Or.inl ⟨rfl, rfl, wd_695⟩, wd_32, by decide +kernel, rfl, by decide +kernel, by decide +kernel, by decide +kernel, by decide +kernel⟩
theorem wd_782 : Jvm.Cond.code yX6_bits cX6_bits 1 (some FieldType.int) ∈ am_ok := am_wd 782 (by decide +kernel) (by decide +kernel)
theorem wd_28 : Jvm.Cond.initialized RX6 ∈ am_ok := am_wd 28 (by decide +kernel) (by decide +kernel)
theorem mok_X6_bits : am_mOK m_X6_bits := ⟨Or.inl ⟨rfl, rfl, wd_782⟩, wd_28, by decide +kernel, rfl, by decide +kernel, by decide +kernel, by decide +kernel, by decide +kernel⟩
theorem wd_849 : Jvm.Cond.code yX6_describe cX6_describe 4 (none) ∈ am_ok := am_wd 849 (by decide +kernel) (by decide +kernel)
theorem mok_X6_describe : am_mOK m_X6_describe := ⟨Or.inl ⟨rfl, rfl, wd_849⟩, wd_28, by decide +kernel, rfl, by decide +kernel, by decide +kernel, by decide +kernel, by decide +kernel⟩
theorem wd_727 : Jvm.Cond.code yX6_has cX6_has 2 (some FieldType.boolean) ∈ am_ok := am_wd 727 (by decide +kernel) (by decide +kernel)
theorem mok_X6_has : am_mOK m_X6_has := ⟨Or.inl ⟨rfl, rfl, wd_727⟩, wd_28, by decide +kernel, rfl, by decide +kernel, by decide +kernel, by decide +kernel, by decide +kernel⟩
theorem wd_593 : Jvm.Cond.code yX6_leansOnFirst cX6_leansOnFirst 1 (some FieldType.boolean) ∈ am_ok := am_wd 593 (by decide +kernel) (by decide +kernel)
theorem mok_X6_leansOnFirst : am_mOK m_X6_leansOnFirst := ⟨Or.inl ⟨rfl, rfl, wd_593⟩, wd_28, by decide +kernel, rfl, by decide +kernel, by decide +kernel, by decide +kernel, by decide +kernel⟩
theorem wd_613 : Jvm.Cond.code yX6_leansOnSecond cX6_leansOnSecond 1 (some FieldType.boolean) ∈ am_ok := am_wd 613 (by decide +kernel) (by decide +kernel)
theorem mok_X6_leansOnSecond : am_mOK m_X6_leansOnSecond := ⟨Or.inl ⟨rfl, rfl, wd_613⟩, wd_28, by decide +kernel, rfl, by decide +kernel, by decide +kernel, by decide +kernel, by decide +kernel⟩
theorem wd_626 : Jvm.Cond.code yX6_sliceOf cX6_sliceOf 2 (some FieldType.int) ∈ am_ok := am_wd 626 (by decide +kernel) (by decide +kernel)
theorem mok_X6_sliceOf : am_mOK m_X6_sliceOf := ⟨Or.inl ⟨rfl, rfl, wd_626⟩, wd_28, by decide +kernel, rfl, by decide +kernel, by decide +kernel, by decide +kernel, by decide +kernel⟩
theorem wd_853 : Jvm.Cond.code yX6_useSettings cX6_useSettings 5 (none) ∈ am_ok := am_wd 853 (by decide +kernel) (by decide +kernel)
theorem mok_X6_useSettings : am_mOK m_X6_useSettings := ⟨Or.inl ⟨rfl, rfl, wd_853⟩, wd_28, by decide +kernel, rfl, by decide +kernel, by decide +kernel, by decide +kernel, by decide +kernel⟩
theorem wd_741 : Jvm.Cond.code yX7_copy cX7_copy 3 (none) ∈ am_ok := am_wd 741 (by decide +kernel) (by decide +kernel)
theorem wd_36 : Jvm.Cond.initialized RX7 ∈ am_ok := am_wd 36 (by decide +kernel) (by decide +kernel)
theorem mok_X7_copy : am_mOK m_X7_copy := ⟨Or.inl ⟨rfl, rfl, wd_741⟩, wd_36, by decide +kernel, rfl, by decide +kernel, by decide +kernel, by decide +kernel, by decide +kernel⟩
theorem wd_606 : Jvm.Cond.code yX7_get cX7_get 2 (some FieldType.int) ∈ am_ok := am_wd 606 (by decide +kernel) (by decide +kernel)
theorem mok_X7_get : am_mOK m_X7_get := ⟨Or.inl ⟨rfl, rfl, wd_606⟩, wd_36, by decide +kernel, rfl, by decide +kernel, by decide +kernel, by decide +kernel, by decide +kernel⟩
theorem wd_609 : Jvm.Cond.code yX7_put cX7_put 3 (none) ∈ am_ok := am_wd 609 (by decide +kernel) (by decide +kernel)
theorem mok_X7_put : am_mOK m_X7_put := ⟨Or.inl ⟨rfl, rfl, wd_609⟩, wd_36, by decide +kernel, rfl, by decide +kernel, by decide +kernel, by decide +kernel, by decide +kernel⟩
theorem wd_364 : Jvm.Cond.code yX7_set cX7_set 3 (none) ∈ am_ok := am_wd 364 (by decide +kernel) (by decide +kernel)
theorem mok_X7_set : am_mOK m_X7_set := ⟨Or.inl ⟨rfl, rfl, wd_364⟩, wd_36, by decide +kernel, rfl, by decide +kernel, by decide +kernel, by decide +kernel, by decide +kernel⟩
theorem wd_748 : Jvm.Cond.code yX7_shift cX7_shift 3 (none) ∈ am_ok := am_wd 748 (by decide +kernel) (by decide +kernel)
theorem mok_X7_shift : am_mOK m_X7_shift := ⟨Or.inl ⟨rfl, rfl, wd_748⟩, wd_36, by decide +kernel, rfl, by decide +kernel, by decide +kernel, by decide +kernel, by decide +kernel⟩
theorem wd_1038 : Jvm.Cond.code yX8_bits cX8_bits 1 (some FieldType.int) ∈ am_ok := am_wd 1038 (by decide +kernel) (by decide +kernel)
theorem wd_33 : Jvm.Cond.initialized RX8 ∈ am_ok := am_wd 33 (by decide +kernel) (by decide +kernel)
theorem mok_X8_bits : am_mOK m_X8_bits := ⟨Or.inl ⟨rfl, rfl, wd_1038⟩, wd_33, by decide +kernel, rfl, by decide +kernel, by decide +kernel, by decide +kernel, by decide +kernel⟩
theorem wd_909 : Jvm.Cond.code yX9_down cX9_down 1 (some FieldType.int) ∈ am_ok := am_wd 909 (by decide +kernel) (by decide +kernel)
theorem wd_48 : Jvm.Cond.initialized RX9 ∈ am_ok := am_wd 48 (by decide +kernel) (by decide +kernel)
theorem mok_X9_down : am_mOK m_X9_down := ⟨Or.inl ⟨rfl, rfl, wd_909⟩, wd_48, by decide +kernel, rfl, by decide +kernel, by decide +kernel, by decide +kernel, by decide +kernel⟩
theorem wd_894 : Jvm.Cond.code yX9_of cX9_of 2 (some FieldType.int) ∈ am_ok := am_wd 894 (by decide +kernel) (by decide +kernel)
theorem mok_X9_of : am_mOK m_X9_of := ⟨Or.inl ⟨rfl, rfl, wd_894⟩, wd_48, by decide +kernel, rfl, by decide +kernel, by decide +kernel, by decide +kernel, by decide +kernel⟩
theorem wd_905 : Jvm.Cond.code yX9_right cX9_right 1 (some FieldType.int) ∈ am_ok := am_wd 905 (by decide +kernel) (by decide +kernel)
theorem mok_X9_right : am_mOK m_X9_right := ⟨Or.inl ⟨rfl, rfl, wd_905⟩, wd_48, by decide +kernel, rfl, by decide +kernel, by decide +kernel, by decide +kernel, by decide +kernel⟩
theorem wd_1042 : Jvm.Cond.code yX0_hasRoomFor cX0_hasRoomFor 2 (some FieldType.boolean) ∈ am_ok := am_wd 1042 (by decide +kernel) (by decide +kernel)
theorem mok_X0_hasRoomFor : am_mOK m_X0_hasRoomFor := ⟨Or.inl ⟨rfl, rfl, wd_1042⟩, wd_27, by decide +kernel, rfl, by decide +kernel, by decide +kernel, by decide +kernel, by decide +kernel⟩
theorem wd_62 : Jvm.Cond.code yX0_init cX0_init 1 (none) ∈ am_ok := am_wd 62 (by decide +kernel) (by decide +kernel)
theorem mok_X0_init : am_mOK m_X0_init := ⟨Or.inl ⟨rfl, rfl, wd_62⟩, wd_27, by decide +kernel, rfl, by decide +kernel, by decide +kernel, by decide +kernel, by decide +kernel⟩
theorem wd_1085 : Jvm.Cond.code yX0_steer cX0_steer 2 (some FieldType.int) ∈ am_ok := am_wd 1085 (by decide +kernel) (by decide +kernel)
theorem mok_X0_steer : am_mOK m_X0_steer := ⟨Or.inl ⟨rfl, rfl, wd_1085⟩, wd_27, by decide +kernel, rfl, by decide +kernel, by decide +kernel, by decide +kernel, by decide +kernel⟩
theorem wd_1081 : Jvm.Cond.code yX0_take cX0_take 2 (none) ∈ am_ok := am_wd 1081 (by decide +kernel) (by decide +kernel)
theorem mok_X0_take : am_mOK m_X0_take := ⟨Or.inl ⟨rfl, rfl, wd_1081⟩, wd_27, by decide +kernel, rfl, by decide +kernel, by decide +kernel, by decide +kernel, by decide +kernel⟩
theorem wd_1034 : Jvm.Cond.code yX10_end cX10_end 2 (none) ∈ am_ok := am_wd 1034 (by decide +kernel) (by decide +kernel)
theorem mok_X10_end : am_mOK m_X10_end := ⟨Or.inl ⟨rfl, rfl, wd_1034⟩, wd_34, by decide +kernel, rfl, by decide +kernel, by decide +kernel, by decide +kernel, by decide +kernel⟩
theorem wd_269 : Jvm.Cond.code yX10_init cX10_init 1 (none) ∈ am_ok := am_wd 269 (by decide +kernel) (by decide +kernel)
theorem mok_X10_init : am_mOK m_X10_init := ⟨Or.inl ⟨rfl, rfl, wd_269⟩, wd_34, by decide +kernel, rfl, by decide +kernel, by decide +kernel, by decide +kernel, by decide +kernel⟩
theorem wd_980 : Jvm.Cond.code yX10_narrow cX10_narrow 6 (none) ∈ am_ok := am_wd 980 (by decide +kernel) (by decide +kernel)
theorem mok_X10_narrow : am_mOK m_X10_narrow := ⟨Or.inl ⟨rfl, rfl, wd_980⟩, wd_34, by decide +kernel, rfl, by decide +kernel, by decide +kernel, by decide +kernel, by decide +kernel⟩
theorem wd_963 : Jvm.Cond.code yX10_start cX10_start 1 (none) ∈ am_ok := am_wd 963 (by decide +kernel) (by decide +kernel)
theorem mok_X10_start : am_mOK m_X10_start := ⟨Or.inl ⟨rfl, rfl, wd_963⟩, wd_34, by decide +kernel, rfl, by decide +kernel, by decide +kernel, by decide +kernel, by decide +kernel⟩
theorem wd_1071 : Jvm.Cond.code yX10_written cX10_written 2 (some (FieldType.array FieldType.int)) ∈ am_ok := am_wd 1071 (by decide +kernel) (by decide +kernel)
theorem mok_X10_written : am_mOK m_X10_written := ⟨Or.inl ⟨rfl, rfl, wd_1071⟩, wd_34, by decide +kernel, rfl, by decide +kernel, by decide +kernel, by decide +kernel, by decide +kernel⟩
theorem wd_669 : Jvm.Cond.code yX1_bordering cX1_bordering 4 (some FieldType.int) ∈ am_ok := am_wd 669 (by decide +kernel) (by decide +kernel)
theorem wd_30 : Jvm.Cond.initialized RX1 ∈ am_ok := am_wd 30 (by decide +kernel) (by decide +kernel)
theorem mok_X1_bordering : am_mOK m_X1_bordering := ⟨Or.inl ⟨rfl, rfl, wd_669⟩, wd_30, by decide +kernel, rfl, by decide +kernel, by decide +kernel, by decide +kernel, by decide +kernel⟩
theorem wd_684 : Jvm.Cond.code yX1_fromBorder cX1_fromBorder 4 (some FieldType.int) ∈ am_ok := am_wd 684 (by decide +kernel) (by decide +kernel)
theorem mok_X1_fromBorder : am_mOK m_X1_fromBorder := ⟨Or.inl ⟨rfl, rfl, wd_684⟩, wd_30, by decide +kernel, rfl, by decide +kernel, by decide +kernel, by decide +kernel, by decide +kernel⟩
theorem wd_927 : Jvm.Cond.code yX1_guessError cX1_guessError 7 (some FieldType.int) ∈ am_ok := am_wd 927 (by decide +kernel) (by decide +kernel)
theorem mok_X1_guessError : am_mOK m_X1_guessError := ⟨Or.inl ⟨rfl, rfl, wd_927⟩, wd_30, by decide +kernel, rfl, by decide +kernel, by decide +kernel, by decide +kernel, by decide +kernel⟩
theorem wd_952 : Jvm.Cond.code yX1_levelOf cX1_levelOf 3 (some FieldType.int) ∈ am_ok := am_wd 952 (by decide +kernel) (by decide +kernel)
theorem mok_X1_levelOf : am_mOK m_X1_levelOf := ⟨Or.inl ⟨rfl, rfl, wd_952⟩, wd_30, by decide +kernel, rfl, by decide +kernel, by decide +kernel, by decide +kernel, by decide +kernel⟩
theorem wd_730 : Jvm.Cond.code yX1_smoothPair cX1_smoothPair 7 (none) ∈ am_ok := am_wd 730 (by decide +kernel) (by decide +kernel)
theorem mok_X1_smoothPair : am_mOK m_X1_smoothPair := ⟨Or.inl ⟨rfl, rfl, wd_730⟩, wd_30, by decide +kernel, rfl, by decide +kernel, by decide +kernel, by decide +kernel, by decide +kernel⟩
theorem wd_719 : Jvm.Cond.code yX1_transformLine cX1_transformLine 7 (none) ∈ am_ok := am_wd 719 (by decide +kernel) (by decide +kernel)
theorem mok_X1_transformLine : am_mOK m_X1_transformLine := ⟨Or.inl ⟨rfl, rfl, wd_719⟩, wd_30, by decide +kernel, rfl, by decide +kernel, by decide +kernel, by decide +kernel, by decide +kernel⟩
theorem wd_874 : Jvm.Cond.code yX2_isToSplit cX2_isToSplit 9 (some FieldType.boolean) ∈ am_ok := am_wd 874 (by decide +kernel) (by decide +kernel)
theorem wd_29 : Jvm.Cond.initialized RX2 ∈ am_ok := am_wd 29 (by decide +kernel) (by decide +kernel)
theorem mok_X2_isToSplit : am_mOK m_X2_isToSplit := ⟨Or.inl ⟨rfl, rfl, wd_874⟩, wd_29, by decide +kernel, rfl, by decide +kernel, by decide +kernel, by decide +kernel, by decide +kernel⟩
theorem wd_630 : Jvm.Cond.code yX3_conceal cX3_conceal 4 (none) ∈ am_ok := am_wd 630 (by decide +kernel) (by decide +kernel)
theorem wd_35 : Jvm.Cond.initialized RX3 ∈ am_ok := am_wd 35 (by decide +kernel) (by decide +kernel)
theorem mok_X3_conceal : am_mOK m_X3_conceal := ⟨Or.inl ⟨rfl, rfl, wd_630⟩, wd_35, by decide +kernel, rfl, by decide +kernel, by decide +kernel, by decide +kernel, by decide +kernel⟩
theorem wd_745 : Jvm.Cond.code yX3_keep cX3_keep 1 (none) ∈ am_ok := am_wd 745 (by decide +kernel) (by decide +kernel)
theorem mok_X3_keep : am_mOK m_X3_keep := ⟨Or.inl ⟨rfl, rfl, wd_745⟩, wd_35, by decide +kernel, rfl, by decide +kernel, by decide +kernel, by decide +kernel, by decide +kernel⟩
theorem wd_738 : Jvm.Cond.code yX3_leansOnClean cX3_leansOnClean 2 (some FieldType.boolean) ∈ am_ok := am_wd 738 (by decide +kernel) (by decide +kernel)
theorem mok_X3_leansOnClean : am_mOK m_X3_leansOnClean := ⟨Or.inl ⟨rfl, rfl, wd_738⟩, wd_35, by decide +kernel, rfl, by decide +kernel, by decide +kernel, by decide +kernel, by decide +kernel⟩
theorem wd_361 : Jvm.Cond.code yX3_startAt cX3_startAt 2 (none) ∈ am_ok := am_wd 361 (by decide +kernel) (by decide +kernel)
theorem mok_X3_startAt : am_mOK m_X3_startAt := ⟨Or.inl ⟨rfl, rfl, wd_361⟩, wd_35, by decide +kernel, rfl, by decide +kernel, by decide +kernel, by decide +kernel, by decide +kernel⟩
theorem wd_600 : Jvm.Cond.code yX4_between cX4_between 9 (some FieldType.int) ∈ am_ok := am_wd 600 (by decide +kernel) (by decide +kernel)
theorem mok_X4_between : am_mOK m_X4_between := ⟨Or.inl ⟨rfl, rfl, wd_600⟩, wd_31, by decide +kernel, rfl, by decide +kernel, by decide +kernel, by decide +kernel, by decide +kernel⟩
theorem wd_699 : Jvm.Cond.code yX4_guessed cX4_guessed 4 (some FieldType.int) ∈ am_ok := am_wd 699 (by decide +kernel) (by decide +kernel)
theorem mok_X4_guessed : am_mOK m_X4_guessed := ⟨Or.inl ⟨rfl, rfl, wd_699⟩, wd_31, by decide +kernel, rfl, by decide +kernel, by decide +kernel, by decide +kernel, by decide +kernel⟩
theorem wd_167 : Jvm.Cond.code yX4_init cX4_init 1 (none) ∈ am_ok := am_wd 167 (by decide +kernel) (by decide +kernel)
theorem mok_X4_init : am_mOK m_X4_init := ⟨Or.inl ⟨rfl, rfl, wd_167⟩, wd_31, by decide +kernel, rfl, by decide +kernel, by decide +kernel, by decide +kernel, by decide +kernel⟩
theorem wd_914 : Jvm.Cond.code yX4_rowDifference cX4_rowDifference 7 (some FieldType.int) ∈ am_ok := am_wd 914 (by decide +kernel) (by decide +kernel)
theorem mok_X4_rowDifference : am_mOK m_X4_rowDifference := ⟨Or.inl ⟨rfl, rfl, wd_914⟩, wd_31, by decide +kernel, rfl, by decide +kernel, by decide +kernel, by decide +kernel, by decide +kernel⟩
theorem wd_206 : Jvm.Cond.code yX5_init cX5_init 1 (none) ∈ am_ok := am_wd 206 (by decide +kernel) (by decide +kernel)
theorem mok_X5_init : am_mOK m_X5_init := ⟨Or.inl ⟨rfl, rfl, wd_206⟩, wd_32, by decide +kernel, rfl, by decide +kernel, by decide +kernel, by decide +kernel, by decide +kernel⟩
theorem wd_1077 : Jvm.Cond.code yX6_finish cX6_finish 6 (none) ∈ am_ok := am_wd 1077 (by decide +kernel) (by decide +kernel)
theorem mok_X6_finish : am_mOK m_X6_finish := ⟨Or.inl ⟨rfl, rfl, wd_1077⟩, wd_28, by decide +kernel, rfl, by decide +kernel, by decide +kernel, by decide +kernel, by decide +kernel⟩
theorem wd_81 : Jvm.Cond.code yX6_init cX6_init 1 (none) ∈ am_ok := am_wd 81 (by decide +kernel) (by decide +kernel)
theorem mok_X6_init : am_mOK m_X6_init := ⟨Or.inl ⟨rfl, rfl, wd_81⟩, wd_28, by decide +kernel, rfl, by decide +kernel, by decide +kernel, by decide +kernel, by decide +kernel⟩
theorem wd_646 : Jvm.Cond.code yX6_isSplitAt cX6_isSplitAt 2 (some FieldType.boolean) ∈ am_ok := am_wd 646 (by decide +kernel) (by decide +kernel)
theorem mok_X6_isSplitAt : am_mOK m_X6_isSplitAt := ⟨Or.inl ⟨rfl, rfl, wd_646⟩, wd_28, by decide +kernel, rfl, by decide +kernel, by decide +kernel, by decide +kernel, by decide +kernel⟩
theorem wd_920 : Jvm.Cond.code yX6_modeCount cX6_modeCount 1 (some FieldType.int) ∈ am_ok := am_wd 920 (by decide +kernel) (by decide +kernel)
theorem mok_X6_modeCount : am_mOK m_X6_modeCount := ⟨Or.inl ⟨rfl, rfl, wd_920⟩, wd_28, by decide +kernel, rfl, by decide +kernel, by decide +kernel, by decide +kernel, by decide +kernel⟩
theorem wd_939 : Jvm.Cond.code yX6_note cX6_note 5 (none) ∈ am_ok := am_wd 939 (by decide +kernel) (by decide +kernel)
theorem mok_X6_note : am_mOK m_X6_note := ⟨Or.inl ⟨rfl, rfl, wd_939⟩, wd_28, by decide +kernel, rfl, by decide +kernel, by decide +kernel, by decide +kernel, by decide +kernel⟩
theorem wd_657 : Jvm.Cond.code yX6_topOf cX6_topOf 2 (some FieldType.int) ∈ am_ok := am_wd 657 (by decide +kernel) (by decide +kernel)
theorem mok_X6_topOf : am_mOK m_X6_topOf := ⟨Or.inl ⟨rfl, rfl, wd_657⟩, wd_28, by decide +kernel, rfl, by decide +kernel, by decide +kernel, by decide +kernel, by decide +kernel⟩
theorem wd_902 : Jvm.Cond.code yX9_length cX9_length 1 (some FieldType.int) ∈ am_ok := am_wd 902 (by decide +kernel) (by decide +kernel)
theorem mok_X9_length : am_mOK m_X9_length := ⟨Or.inl ⟨rfl, rfl, wd_902⟩, wd_48, by decide +kernel, rfl, by decide +kernel, by decide +kernel, by decide +kernel, by decide +kernel⟩
theorem wd_973 : Jvm.Cond.code yX10_bit cX10_bit 6 (none) ∈ am_ok := am_wd 973 (by decide +kernel) (by decide +kernel)
theorem mok_X10_bit : am_mOK m_X10_bit := ⟨Or.inl ⟨rfl, rfl, wd_973⟩, wd_34, by decide +kernel, rfl, by decide +kernel, by decide +kernel, by decide +kernel, by decide +kernel⟩
theorem wd_1012 : Jvm.Cond.code yX10_plain cX10_plain 4 (none) ∈ am_ok := am_wd 1012 (by decide +kernel) (by decide +kernel)
theorem mok_X10_plain : am_mOK m_X10_plain := ⟨Or.inl ⟨rfl, rfl, wd_1012⟩, wd_34, by decide +kernel, rfl, by decide +kernel, by decide +kernel, by decide +kernel, by decide +kernel⟩
theorem wd_1089 : Jvm.Cond.code yX11_takeDraft cX11_takeDraft 1 (none) ∈ am_ok := am_wd 1089 (by decide +kernel) (by decide +kernel)
theorem mok_X11_takeDraft : am_mOK m_X11_takeDraft := ⟨Or.inl ⟨rfl, rfl, wd_1089⟩, wd_26, by decide +kernel, rfl, by decide +kernel, by decide +kernel, by decide +kernel, by decide +kernel⟩
theorem wd_691 : Jvm.Cond.code yX1_fromKept cX1_fromKept 5 (some FieldType.int) ∈ am_ok := am_wd 691 (by decide +kernel) (by decide +kernel)
theorem mok_X1_fromKept : am_mOK m_X1_fromKept := ⟨Or.inl ⟨rfl, rfl, wd_691⟩, wd_30, by decide +kernel, rfl, by decide +kernel, by decide +kernel, by decide +kernel, by decide +kernel⟩
theorem wd_161 : Jvm.Cond.code yX1_init cX1_init 1 (none) ∈ am_ok := am_wd 161 (by decide +kernel) (by decide +kernel)
theorem mok_X1_init : am_mOK m_X1_init := ⟨Or.inl ⟨rfl, rfl, wd_161⟩, wd_30, by decide +kernel, rfl, by decide +kernel, by decide +kernel, by decide +kernel, by decide +kernel⟩
theorem wd_723 : Jvm.Cond.code yX1_smooth cX1_smooth 6 (none) ∈ am_ok := am_wd 723 (by decide +kernel) (by decide +kernel)
theorem mok_X1_smooth : am_mOK m_X1_smooth := ⟨Or.inl ⟨rfl, rfl, wd_723⟩, wd_30, by decide +kernel, rfl, by decide +kernel, by decide +kernel, by decide +kernel, by decide +kernel⟩
theorem wd_666 : Jvm.Cond.code yX1_takeBorder cX1_takeBorder 7 (none) ∈ am_ok := am_wd 666 (by decide +kernel) (by decide +kernel)
theorem mok_X1_takeBorder : am_mOK m_X1_takeBorder := ⟨Or.inl ⟨rfl, rfl, wd_666⟩, wd_30, by decide +kernel, rfl, by decide +kernel, by decide +kernel, by decide +kernel, by decide +kernel⟩
theorem wd_715 : Jvm.Cond.code yX1_transform cX1_transform 2 (none) ∈ am_ok := am_wd 715 (by decide +kernel) (by decide +kernel)
theorem mok_X1_transform : am_mOK m_X1_transform := ⟨Or.inl ⟨rfl, rfl, wd_715⟩, wd_30, by decide +kernel, rfl, by decide +kernel, by decide +kernel, by decide +kernel, by decide +kernel⟩
theorem wd_899 : Jvm.Cond.code yX4_costOf cX4_costOf 9 (some FieldType.int) ∈ am_ok := am_wd 899 (by decide +kernel) (by decide +kernel)
theorem mok_X4_costOf : am_mOK m_X4_costOf := ⟨Or.inl ⟨rfl, rfl, wd_899⟩, wd_31, by decide +kernel, rfl, by decide +kernel, by decide +kernel, by decide +kernel, by decide +kernel⟩
theorem wd_597 : Jvm.Cond.code yX4_take cX4_take 5 (none) ∈ am_ok := am_wd 597 (by decide +kernel) (by decide +kernel)
theorem mok_X4_take : am_mOK m_X4_take := ⟨Or.inl ⟨rfl, rfl, wd_597⟩, wd_31, by decide +kernel, rfl, by decide +kernel, by decide +kernel, by decide +kernel, by decide +kernel⟩
theorem wd_931 : Jvm.Cond.code yX5_extraCost cX5_extraCost 2 (some FieldType.int) ∈ am_ok := am_wd 931 (by decide +kernel) (by decide +kernel)
theorem mok_X5_extraCost : am_mOK m_X5_extraCost := ⟨Or.inl ⟨rfl, rfl, wd_931⟩, wd_32, by decide +kernel, rfl, by decide +kernel, by decide +kernel, by decide +kernel, by decide +kernel⟩
theorem wd_651 : Jvm.Cond.code yX6_recall cX6_recall 4 (none) ∈ am_ok := am_wd 651 (by decide +kernel) (by decide +kernel)
theorem mok_X6_recall : am_mOK m_X6_recall := ⟨Or.inl ⟨rfl, rfl, wd_651⟩, wd_28, by decide +kernel, rfl, by decide +kernel, by decide +kernel, by decide +kernel, by decide +kernel⟩
theorem wd_639 : Jvm.Cond.code yX6_startsPart cX6_startsPart 2 (some FieldType.boolean) ∈ am_ok := am_wd 639 (by decide +kernel) (by decide +kernel)
theorem mok_X6_startsPart : am_mOK m_X6_startsPart := ⟨Or.inl ⟨rfl, rfl, wd_639⟩, wd_28, by decide +kernel, rfl, by decide +kernel, by decide +kernel, by decide +kernel, by decide +kernel⟩
theorem wd_263 : Jvm.Cond.code yX8_init cX8_init 1 (none) ∈ am_ok := am_wd 263 (by decide +kernel) (by decide +kernel)
theorem mok_X8_init : am_mOK m_X8_init := ⟨Or.inl ⟨rfl, rfl, wd_263⟩, wd_33, by decide +kernel, rfl, by decide +kernel, by decide +kernel, by decide +kernel, by decide +kernel⟩
theorem wd_1067 : Jvm.Cond.code yX8_slice cX8_slice 2 (some (FieldType.array FieldType.int)) ∈ am_ok := am_wd 1067 (by decide +kernel) (by decide +kernel)
theorem mok_X8_slice : am_mOK m_X8_slice := ⟨Or.inl ⟨rfl, rfl, wd_1067⟩, wd_33, by decide +kernel, rfl, by decide +kernel, by decide +kernel, by decide +kernel, by decide +kernel⟩
theorem wd_1006 : Jvm.Cond.code yX10_number cX10_number 7 (none) ∈ am_ok := am_wd 1006 (by decide +kernel) (by decide +kernel)
theorem mok_X10_number : am_mOK m_X10_number := ⟨Or.inl ⟨rfl, rfl, wd_1006⟩, wd_34, by decide +kernel, rfl, by decide +kernel, by decide +kernel, by decide +kernel, by decide +kernel⟩
theorem wd_710 : Jvm.Cond.code yX1_buildSquare cX1_buildSquare 7 (none) ∈ am_ok := am_wd 710 (by decide +kernel) (by decide +kernel)
theorem mok_X1_buildSquare : am_mOK m_X1_buildSquare := ⟨Or.inl ⟨rfl, rfl, wd_710⟩, wd_30, by decide +kernel, rfl, by decide +kernel, by decide +kernel, by decide +kernel, by decide +kernel⟩
theorem wd_676 : Jvm.Cond.code yX1_guessPart cX1_guessPart 5 (none) ∈ am_ok := am_wd 676 (by decide +kernel) (by decide +kernel)
theorem mok_X1_guessPart : am_mOK m_X1_guessPart := ⟨Or.inl ⟨rfl, rfl, wd_676⟩, wd_30, by decide +kernel, rfl, by decide +kernel, by decide +kernel, by decide +kernel, by decide +kernel⟩
theorem wd_949 : Jvm.Cond.code yX1_levelSquare cX1_levelSquare 6 (none) ∈ am_ok := am_wd 949 (by decide +kernel) (by decide +kernel)
theorem mok_X1_levelSquare : am_mOK m_X1_levelSquare := ⟨Or.inl ⟨rfl, rfl, wd_949⟩, wd_30, by decide +kernel, rfl, by decide +kernel, by decide +kernel, by decide +kernel, by decide +kernel⟩
theorem wd_155 : Jvm.Cond.code yX2_init cX2_init 1 (none) ∈ am_ok := am_wd 155 (by decide +kernel) (by decide +kernel)
theorem mok_X2_init : am_mOK m_X2_init := ⟨Or.inl ⟨rfl, rfl, wd_155⟩, wd_29, by decide +kernel, rfl, by decide +kernel, by decide +kernel, by decide +kernel, by decide +kernel⟩
theorem wd_861 : Jvm.Cond.code yX2_lean cX2_lean 4 (none) ∈ am_ok := am_wd 861 (by decide +kernel) (by decide +kernel)
theorem mok_X2_lean : am_mOK m_X2_lean := ⟨Or.inl ⟨rfl, rfl, wd_861⟩, wd_29, by decide +kernel, rfl, by decide +kernel, by decide +kernel, by decide +kernel, by decide +kernel⟩
theorem wd_891 : Jvm.Cond.code yX2_search cX2_search 11 (some FieldType.int) ∈ am_ok := am_wd 891 (by decide +kernel) (by decide +kernel)
theorem mok_X2_search : am_mOK m_X2_search := ⟨Or.inl ⟨rfl, rfl, wd_891⟩, wd_29, by decide +kernel, rfl, by decide +kernel, by decide +kernel, by decide +kernel, by decide +kernel⟩
theorem wd_308 : Jvm.Cond.code yX3_init cX3_init 1 (none) ∈ am_ok := am_wd 308 (by decide +kernel) (by decide +kernel)
theorem mok_X3_init : am_mOK m_X3_init := ⟨Or.inl ⟨rfl, rfl, wd_308⟩, wd_35, by decide +kernel, rfl, by decide +kernel, by decide +kernel, by decide +kernel, by decide +kernel⟩
theorem wd_791 : Jvm.Cond.code yX6_partsInMode cX6_partsInMode 4 (some FieldType.int) ∈ am_ok := am_wd 791 (by decide +kernel) (by decide +kernel)
theorem mok_X6_partsInMode : am_mOK m_X6_partsInMode := ⟨Or.inl ⟨rfl, rfl, wd_791⟩, wd_28, by decide +kernel, rfl, by decide +kernel, by decide +kernel, by decide +kernel, by decide +kernel⟩
theorem wd_1030 : Jvm.Cond.code yX8_writeLastPlace cX8_writeLastPlace 5 (none) ∈ am_ok := am_wd 1030 (by decide +kernel) (by decide +kernel)
theorem mok_X8_writeLastPlace : am_mOK m_X8_writeLastPlace := ⟨Or.inl ⟨rfl, rfl, wd_1030⟩, wd_33, by decide +kernel, rfl, by decide +kernel, by decide +kernel, by decide +kernel, by decide +kernel⟩
theorem wd_992 : Jvm.Cond.code yX8_writeMode cX8_writeMode 2 (none) ∈ am_ok := am_wd 992 (by decide +kernel) (by decide +kernel)
theorem mok_X8_writeMode : am_mOK m_X8_writeMode := ⟨Or.inl ⟨rfl, rfl, wd_992⟩, wd_33, by decide +kernel, rfl, by decide +kernel, by decide +kernel, by decide +kernel, by decide +kernel⟩
theorem wd_54 : Jvm.Cond.code yX11_init cX11_init 1 (none) ∈ am_ok := am_wd 54 (by decide +kernel) (by decide +kernel)
theorem mok_X11_init : am_mOK m_X11_init := ⟨Or.inl ⟨rfl, rfl, wd_54⟩, wd_26, by decide +kernel, rfl, by decide +kernel, by decide +kernel, by decide +kernel, by decide +kernel⟩
theorem wd_887 : Jvm.Cond.code yX2_choosePart cX2_choosePart 8 (none) ∈ am_ok := am_wd 887 (by decide +kernel) (by decide +kernel)
theorem mok_X2_choosePart : am_mOK m_X2_choosePart := ⟨Or.inl ⟨rfl, rfl, wd_887⟩, wd_29, by decide +kernel, rfl, by decide +kernel, by decide +kernel, by decide +kernel, by decide +kernel⟩
theorem wd_589 : Jvm.Cond.code yX3_build cX3_build 6 (none) ∈ am_ok := am_wd 589 (by decide +kernel) (by decide +kernel)
theorem mok_X3_build : am_mOK m_X3_build := ⟨Or.inl ⟨rfl, rfl, wd_589⟩, wd_35, by decide +kernel, rfl, by decide +kernel, by decide +kernel, by decide +kernel, by decide +kernel⟩
theorem wd_1022 : Jvm.Cond.code yX8_writeSquare cX8_writeSquare 6 (none) ∈ am_ok := am_wd 1022 (by decide +kernel) (by decide +kernel)
theorem mok_X8_writeSquare : am_mOK m_X8_writeSquare := ⟨Or.inl ⟨rfl, rfl, wd_1022⟩, wd_33, by decide +kernel, rfl, by decide +kernel, by decide +kernel, by decide +kernel, by decide +kernel⟩
theorem wd_1000 : Jvm.Cond.code yX8_writeVector cX8_writeVector 6 (some FieldType.int) ∈ am_ok := am_wd 1000 (by decide +kernel) (by decide +kernel)
theorem mok_X8_writeVector : am_mOK m_X8_writeVector := ⟨Or.inl ⟨rfl, rfl, wd_1000⟩, wd_33, by decide +kernel, rfl, by decide +kernel, by decide +kernel, by decide +kernel, by decide +kernel⟩
theorem wd_868 : Jvm.Cond.code yX2_choose cX2_choose 7 (none) ∈ am_ok := am_wd 868 (by decide +kernel) (by decide +kernel)
theorem mok_X2_choose : am_mOK m_X2_choose := ⟨Or.inl ⟨rfl, rfl, wd_868⟩, wd_29, by decide +kernel, rfl, by decide +kernel, by decide +kernel, by decide +kernel, by decide +kernel⟩
theorem wd_585 : Jvm.Cond.code yX3_receive cX3_receive 3 (none) ∈ am_ok := am_wd 585 (by decide +kernel) (by decide +kernel)
theorem mok_X3_receive : am_mOK m_X3_receive := ⟨Or.inl ⟨rfl, rfl, wd_585⟩, wd_35, by decide +kernel, rfl, by decide +kernel, by decide +kernel, by decide +kernel, by decide +kernel⟩
theorem wd_958 : Jvm.Cond.code yX8_writeSlice cX8_writeSlice 6 (none) ∈ am_ok := am_wd 958 (by decide +kernel) (by decide +kernel)
theorem mok_X8_writeSlice : am_mOK m_X8_writeSlice := ⟨Or.inl ⟨rfl, rfl, wd_958⟩, wd_33, by decide +kernel, rfl, by decide +kernel, by decide +kernel, by decide +kernel, by decide +kernel⟩
theorem wd_813 : Jvm.Cond.code yX11_bucket cX11_bucket 1 (some FieldType.int) ∈ am_ok := am_wd 813 (by decide +kernel) (by decide +kernel)
theorem mok_X11_bucket : am_mOK m_X11_bucket := ⟨Or.inl ⟨rfl, rfl, wd_813⟩, wd_26, by decide +kernel, rfl, by decide +kernel, by decide +kernel, by decide +kernel, by decide +kernel⟩
theorem wd_1206 : Jvm.Cond.code yX11_cleanShare cX11_cleanShare 1 (some FieldType.float) ∈ am_ok := am_wd 1206 (by decide +kernel) (by decide +kernel)
theorem mok_X11_cleanShare : am_mOK m_X11_cleanShare := ⟨Or.inl ⟨rfl, rfl, wd_1206⟩, wd_26, by decide +kernel, rfl, by decide +kernel, by decide +kernel, by decide +kernel, by decide +kernel⟩
theorem wd_1155 : Jvm.Cond.code yX11_fill cX11_fill 10 (some FieldType.int) ∈ am_ok := am_wd 1155 (by decide +kernel) (by decide +kernel)
theorem mok_X11_fill : am_mOK m_X11_fill := ⟨Or.inl ⟨rfl, rfl, wd_1155⟩, wd_26, by decide +kernel, rfl, by decide +kernel, by decide +kernel, by decide +kernel, by decide +kernel⟩
theorem wd_1170 : Jvm.Cond.code yX11_grain cX11_grain 6 (some FieldType.int) ∈ am_ok := am_wd 1170 (by decide +kernel) (by decide +kernel)
theorem mok_X11_grain : am_mOK m_X11_grain := ⟨Or.inl ⟨rfl, rfl, wd_1170⟩, wd_26, by decide +kernel, rfl, by decide +kernel, by decide +kernel, by decide +kernel, by decide +kernel⟩
theorem wd_543 : Jvm.Cond.code yX11_join cX11_join 3 (some FieldType.int) ∈ am_ok := am_wd 543 (by decide +kernel) (by decide +kernel)
theorem mok_X11_join : am_mOK m_X11_join := ⟨Or.inl ⟨rfl, rfl, wd_543⟩, wd_26, by decide +kernel, rfl, by decide +kernel, by decide +kernel, by decide +kernel, by decide +kernel⟩
theorem wd_755 : Jvm.Cond.code yX11_keptAt cX11_keptAt 2 (some FieldType.int) ∈ am_ok := am_wd 755 (by decide +kernel) (by decide +kernel)
theorem mok_X11_keptAt : am_mOK m_X11_keptAt := ⟨Or.inl ⟨rfl, rfl, wd_755⟩, wd_26, by decide +kernel, rfl, by decide +kernel, by decide +kernel, by decide +kernel, by decide +kernel⟩
theorem wd_1177 : Jvm.Cond.code yX11_move cX11_move 6 (some FieldType.int) ∈ am_ok := am_wd 1177 (by decide +kernel) (by decide +kernel)
theorem mok_X11_move : am_mOK m_X11_move := ⟨Or.inl ⟨rfl, rfl, wd_1177⟩, wd_26, by decide +kernel, rfl, by decide +kernel, by decide +kernel, by decide +kernel, by decide +kernel⟩
theorem wd_580 : Jvm.Cond.code yX11_pictureAt cX11_pictureAt 3 (some (FieldType.object "BlockCast$Picture")) ∈ am_ok := am_wd 580 (by decide +kernel) (by decide +kernel)
theorem mok_X11_pictureAt : am_mOK m_X11_pictureAt := ⟨Or.inl ⟨rfl, rfl, wd_580⟩, wd_26, by decide +kernel, rfl, by decide +kernel, by decide +kernel, by decide +kernel, by decide +kernel⟩
theorem wd_1115 : Jvm.Cond.code yX11_refuseNoPixel cX11_refuseNoPixel 2 (none) ∈ am_ok := am_wd 1115 (by decide +kernel) (by decide +kernel)
theorem mok_X11_refuseNoPixel : am_mOK m_X11_refuseNoPixel := ⟨Or.inl ⟨rfl, rfl, wd_1115⟩, wd_26, by decide +kernel, rfl, by decide +kernel, by decide +kernel, by decide +kernel, by decide +kernel⟩
theorem wd_800 : Jvm.Cond.code yX11_refuseNothingShown cX11_refuseNothingShown 1 (none) ∈ am_ok := am_wd 800 (by decide +kernel) (by decide +kernel)
theorem mok_X11_refuseNothingShown : am_mOK m_X11_refuseNothingShown := ⟨Or.inl ⟨rfl, rfl, wd_800⟩, wd_26, by decide +kernel, rfl, by decide +kernel, by decide +kernel, by decide +kernel, by decide +kernel⟩
theorem wd_1099 : Jvm.Cond.code yX11_setBucket cX11_setBucket 4 (some FieldType.int) ∈ am_ok := am_wd 1099 (by decide +kernel) (by decide +kernel)
theorem mok_X11_setBucket : am_mOK m_X11_setBucket := ⟨Or.inl ⟨rfl, rfl, wd_1099⟩, wd_26, by decide +kernel, rfl, by decide +kernel, by decide +kernel, by decide +kernel, by decide +kernel⟩
theorem wd_513 : Jvm.Cond.code yX11_setCoarseness cX11_setCoarseness 3 (some FieldType.int) ∈ am_ok := am_wd 513 (by decide +kernel) (by decide +kernel)
theorem mok_X11_setCoarseness : am_mOK m_X11_setCoarseness := ⟨Or.inl ⟨rfl, rfl, wd_513⟩, wd_26, by decide +kernel, rfl, by decide +kernel, by decide +kernel, by decide +kernel, by decide +kernel⟩
theorem wd_538 : Jvm.Cond.code yX11_setSlices cX11_setSlices 3 (some FieldType.int) ∈ am_ok := am_wd 538 (by decide +kernel) (by decide +kernel)
theorem mok_X11_setSlices : am_mOK m_X11_setSlices := ⟨Or.inl ⟨rfl, rfl, wd_538⟩, wd_26, by decide +kernel, rfl, by decide +kernel, by decide +kernel, by decide +kernel, by decide +kernel⟩
theorem wd_533 : Jvm.Cond.code yX11_setTools cX11_setTools 3 (some FieldType.int) ∈ am_ok := am_wd 533 (by decide +kernel) (by decide +kernel)
theorem mok_X11_setTools : am_mOK m_X11_setTools := ⟨Or.inl ⟨rfl, rfl, wd_533⟩, wd_26, by decide +kernel, rfl, by decide +kernel, by decide +kernel, by decide +kernel, by decide +kernel⟩
theorem wd_1164 : Jvm.Cond.code yX11_slope cX11_slope 6 (some FieldType.int) ∈ am_ok := am_wd 1164 (by decide +kernel) (by decide +kernel)
theorem mok_X11_slope : am_mOK m_X11_slope := ⟨Or.inl ⟨rfl, rfl, wd_1164⟩, wd_26, by decide +kernel, rfl, by decide +kernel, by decide +kernel, by decide +kernel, by decide +kernel⟩
theorem wd_1095 : Jvm.Cond.codeWith yL_bucket cL_bucket 4 (some FieldType.int) [(0, 6, 7, 57)] ∈ am_ok := am_wd 1095 (by decide +kernel) (by decide +kernel)
theorem mok_L_bucket : am_mOK m_L_bucket := ⟨Or.inr ⟨by decide +kernel, wd_1095⟩, wd_25, by decide +kernel, rfl, by decide +kernel, by decide +kernel, by decide +kernel, by decide +kernel⟩
theorem wd_1151 : Jvm.Cond.codeWith yL_paint cL_paint 4 (some FieldType.int) [(0, 55, 92, 57), (56, 69, 92, 57), (70, 80, 92, 57), (81, 91, 92, 57)] ∈ am_ok := am_wd 1151 (by decide +kernel) (by decide +kernel)
theorem mok_L_paint : am_mOK m_L_paint := ⟨Or.inr ⟨by decide +kernel, wd_1151⟩, wd_25, by decide +kernel, rfl, by decide +kernel, by decide +kernel, by decide +kernel, by decide +kernel⟩
theorem wd_1128 : Jvm.Cond.code yX11_built cX11_built 5 (some FieldType.int) ∈ am_ok := am_wd 1128 (by decide +kernel) (by decide +kernel)
theorem mok_X11_built : am_mOK m_X11_built := ⟨Or.inl ⟨rfl, rfl, wd_1128⟩, wd_26, by decide +kernel, rfl, by decide +kernel, by decide +kernel, by decide +kernel, by decide +kernel⟩
theorem wd_769 : Jvm.Cond.code yX11_coarsenessOf cX11_coarsenessOf 2 (some FieldType.int) ∈ am_ok := am_wd 769 (by decide +kernel) (by decide +kernel)
theorem mok_X11_coarsenessOf : am_mOK m_X11_coarsenessOf := ⟨Or.inl ⟨rfl, rfl, wd_769⟩, wd_26, by decide +kernel, rfl, by decide +kernel, by decide +kernel, by decide +kernel, by decide +kernel⟩
theorem wd_786 : Jvm.Cond.code yX11_commonest cX11_commonest 6 (some FieldType.int) ∈ am_ok := am_wd 786 (by decide +kernel) (by decide +kernel)
theorem mok_X11_commonest : am_mOK m_X11_commonest := ⟨Or.inl ⟨rfl, rfl, wd_786⟩, wd_26, by decide +kernel, rfl, by decide +kernel, by decide +kernel, by decide +kernel, by decide +kernel⟩
theorem wd_805 : Jvm.Cond.code yX11_drift cX11_drift 4 (some FieldType.int) ∈ am_ok := am_wd 805 (by decide +kernel) (by decide +kernel)
theorem mok_X11_drift : am_mOK m_X11_drift := ⟨Or.inl ⟨rfl, rfl, wd_805⟩, wd_26, by decide +kernel, rfl, by decide +kernel, by decide +kernel, by decide +kernel, by decide +kernel⟩
theorem wd_778 : Jvm.Cond.code yX11_heavierThan cX11_heavierThan 6 (some FieldType.int) ∈ am_ok := am_wd 778 (by decide +kernel) (by decide +kernel)
theorem mok_X11_heavierThan : am_mOK m_X11_heavierThan := ⟨Or.inl ⟨rfl, rfl, wd_778⟩, wd_26, by decide +kernel, rfl, by decide +kernel, by decide +kernel, by decide +kernel, by decide +kernel⟩
theorem wd_809 : Jvm.Cond.code yX11_isClean cX11_isClean 1 (some FieldType.boolean) ∈ am_ok := am_wd 809 (by decide +kernel) (by decide +kernel)
theorem mok_X11_isClean : am_mOK m_X11_isClean := ⟨Or.inl ⟨rfl, rfl, wd_809⟩, wd_26, by decide +kernel, rfl, by decide +kernel, by decide +kernel, by decide +kernel, by decide +kernel⟩
theorem wd_857 : Jvm.Cond.code yX11_keptPixels cX11_keptPixels 2 (some (FieldType.array FieldType.int)) ∈ am_ok := am_wd 857 (by decide +kernel) (by decide +kernel)
theorem mok_X11_keptPixels : am_mOK m_X11_keptPixels := ⟨Or.inl ⟨rfl, rfl, wd_857⟩, wd_26, by decide +kernel, rfl, by decide +kernel, by decide +kernel, by decide +kernel, by decide +kernel⟩
theorem wd_765 : Jvm.Cond.code yX11_kindOf cX11_kindOf 2 (some FieldType.char) ∈ am_ok := am_wd 765 (by decide +kernel) (by decide +kernel)
theorem mok_X11_kindOf : am_mOK m_X11_kindOf := ⟨Or.inl ⟨rfl, rfl, wd_765⟩, wd_26, by decide +kernel, rfl, by decide +kernel, by decide +kernel, by decide +kernel, by decide +kernel⟩
theorem wd_1132 : Jvm.Cond.code yX11_levelAt cX11_levelAt 5 (some FieldType.int) ∈ am_ok := am_wd 1132 (by decide +kernel) (by decide +kernel)
theorem mok_X11_levelAt : am_mOK m_X11_levelAt := ⟨Or.inl ⟨rfl, rfl, wd_1132⟩, wd_26, by decide +kernel, rfl, by decide +kernel, by decide +kernel, by decide +kernel, by decide +kernel⟩
theorem wd_1200 : Jvm.Cond.code yX11_meanBits cX11_meanBits 3 (some FieldType.double) ∈ am_ok := am_wd 1200 (by decide +kernel) (by decide +kernel)
theorem mok_X11_meanBits : am_mOK m_X11_meanBits := ⟨Or.inl ⟨rfl, rfl, wd_1200⟩, wd_26, by decide +kernel, rfl, by decide +kernel, by decide +kernel, by decide +kernel, by decide +kernel⟩
theorem wd_1141 : Jvm.Cond.code yX11_modeAt cX11_modeAt 5 (some FieldType.int) ∈ am_ok := am_wd 1141 (by decide +kernel) (by decide +kernel)
theorem mok_X11_modeAt : am_mOK m_X11_modeAt := ⟨Or.inl ⟨rfl, rfl, wd_1141⟩, wd_26, by decide +kernel, rfl, by decide +kernel, by decide +kernel, by decide +kernel, by decide +kernel⟩
theorem wd_1136 : Jvm.Cond.code yX11_partAt cX11_partAt 5 (some FieldType.int) ∈ am_ok := am_wd 1136 (by decide +kernel) (by decide +kernel)
theorem mok_X11_partAt : am_mOK m_X11_partAt := ⟨Or.inl ⟨rfl, rfl, wd_1136⟩, wd_26, by decide +kernel, rfl, by decide +kernel, by decide +kernel, by decide +kernel, by decide +kernel⟩
theorem wd_1112 : Jvm.Cond.code yX11_pixel cX11_pixel 3 (some FieldType.int) ∈ am_ok := am_wd 1112 (by decide +kernel) (by decide +kernel)
theorem mok_X11_pixel : am_mOK m_X11_pixel := ⟨Or.inl ⟨rfl, rfl, wd_1112⟩, wd_26, by decide +kernel, rfl, by decide +kernel, by decide +kernel, by decide +kernel, by decide +kernel⟩
theorem wd_560 : Jvm.Cond.code yX11_send cX11_send 3 (some FieldType.char) ∈ am_ok := am_wd 560 (by decide +kernel) (by decide +kernel)
theorem mok_X11_send : am_mOK m_X11_send := ⟨Or.inl ⟨rfl, rfl, wd_560⟩, wd_26, by decide +kernel, rfl, by decide +kernel, by decide +kernel, by decide +kernel, by decide +kernel⟩
theorem wd_796 : Jvm.Cond.code yX11_shown cX11_shown 1 (some FieldType.int) ∈ am_ok := am_wd 796 (by decide +kernel) (by decide +kernel)
theorem mok_X11_shown : am_mOK m_X11_shown := ⟨Or.inl ⟨rfl, rfl, wd_796⟩, wd_26, by decide +kernel, rfl, by decide +kernel, by decide +kernel, by decide +kernel, by decide +kernel⟩
theorem wd_1124 : Jvm.Cond.code yX11_shownAt cX11_shownAt 3 (some FieldType.int) ∈ am_ok := am_wd 1124 (by decide +kernel) (by decide +kernel)
theorem mok_X11_shownAt : am_mOK m_X11_shownAt := ⟨Or.inl ⟨rfl, rfl, wd_1124⟩, wd_26, by decide +kernel, rfl, by decide +kernel, by decide +kernel, by decide +kernel, by decide +kernel⟩
theorem wd_1145 : Jvm.Cond.code yX11_vectorAt cX11_vectorAt 7 (some FieldType.int) ∈ am_ok := am_wd 1145 (by decide +kernel) (by decide +kernel)
theorem mok_X11_vectorAt : am_mOK m_X11_vectorAt := ⟨Or.inl ⟨rfl, rfl, wd_1145⟩, wd_26, by decide +kernel, rfl, by decide +kernel, by decide +kernel, by decide +kernel, by decide +kernel⟩
theorem wd_1182 : Jvm.Cond.codeWith yL_figure cL_figure 3 (some FieldType.double) [(0, 16, 17, 126)] ∈ am_ok := am_wd 1182 (by decide +kernel) (by decide +kernel)
theorem mok_L_figure : am_mOK m_L_figure := ⟨Or.inr ⟨by decide +kernel, wd_1182⟩, wd_25, by decide +kernel, rfl, by decide +kernel, by decide +kernel, by decide +kernel, by decide +kernel⟩
theorem wd_1108 : Jvm.Cond.codeWith yL_pixel cL_pixel 6 (some FieldType.int) [(0, 111, 176, 55), (112, 119, 176, 55), (120, 128, 176, 55), (129, 137, 176, 55), (138, 146, 176, 55), (147, 155, 176, 55), (156, 165, 176, 55), (166, 175, 176, 55), (0, 111, 181, 59), (112, 119, 181, 59), (120, 128, 181, 59), (129, 137, 181, 59), (138, 146, 181, 59), (147, 155, 181, 59), (156, 165, 181, 59), (166, 175, 181, 59)] ∈ am_ok := am_wd 1108 (by decide +kernel) (by decide +kernel)
theorem mok_L_pixel : am_mOK m_L_pixel := ⟨Or.inr ⟨by decide +kernel, wd_1108⟩, wd_25, by decide +kernel, rfl, by decide +kernel, by decide +kernel, by decide +kernel, by decide +kernel⟩
theorem wd_827 : Jvm.Cond.code yX11_code cX11_code 5 (some FieldType.int) ∈ am_ok := am_wd 827 (by decide +kernel) (by decide +kernel)
theorem mok_X11_code : am_mOK m_X11_code := ⟨Or.inl ⟨rfl, rfl, wd_827⟩, wd_26, by decide +kernel, rfl, by decide +kernel, by decide +kernel, by decide +kernel, by decide +kernel⟩
theorem wd_773 : Jvm.Cond.code yX11_heaviest cX11_heaviest 4 (some FieldType.int) ∈ am_ok := am_wd 773 (by decide +kernel) (by decide +kernel)
theorem mok_X11_heaviest : am_mOK m_X11_heaviest := ⟨Or.inl ⟨rfl, rfl, wd_773⟩, wd_26, by decide +kernel, rfl, by decide +kernel, by decide +kernel, by decide +kernel, by decide +kernel⟩
theorem wd_427 : Jvm.Cond.codeWith yL_ask cL_ask 4 (some FieldType.int) [(0, 105, 187, 55), (106, 111, 187, 55), (112, 117, 187, 55), (118, 123, 187, 55), (124, 129, 187, 55), (130, 135, 187, 55), (136, 141, 187, 55), (142, 147, 187, 55), (148, 153, 187, 55), (154, 158, 187, 55), (159, 163, 187, 55), (164, 168, 187, 55), (169, 181, 187, 55), (182, 186, 187, 55), (0, 105, 192, 57), (106, 111, 192, 57), (112, 117, 192, 57), (118, 123, 192, 57), (124, 129, 192, 57), (130, 135, 192, 57), (136, 141, 192, 57), (142, 147, 192, 57), (148, 153, 192, 57), (154, 158, 192, 57), (159, 163, 192, 57), (164, 168, 192, 57), (169, 181, 192, 57), (182, 186, 192, 57), (0, 105, 197, 59), (106, 111, 197, 59), (112, 117, 197, 59), (118, 123, 197, 59), (124, 129, 197, 59), (130, 135, 197, 59), (136, 141, 197, 59), (142, 147, 197, 59), (148, 153, 197, 59), (154, 158, 197, 59), (159, 163, 197, 59), (164, 168, 197, 59), (169, 181, 197, 59), (182, 186, 197, 59)] ∈ am_ok := am_wd 427 (by decide +kernel) (by decide +kernel)
theorem mok_L_ask : am_mOK m_L_ask := ⟨Or.inr ⟨by decide +kernel, wd_427⟩, wd_25, by decide +kernel, rfl, by decide +kernel, by decide +kernel, by decide +kernel, by decide +kernel⟩
theorem wd_821 : Jvm.Cond.codeWith yL_code cL_code 5 (some FieldType.int) [(0, 7, 8, 55), (0, 7, 14, 57), (0, 7, 20, 65), (0, 7, 26, 67)] ∈ am_ok := am_wd 821 (by decide +kernel) (by decide +kernel)
theorem mok_L_code : am_mOK m_L_code := ⟨Or.inr ⟨by decide +kernel, wd_821⟩, wd_25, by decide +kernel, rfl, by decide +kernel, by decide +kernel, by decide +kernel, by decide +kernel⟩
theorem wd_1211 : Jvm.Cond.code yL_isLike cL_isLike 3 (some FieldType.boolean) ∈ am_ok := am_wd 1211 (by decide +kernel) (by decide +kernel)
theorem mok_L_isLike : am_mOK m_L_isLike := ⟨Or.inl ⟨rfl, rfl, wd_1211⟩, wd_25, by decide +kernel, rfl, by decide +kernel, by decide +kernel, by decide +kernel, by decide +kernel⟩
theorem wd_1230 : Jvm.Cond.code yL_flatIsGood cL_flatIsGood 7 (some FieldType.boolean) ∈ am_ok := am_wd 1230 (by decide +kernel) (by decide +kernel)
theorem mok_L_flatIsGood : am_mOK m_L_flatIsGood := ⟨Or.inl ⟨rfl, rfl, wd_1230⟩, wd_25, by decide +kernel, rfl, by decide +kernel, by decide +kernel, by decide +kernel, by decide +kernel⟩
theorem wd_1214 : Jvm.Cond.code yL_paints cL_paints 21 (some FieldType.boolean) ∈ am_ok := am_wd 1214 (by decide +kernel) (by decide +kernel)
theorem mok_L_paints : am_mOK m_L_paints := ⟨Or.inl ⟨rfl, rfl, wd_1214⟩, wd_25, by decide +kernel, rfl, by decide +kernel, by decide +kernel, by decide +kernel, by decide +kernel⟩
theorem wd_66 : Jvm.Cond.fieldLink RX0 18 "BlockCast$Bucket" "bits" "I" ∈ am_ok := am_wd 66 (by decide +kernel) (by decide +kernel)
theorem wd_65 : Jvm.Cond.fieldLink RX0 15 "BlockCast$Bucket" "leak" "I" ∈ am_ok := am_wd 65 (by decide +kernel) (by decide +kernel)
theorem wd_64 : Jvm.Cond.fieldLink RX0 9 "BlockCast$Bucket" "room" "I" ∈ am_ok := am_wd 64 (by decide +kernel) (by decide +kernel)
theorem wd_274 : Jvm.Cond.fieldLink RX10 16 "BlockCast$Writer" "length" "I" ∈ am_ok := am_wd 274 (by decide +kernel) (by decide +kernel)
theorem wd_273 : Jvm.Cond.fieldLink RX10 13 "BlockCast$Writer" "row" "[I" ∈ am_ok := am_wd 273 (by decide +kernel) (by decide +kernel)
theorem wd_276 : Jvm.Cond.fieldLink RX10 20 "BlockCast$Writer" "low" "J" ∈ am_ok := am_wd 276 (by decide +kernel) (by decide +kernel)
theorem bi_bipush_24 : (Int8.ofInt (24)).toInt32 = mI (24) := by decide +kernel
theorem bi_bipush_8 : (Int8.ofInt (8)).toInt32 = mI (8) := by decide +kernel
theorem wd_271 : Jvm.Cond.constantLong RX10 24 (mL (4294967295)) ∈ am_ok := am_wd 271 (by decide +kernel) (by decide +kernel)
theorem bi_bipush_16 : (Int8.ofInt (16)).toInt32 = mI (16) := by decide +kernel
theorem wd_376 : Jvm.Cond.fieldLink RX11 54 "BlockCast" "keptCount" "I" ∈ am_ok := am_wd 376 (by decide +kernel) (by decide +kernel)
theorem bi_sipush_255 : (Int16.ofInt (255)).toInt32 = mI (255) := by decide +kernel
theorem wd_373 : Jvm.Cond.fieldLink RX11 43 "BlockCast" "codedCount" "I" ∈ am_ok := am_wd 373 (by decide +kernel) (by decide +kernel)
theorem bi_bipush_15 : (Int8.ofInt (15)).toInt32 = mI (15) := by decide +kernel
theorem bi_bipush_47 : (Int8.ofInt (47)).toInt32 = mI (47) := by decide +kernel
theorem bi_bipush_100 : (Int8.ofInt (100)).toInt32 = mI (100) := by decide +kernel
theorem wd_222 : Jvm.Cond.fieldLink RX5 24 "BlockCast$Part" "mode" "I" ∈ am_ok := am_wd 222 (by decide +kernel) (by decide +kernel)
theorem wd_208 : Jvm.Cond.fieldLink RX5 9 "BlockCast$Part" "x" "I" ∈ am_ok := am_wd 208 (by decide +kernel) (by decide +kernel)
theorem wd_212 : Jvm.Cond.fieldLink RX5 15 "BlockCast$Part" "y" "I" ∈ am_ok := am_wd 212 (by decide +kernel) (by decide +kernel)
theorem wd_216 : Jvm.Cond.fieldLink RX5 18 "BlockCast$Part" "size" "I" ∈ am_ok := am_wd 216 (by decide +kernel) (by decide +kernel)
theorem wd_220 : Jvm.Cond.fieldLink RX5 21 "BlockCast$Part" "top" "I" ∈ am_ok := am_wd 220 (by decide +kernel) (by decide +kernel)
theorem bi_bipush_6 : (Int8.ofInt (6)).toInt32 = mI (6) := by decide +kernel
theorem wd_101 : Jvm.Cond.fieldLink RX6 39 "BlockCast$Picture" "upperBytes" "[I" ∈ am_ok := am_wd 101 (by decide +kernel) (by decide +kernel)
theorem wd_102 : Jvm.Cond.fieldLink RX6 43 "BlockCast$Picture" "lowerBytes" "[I" ∈ am_ok := am_wd 102 (by decide +kernel) (by decide +kernel)
theorem wd_83 : Jvm.Cond.fieldLink RX6 9 "BlockCast$Picture" "kind" "C" ∈ am_ok := am_wd 83 (by decide +kernel) (by decide +kernel)
theorem wd_85 : Jvm.Cond.fieldLink RX6 15 "BlockCast$Picture" "first" "I" ∈ am_ok := am_wd 85 (by decide +kernel) (by decide +kernel)
theorem wd_87 : Jvm.Cond.fieldLink RX6 19 "BlockCast$Picture" "second" "I" ∈ am_ok := am_wd 87 (by decide +kernel) (by decide +kernel)
theorem wd_93 : Jvm.Cond.fieldLink RX6 25 "BlockCast$Picture" "tools" "I" ∈ am_ok := am_wd 93 (by decide +kernel) (by decide +kernel)
theorem bi_bipush_105 : (Int8.ofInt (105)).toInt32 = mI (105) := by decide +kernel
theorem bi_bipush_98 : (Int8.ofInt (98)).toInt32 = mI (98) := by decide +kernel
theorem wd_94 : Jvm.Cond.fieldLink RX6 28 "BlockCast$Picture" "slices" "I" ∈ am_ok := am_wd 94 (by decide +kernel) (by decide +kernel)
theorem wd_89 : Jvm.Cond.fieldLink RX6 22 "BlockCast$Picture" "step" "I" ∈ am_ok := am_wd 89 (by decide +kernel) (by decide +kernel)
theorem wd_97 : Jvm.Cond.fieldLink RX6 31 "BlockCast$Picture" "isKept" "Z" ∈ am_ok := am_wd 97 (by decide +kernel) (by decide +kernel)
theorem wd_291 : Jvm.Cond.fieldLink RX8 12 "BlockCast$Scribe" "upper" "LBlockCast$Writer;" ∈ am_ok := am_wd 291 (by decide +kernel) (by decide +kernel)
theorem wd_275 : Jvm.Cond.fieldLinkNest RX8 112 "BlockCast$Writer" "length" "I" "BlockCast" ∈ am_ok := am_wd 275 (by decide +kernel) (by decide +kernel)
theorem wd_292 : Jvm.Cond.fieldLink RX8 18 "BlockCast$Scribe" "lower" "LBlockCast$Writer;" ∈ am_ok := am_wd 292 (by decide +kernel) (by decide +kernel)
theorem wd_1043 : Jvm.Cond.methodLink RX0 21 yX0_isThere ∈ am_ok := am_wd 1043 (by decide +kernel) (by decide +kernel)
theorem wd_815 : Jvm.Cond.instanceMethod yX0_isThere ∈ am_ok := am_wd 815 (by decide +kernel) (by decide +kernel)
theorem wd_816 : Jvm.Cond.selects RX0 yX0_isThere yX0_isThere ∈ am_ok := am_wd 816 (by decide +kernel) (by decide +kernel)
theorem wd_1044 : Jvm.Cond.methodLink RX0 25 yX0_filledWith ∈ am_ok := am_wd 1044 (by decide +kernel) (by decide +kernel)
theorem wd_1046 : Jvm.Cond.instanceMethod yX0_filledWith ∈ am_ok := am_wd 1046 (by decide +kernel) (by decide +kernel)
theorem wd_23 : Jvm.Cond.selects RX0 yX0_filledWith yX0_filledWith ∈ am_ok := am_wd 23 (by decide +kernel) (by decide +kernel)
theorem wd_63 : Jvm.Cond.methodLink RX0 3 Lib.objectInit ∈ am_ok := am_wd 63 (by decide +kernel) (by decide +kernel)
theorem bi_bipush_40 : (Int8.ofInt (40)).toInt32 = mI (40) := by decide +kernel
theorem wd_982 : Jvm.Cond.methodLink RX10 53 yX10_giveByte ∈ am_ok := am_wd 982 (by decide +kernel) (by decide +kernel)
theorem wd_984 : Jvm.Cond.instanceMethod yX10_giveByte ∈ am_ok := am_wd 984 (by decide +kernel) (by decide +kernel)
theorem wd_18 : Jvm.Cond.selects RX10 yX10_giveByte yX10_giveByte ∈ am_ok := am_wd 18 (by decide +kernel) (by decide +kernel)
theorem wd_1007 : Jvm.Cond.methodLink RX10 58 Lib.Math.min.name ∈ am_ok := am_wd 1007 (by decide +kernel) (by decide +kernel)
theorem wd_270 : Jvm.Cond.methodLink RX10 1 Lib.objectInit ∈ am_ok := am_wd 270 (by decide +kernel) (by decide +kernel)
theorem bi_bipush_70 : (Int8.ofInt (70)).toInt32 = mI (70) := by decide +kernel
theorem wd_75 : Jvm.Cond.arrayClass .int ∈ am_ok := am_wd 75 (by decide +kernel) (by decide +kernel)
theorem wd_272 : Jvm.Cond.fieldLink RX10 9 "BlockCast$Writer" "chances" "[I" ∈ am_ok := am_wd 272 (by decide +kernel) (by decide +kernel)
theorem bi_sipush_4096 : (Int16.ofInt (4096)).toInt32 = mI (4096) := by decide +kernel
theorem wd_277 : Jvm.Cond.fieldLink RX10 26 "BlockCast$Writer" "width" "J" ∈ am_ok := am_wd 277 (by decide +kernel) (by decide +kernel)
theorem wd_974 : Jvm.Cond.methodLink RX10 35 yX7_get ∈ am_ok := am_wd 974 (by decide +kernel) (by decide +kernel)
theorem wd_605 : Jvm.Cond.static yX7_get ∈ am_ok := am_wd 605 (by decide +kernel) (by decide +kernel)
theorem wd_976 : Jvm.Cond.methodLink RX10 41 yX7_put ∈ am_ok := am_wd 976 (by decide +kernel) (by decide +kernel)
theorem wd_608 : Jvm.Cond.static yX7_put ∈ am_ok := am_wd 608 (by decide +kernel) (by decide +kernel)
theorem wd_981 : Jvm.Cond.constantLong RX10 51 (mL (16777216)) ∈ am_ok := am_wd 981 (by decide +kernel) (by decide +kernel)
theorem wd_986 : Jvm.Cond.constantLong RX10 56 (mL (256)) ∈ am_ok := am_wd 986 (by decide +kernel) (by decide +kernel)
theorem bi_sipush_1024 : (Int16.ofInt (1024)).toInt32 = mI (1024) := by decide +kernel
theorem wd_964 : Jvm.Cond.methodLink RX10 29 yX7_set ∈ am_ok := am_wd 964 (by decide +kernel) (by decide +kernel)
theorem wd_363 : Jvm.Cond.static yX7_set ∈ am_ok := am_wd 363 (by decide +kernel) (by decide +kernel)
theorem wd_1072 : Jvm.Cond.methodLink RX10 72 Lib.Math.max.name ∈ am_ok := am_wd 1072 (by decide +kernel) (by decide +kernel)
theorem wd_1073 : Jvm.Cond.methodLink RX10 75 yX7_copy ∈ am_ok := am_wd 1073 (by decide +kernel) (by decide +kernel)
theorem wd_740 : Jvm.Cond.static yX7_copy ∈ am_ok := am_wd 740 (by decide +kernel) (by decide +kernel)
theorem bi_sipush_128 : (Int16.ofInt (128)).toInt32 = mI (128) := by decide +kernel
theorem wd_670 : Jvm.Cond.methodLinkNest RX1 65 yX11_placeOf "BlockCast" ∈ am_ok := am_wd 670 (by decide +kernel) (by decide +kernel)
theorem wd_621 : Jvm.Cond.static yX11_placeOf ∈ am_ok := am_wd 621 (by decide +kernel) (by decide +kernel)
theorem wd_671 : Jvm.Cond.methodLink RX1 69 yX7_get ∈ am_ok := am_wd 671 (by decide +kernel) (by decide +kernel)
theorem wd_182 : Jvm.Cond.fieldLink RX1 32 "BlockCast$Builder" "mean" "I" ∈ am_ok := am_wd 182 (by decide +kernel) (by decide +kernel)
theorem wd_179 : Jvm.Cond.fieldLink RX1 21 "BlockCast$Builder" "above" "[I" ∈ am_ok := am_wd 179 (by decide +kernel) (by decide +kernel)
theorem wd_180 : Jvm.Cond.fieldLink RX1 25 "BlockCast$Builder" "left" "[I" ∈ am_ok := am_wd 180 (by decide +kernel) (by decide +kernel)
theorem wd_181 : Jvm.Cond.fieldLink RX1 28 "BlockCast$Builder" "corner" "I" ∈ am_ok := am_wd 181 (by decide +kernel) (by decide +kernel)
theorem wd_685 : Jvm.Cond.methodLinkNest RX1 88 yX11_withinValues "BlockCast" ∈ am_ok := am_wd 685 (by decide +kernel) (by decide +kernel)
theorem wd_686 : Jvm.Cond.static yX11_withinValues ∈ am_ok := am_wd 686 (by decide +kernel) (by decide +kernel)
theorem wd_213 : Jvm.Cond.fieldLinkNest RX1 49 "BlockCast$Part" "y" "I" "BlockCast" ∈ am_ok := am_wd 213 (by decide +kernel) (by decide +kernel)
theorem wd_217 : Jvm.Cond.fieldLinkNest RX1 41 "BlockCast$Part" "size" "I" "BlockCast" ∈ am_ok := am_wd 217 (by decide +kernel) (by decide +kernel)
theorem wd_209 : Jvm.Cond.fieldLinkNest RX1 46 "BlockCast$Part" "x" "I" "BlockCast" ∈ am_ok := am_wd 209 (by decide +kernel) (by decide +kernel)
theorem wd_183 : Jvm.Cond.fieldLink RX1 35 "BlockCast$Builder" "guess" "[I" ∈ am_ok := am_wd 183 (by decide +kernel) (by decide +kernel)
theorem wd_731 : Jvm.Cond.methodLink RX1 107 Lib.Math.abs.name ∈ am_ok := am_wd 731 (by decide +kernel) (by decide +kernel)
theorem wd_672 : Jvm.Cond.methodLink RX1 59 yX7_put ∈ am_ok := am_wd 672 (by decide +kernel) (by decide +kernel)
theorem wd_184 : Jvm.Cond.fieldLink RX1 38 "BlockCast$Builder" "square" "[I" ∈ am_ok := am_wd 184 (by decide +kernel) (by decide +kernel)
theorem wd_875 : Jvm.Cond.methodLinkNest RX2 73 yX11_placeOf "BlockCast" ∈ am_ok := am_wd 875 (by decide +kernel) (by decide +kernel)
theorem wd_876 : Jvm.Cond.methodLink RX2 91 yX7_get ∈ am_ok := am_wd 876 (by decide +kernel) (by decide +kernel)
theorem wd_877 : Jvm.Cond.methodLink RX2 97 Lib.Math.min.name ∈ am_ok := am_wd 877 (by decide +kernel) (by decide +kernel)
theorem wd_878 : Jvm.Cond.methodLink RX2 102 Lib.Math.max.name ∈ am_ok := am_wd 878 (by decide +kernel) (by decide +kernel)
theorem wd_881 : Jvm.Cond.methodLink RX2 105 yX6_has ∈ am_ok := am_wd 881 (by decide +kernel) (by decide +kernel)
theorem wd_725 : Jvm.Cond.instanceMethod yX6_has ∈ am_ok := am_wd 725 (by decide +kernel) (by decide +kernel)
theorem wd_726 : Jvm.Cond.selects RX6 yX6_has yX6_has ∈ am_ok := am_wd 726 (by decide +kernel) (by decide +kernel)
theorem wd_90 : Jvm.Cond.fieldLinkNest RX2 108 "BlockCast$Picture" "step" "I" "BlockCast" ∈ am_ok := am_wd 90 (by decide +kernel) (by decide +kernel)
theorem wd_631 : Jvm.Cond.methodLinkNest RX3 165 yX11_inPicture "BlockCast" ∈ am_ok := am_wd 631 (by decide +kernel) (by decide +kernel)
theorem wd_632 : Jvm.Cond.static yX11_inPicture ∈ am_ok := am_wd 632 (by decide +kernel) (by decide +kernel)
theorem wd_316 : Jvm.Cond.fieldLink RX3 25 "BlockCast$Decoder" "work" "[I" ∈ am_ok := am_wd 316 (by decide +kernel) (by decide +kernel)
theorem wd_323 : Jvm.Cond.fieldLink RX3 40 "BlockCast$Decoder" "shownPixels" "[I" ∈ am_ok := am_wd 323 (by decide +kernel) (by decide +kernel)
theorem wd_634 : Jvm.Cond.methodLink RX3 91 yX7_get ∈ am_ok := am_wd 634 (by decide +kernel) (by decide +kernel)
theorem wd_635 : Jvm.Cond.methodLink RX3 104 yX7_put ∈ am_ok := am_wd 635 (by decide +kernel) (by decide +kernel)
theorem wd_327 : Jvm.Cond.fieldLink RX3 46 "BlockCast$Decoder" "keptPixels" "[I" ∈ am_ok := am_wd 327 (by decide +kernel) (by decide +kernel)
theorem bi_sipush_256 : (Int16.ofInt (256)).toInt32 = mI (256) := by decide +kernel
theorem wd_746 : Jvm.Cond.methodLink RX3 101 yX7_shift ∈ am_ok := am_wd 746 (by decide +kernel) (by decide +kernel)
theorem wd_747 : Jvm.Cond.static yX7_shift ∈ am_ok := am_wd 747 (by decide +kernel) (by decide +kernel)
theorem wd_739 : Jvm.Cond.methodLink RX3 72 yX7_copy ∈ am_ok := am_wd 739 (by decide +kernel) (by decide +kernel)
theorem wd_328 : Jvm.Cond.fieldLink RX3 49 "BlockCast$Decoder" "keptClean" "[I" ∈ am_ok := am_wd 328 (by decide +kernel) (by decide +kernel)
theorem wd_321 : Jvm.Cond.fieldLink RX3 36 "BlockCast$Decoder" "isShownClean" "Z" ∈ am_ok := am_wd 321 (by decide +kernel) (by decide +kernel)
theorem wd_325 : Jvm.Cond.fieldLink RX3 43 "BlockCast$Decoder" "keptCount" "I" ∈ am_ok := am_wd 325 (by decide +kernel) (by decide +kernel)
theorem wd_749 : Jvm.Cond.methodLink RX3 108 Lib.Math.min.name ∈ am_ok := am_wd 749 (by decide +kernel) (by decide +kernel)
theorem wd_590 : Jvm.Cond.methodLink RX3 84 yX6_leansOnFirst ∈ am_ok := am_wd 590 (by decide +kernel) (by decide +kernel)
theorem wd_591 : Jvm.Cond.instanceMethod yX6_leansOnFirst ∈ am_ok := am_wd 591 (by decide +kernel) (by decide +kernel)
theorem wd_592 : Jvm.Cond.selects RX6 yX6_leansOnFirst yX6_leansOnFirst ∈ am_ok := am_wd 592 (by decide +kernel) (by decide +kernel)
theorem wd_86 : Jvm.Cond.fieldLinkNest RX3 88 "BlockCast$Picture" "first" "I" "BlockCast" ∈ am_ok := am_wd 86 (by decide +kernel) (by decide +kernel)
theorem wd_610 : Jvm.Cond.methodLink RX3 95 yX6_leansOnSecond ∈ am_ok := am_wd 610 (by decide +kernel) (by decide +kernel)
theorem wd_611 : Jvm.Cond.instanceMethod yX6_leansOnSecond ∈ am_ok := am_wd 611 (by decide +kernel) (by decide +kernel)
theorem wd_612 : Jvm.Cond.selects RX6 yX6_leansOnSecond yX6_leansOnSecond ∈ am_ok := am_wd 612 (by decide +kernel) (by decide +kernel)
theorem wd_88 : Jvm.Cond.fieldLinkNest RX3 98 "BlockCast$Picture" "second" "I" "BlockCast" ∈ am_ok := am_wd 88 (by decide +kernel) (by decide +kernel)
theorem wd_317 : Jvm.Cond.fieldLink RX3 29 "BlockCast$Decoder" "next" "I" ∈ am_ok := am_wd 317 (by decide +kernel) (by decide +kernel)
theorem wd_319 : Jvm.Cond.fieldLink RX3 33 "BlockCast$Decoder" "shownNumber" "I" ∈ am_ok := am_wd 319 (by decide +kernel) (by decide +kernel)
theorem wd_362 : Jvm.Cond.methodLink RX3 58 yX7_set ∈ am_ok := am_wd 362 (by decide +kernel) (by decide +kernel)
theorem wd_601 : Jvm.Cond.methodLink RX4 25 yX4_inside ∈ am_ok := am_wd 601 (by decide +kernel) (by decide +kernel)
theorem wd_602 : Jvm.Cond.static yX4_inside ∈ am_ok := am_wd 602 (by decide +kernel) (by decide +kernel)
theorem wd_604 : Jvm.Cond.methodLink RX4 29 yX7_get ∈ am_ok := am_wd 604 (by decide +kernel) (by decide +kernel)
theorem wd_169 : Jvm.Cond.fieldLink RX4 11 "BlockCast$Halves" "values" "[I" ∈ am_ok := am_wd 169 (by decide +kernel) (by decide +kernel)
theorem wd_700 : Jvm.Cond.methodLink RX4 33 yX4_placeFrom ∈ am_ok := am_wd 700 (by decide +kernel) (by decide +kernel)
theorem wd_701 : Jvm.Cond.static yX4_placeFrom ∈ am_ok := am_wd 701 (by decide +kernel) (by decide +kernel)
theorem wd_168 : Jvm.Cond.methodLink RX4 3 Lib.objectInit ∈ am_ok := am_wd 168 (by decide +kernel) (by decide +kernel)
theorem bi_sipush_2209 : (Int16.ofInt (2209)).toInt32 = mI (2209) := by decide +kernel
theorem wd_915 : Jvm.Cond.methodLink RX4 61 Lib.Math.abs.name ∈ am_ok := am_wd 915 (by decide +kernel) (by decide +kernel)
theorem wd_207 : Jvm.Cond.methodLink RX5 3 Lib.objectInit ∈ am_ok := am_wd 207 (by decide +kernel) (by decide +kernel)
theorem wd_227 : Jvm.Cond.fieldLink RX5 27 "BlockCast$Part" "firstVector" "I" ∈ am_ok := am_wd 227 (by decide +kernel) (by decide +kernel)
theorem wd_232 : Jvm.Cond.fieldLink RX5 30 "BlockCast$Part" "secondVector" "I" ∈ am_ok := am_wd 232 (by decide +kernel) (by decide +kernel)
theorem wd_100 : Jvm.Cond.fieldLink RX6 35 "BlockCast$Picture" "error" "J" ∈ am_ok := am_wd 100 (by decide +kernel) (by decide +kernel)
theorem wd_115 : Jvm.Cond.fieldLink RX6 61 "BlockCast$Picture" "pixels" "[I" ∈ am_ok := am_wd 115 (by decide +kernel) (by decide +kernel)
theorem wd_647 : Jvm.Cond.methodLink RX6 64 yX7_get ∈ am_ok := am_wd 647 (by decide +kernel) (by decide +kernel)
theorem wd_82 : Jvm.Cond.methodLink RX6 3 Lib.objectInit ∈ am_ok := am_wd 82 (by decide +kernel) (by decide +kernel)
theorem wd_103 : Jvm.Cond.fieldLink RX6 46 "BlockCast$Picture" "sizes" "[I" ∈ am_ok := am_wd 103 (by decide +kernel) (by decide +kernel)
theorem wd_105 : Jvm.Cond.fieldLink RX6 49 "BlockCast$Picture" "modes" "[I" ∈ am_ok := am_wd 105 (by decide +kernel) (by decide +kernel)
theorem wd_107 : Jvm.Cond.fieldLink RX6 52 "BlockCast$Picture" "firstVectors" "[I" ∈ am_ok := am_wd 107 (by decide +kernel) (by decide +kernel)
theorem wd_109 : Jvm.Cond.fieldLink RX6 55 "BlockCast$Picture" "secondVectors" "[I" ∈ am_ok := am_wd 109 (by decide +kernel) (by decide +kernel)
theorem wd_111 : Jvm.Cond.fieldLink RX6 58 "BlockCast$Picture" "levels" "[I" ∈ am_ok := am_wd 111 (by decide +kernel) (by decide +kernel)
theorem wd_921 : Jvm.Cond.methodLink RX6 70 yX6_leansOnSecond ∈ am_ok := am_wd 921 (by decide +kernel) (by decide +kernel)
theorem bi_bipush_7 : (Int8.ofInt (7)).toInt32 = mI (7) := by decide +kernel
theorem wd_922 : Jvm.Cond.methodLink RX6 74 yX6_leansOnFirst ∈ am_ok := am_wd 922 (by decide +kernel) (by decide +kernel)
theorem wd_215 : Jvm.Cond.fieldLinkNest RX6 88 "BlockCast$Part" "y" "I" "BlockCast" ∈ am_ok := am_wd 215 (by decide +kernel) (by decide +kernel)
theorem wd_219 : Jvm.Cond.fieldLinkNest RX6 93 "BlockCast$Part" "size" "I" "BlockCast" ∈ am_ok := am_wd 219 (by decide +kernel) (by decide +kernel)
theorem wd_211 : Jvm.Cond.fieldLinkNest RX6 96 "BlockCast$Part" "x" "I" "BlockCast" ∈ am_ok := am_wd 211 (by decide +kernel) (by decide +kernel)
theorem wd_940 : Jvm.Cond.methodLinkNest RX6 99 yX11_squareAt "BlockCast" ∈ am_ok := am_wd 940 (by decide +kernel) (by decide +kernel)
theorem wd_941 : Jvm.Cond.static yX11_squareAt ∈ am_ok := am_wd 941 (by decide +kernel) (by decide +kernel)
theorem wd_943 : Jvm.Cond.methodLink RX6 103 yX7_put ∈ am_ok := am_wd 943 (by decide +kernel) (by decide +kernel)
theorem wd_226 : Jvm.Cond.fieldLinkNest RX6 107 "BlockCast$Part" "mode" "I" "BlockCast" ∈ am_ok := am_wd 226 (by decide +kernel) (by decide +kernel)
theorem wd_944 : Jvm.Cond.methodLink RX6 110 yX5_usesFirst ∈ am_ok := am_wd 944 (by decide +kernel) (by decide +kernel)
theorem wd_704 : Jvm.Cond.instanceMethod yX5_usesFirst ∈ am_ok := am_wd 704 (by decide +kernel) (by decide +kernel)
theorem wd_705 : Jvm.Cond.selects RX5 yX5_usesFirst yX5_usesFirst ∈ am_ok := am_wd 705 (by decide +kernel) (by decide +kernel)
theorem wd_231 : Jvm.Cond.fieldLinkNest RX6 113 "BlockCast$Part" "firstVector" "I" "BlockCast" ∈ am_ok := am_wd 231 (by decide +kernel) (by decide +kernel)
theorem wd_945 : Jvm.Cond.methodLink RX6 116 yX5_usesSecond ∈ am_ok := am_wd 945 (by decide +kernel) (by decide +kernel)
theorem wd_693 : Jvm.Cond.instanceMethod yX5_usesSecond ∈ am_ok := am_wd 693 (by decide +kernel) (by decide +kernel)
theorem wd_694 : Jvm.Cond.selects RX5 yX5_usesSecond yX5_usesSecond ∈ am_ok := am_wd 694 (by decide +kernel) (by decide +kernel)
theorem wd_236 : Jvm.Cond.fieldLinkNest RX6 119 "BlockCast$Part" "secondVector" "I" "BlockCast" ∈ am_ok := am_wd 236 (by decide +kernel) (by decide +kernel)
theorem wd_658 : Jvm.Cond.methodLink RX6 77 yX6_sliceOf ∈ am_ok := am_wd 658 (by decide +kernel) (by decide +kernel)
theorem wd_624 : Jvm.Cond.instanceMethod yX6_sliceOf ∈ am_ok := am_wd 624 (by decide +kernel) (by decide +kernel)
theorem wd_625 : Jvm.Cond.selects RX6 yX6_sliceOf yX6_sliceOf ∈ am_ok := am_wd 625 (by decide +kernel) (by decide +kernel)
theorem wd_903 : Jvm.Cond.methodLink RX9 9 yX9_right ∈ am_ok := am_wd 903 (by decide +kernel) (by decide +kernel)
theorem wd_904 : Jvm.Cond.static yX9_right ∈ am_ok := am_wd 904 (by decide +kernel) (by decide +kernel)
theorem wd_906 : Jvm.Cond.methodLink RX9 15 Lib.Math.abs.name ∈ am_ok := am_wd 906 (by decide +kernel) (by decide +kernel)
theorem wd_907 : Jvm.Cond.methodLink RX9 20 yX9_down ∈ am_ok := am_wd 907 (by decide +kernel) (by decide +kernel)
theorem wd_908 : Jvm.Cond.static yX9_down ∈ am_ok := am_wd 908 (by decide +kernel) (by decide +kernel)
theorem wd_975 : Jvm.Cond.constantLong RX10 39 (mL (2048)) ∈ am_ok := am_wd 975 (by decide +kernel) (by decide +kernel)
theorem bi_bipush_32 : (Int8.ofInt (32)).toInt32 = mI (32) := by decide +kernel
theorem wd_977 : Jvm.Cond.methodLink RX10 45 yX10_narrow ∈ am_ok := am_wd 977 (by decide +kernel) (by decide +kernel)
theorem wd_979 : Jvm.Cond.instanceMethod yX10_narrow ∈ am_ok := am_wd 979 (by decide +kernel) (by decide +kernel)
theorem wd_17 : Jvm.Cond.selects RX10 yX10_narrow yX10_narrow ∈ am_ok := am_wd 17 (by decide +kernel) (by decide +kernel)
theorem bi_sipush_2048 : (Int16.ofInt (2048)).toInt32 = mI (2048) := by decide +kernel
theorem wd_1013 : Jvm.Cond.constantLong RX10 49 (mL (2)) ∈ am_ok := am_wd 1013 (by decide +kernel) (by decide +kernel)
theorem wd_372 : Jvm.Cond.fieldLink RX11 39 "BlockCast" "coded" "[LBlockCast$Picture;" ∈ am_ok := am_wd 372 (by decide +kernel) (by decide +kernel)
theorem wd_374 : Jvm.Cond.fieldLink RX11 47 "BlockCast" "draft" "LBlockCast$Picture;" ∈ am_ok := am_wd 374 (by decide +kernel) (by decide +kernel)
theorem wd_99 : Jvm.Cond.fieldLinkNest RX11 329 "BlockCast$Picture" "isKept" "Z" "BlockCast" ∈ am_ok := am_wd 99 (by decide +kernel) (by decide +kernel)
theorem wd_375 : Jvm.Cond.fieldLink RX11 51 "BlockCast" "keptNumbers" "[I" ∈ am_ok := am_wd 375 (by decide +kernel) (by decide +kernel)
theorem wd_1090 : Jvm.Cond.methodLink RX11 332 yX7_shift ∈ am_ok := am_wd 1090 (by decide +kernel) (by decide +kernel)
theorem wd_1091 : Jvm.Cond.methodLink RX11 109 yX7_put ∈ am_ok := am_wd 1091 (by decide +kernel) (by decide +kernel)
theorem wd_1092 : Jvm.Cond.methodLink RX11 336 Lib.Math.min.name ∈ am_ok := am_wd 1092 (by decide +kernel) (by decide +kernel)
theorem wd_76 : Jvm.Cond.classLink RX11 37 RX6 ∈ am_ok := am_wd 76 (by decide +kernel) (by decide +kernel)
theorem wd_78 : Jvm.Cond.instantiable RX6 16 ∈ am_ok := am_wd 78 (by decide +kernel) (by decide +kernel)
theorem wd_79 : Jvm.Cond.methodLinkNest RX11 46 yX6_init "BlockCast" ∈ am_ok := am_wd 79 (by decide +kernel) (by decide +kernel)
theorem wd_80 : Jvm.Cond.instanceMethod yX6_init ∈ am_ok := am_wd 80 (by decide +kernel) (by decide +kernel)
theorem wd_692 : Jvm.Cond.methodLink RX1 92 yX5_usesSecond ∈ am_ok := am_wd 692 (by decide +kernel) (by decide +kernel)
theorem wd_173 : Jvm.Cond.fieldLink RX1 12 "BlockCast$Builder" "first" "LBlockCast$Halves;" ∈ am_ok := am_wd 173 (by decide +kernel) (by decide +kernel)
theorem wd_230 : Jvm.Cond.fieldLinkNest RX1 95 "BlockCast$Part" "firstVector" "I" "BlockCast" ∈ am_ok := am_wd 230 (by decide +kernel) (by decide +kernel)
theorem wd_696 : Jvm.Cond.methodLink RX1 98 yX4_guessed ∈ am_ok := am_wd 696 (by decide +kernel) (by decide +kernel)
theorem wd_697 : Jvm.Cond.instanceMethod yX4_guessed ∈ am_ok := am_wd 697 (by decide +kernel) (by decide +kernel)
theorem wd_698 : Jvm.Cond.selects RX4 yX4_guessed yX4_guessed ∈ am_ok := am_wd 698 (by decide +kernel) (by decide +kernel)
theorem wd_703 : Jvm.Cond.methodLink RX1 101 yX5_usesFirst ∈ am_ok := am_wd 703 (by decide +kernel) (by decide +kernel)
theorem wd_176 : Jvm.Cond.fieldLink RX1 18 "BlockCast$Builder" "second" "LBlockCast$Halves;" ∈ am_ok := am_wd 176 (by decide +kernel) (by decide +kernel)
theorem wd_235 : Jvm.Cond.fieldLinkNest RX1 104 "BlockCast$Part" "secondVector" "I" "BlockCast" ∈ am_ok := am_wd 235 (by decide +kernel) (by decide +kernel)
theorem wd_162 : Jvm.Cond.methodLink RX1 3 Lib.objectInit ∈ am_ok := am_wd 162 (by decide +kernel) (by decide +kernel)
theorem wd_163 : Jvm.Cond.classLink RX1 9 RX4 ∈ am_ok := am_wd 163 (by decide +kernel) (by decide +kernel)
theorem wd_164 : Jvm.Cond.instantiable RX4 1 ∈ am_ok := am_wd 164 (by decide +kernel) (by decide +kernel)
theorem wd_165 : Jvm.Cond.methodLinkNest RX1 11 yX4_init "BlockCast" ∈ am_ok := am_wd 165 (by decide +kernel) (by decide +kernel)
theorem wd_166 : Jvm.Cond.instanceMethod yX4_init ∈ am_ok := am_wd 166 (by decide +kernel) (by decide +kernel)
theorem wd_724 : Jvm.Cond.methodLink RX1 133 yX6_has ∈ am_ok := am_wd 724 (by decide +kernel) (by decide +kernel)
theorem wd_91 : Jvm.Cond.fieldLinkNest RX1 123 "BlockCast$Picture" "step" "I" "BlockCast" ∈ am_ok := am_wd 91 (by decide +kernel) (by decide +kernel)
theorem wd_728 : Jvm.Cond.methodLink RX1 137 yX1_smoothPair ∈ am_ok := am_wd 728 (by decide +kernel) (by decide +kernel)
theorem wd_729 : Jvm.Cond.static yX1_smoothPair ∈ am_ok := am_wd 729 (by decide +kernel) (by decide +kernel)
theorem wd_734 : Jvm.Cond.methodLink RX1 141 yX6_sliceOf ∈ am_ok := am_wd 734 (by decide +kernel) (by decide +kernel)
theorem wd_221 : Jvm.Cond.fieldLinkNest RX1 52 "BlockCast$Part" "top" "I" "BlockCast" ∈ am_ok := am_wd 221 (by decide +kernel) (by decide +kernel)
theorem wd_667 : Jvm.Cond.methodLink RX1 55 yX1_bordering ∈ am_ok := am_wd 667 (by decide +kernel) (by decide +kernel)
theorem wd_668 : Jvm.Cond.static yX1_bordering ∈ am_ok := am_wd 668 (by decide +kernel) (by decide +kernel)
theorem wd_716 : Jvm.Cond.methodLink RX1 129 yX1_transformLine ∈ am_ok := am_wd 716 (by decide +kernel) (by decide +kernel)
theorem wd_718 : Jvm.Cond.instanceMethod yX1_transformLine ∈ am_ok := am_wd 718 (by decide +kernel) (by decide +kernel)
theorem wd_7 : Jvm.Cond.selects RX1 yX1_transformLine yX1_transformLine ∈ am_ok := am_wd 7 (by decide +kernel) (by decide +kernel)
theorem wd_900 : Jvm.Cond.methodLink RX4 37 yX9_length ∈ am_ok := am_wd 900 (by decide +kernel) (by decide +kernel)
theorem wd_901 : Jvm.Cond.static yX9_length ∈ am_ok := am_wd 901 (by decide +kernel) (by decide +kernel)
theorem wd_210 : Jvm.Cond.fieldLinkNest RX4 42 "BlockCast$Part" "x" "I" "BlockCast" ∈ am_ok := am_wd 210 (by decide +kernel) (by decide +kernel)
theorem wd_214 : Jvm.Cond.fieldLinkNest RX4 48 "BlockCast$Part" "y" "I" "BlockCast" ∈ am_ok := am_wd 214 (by decide +kernel) (by decide +kernel)
theorem wd_910 : Jvm.Cond.methodLinkNest RX4 51 yX11_placeOf "BlockCast" ∈ am_ok := am_wd 910 (by decide +kernel) (by decide +kernel)
theorem wd_218 : Jvm.Cond.fieldLinkNest RX4 55 "BlockCast$Part" "size" "I" "BlockCast" ∈ am_ok := am_wd 218 (by decide +kernel) (by decide +kernel)
theorem bi_bipush_94 : (Int8.ofInt (94)).toInt32 = mI (94) := by decide +kernel
theorem wd_911 : Jvm.Cond.methodLink RX4 58 yX4_rowDifference ∈ am_ok := am_wd 911 (by decide +kernel) (by decide +kernel)
theorem wd_913 : Jvm.Cond.instanceMethod yX4_rowDifference ∈ am_ok := am_wd 913 (by decide +kernel) (by decide +kernel)
theorem wd_16 : Jvm.Cond.selects RX4 yX4_rowDifference yX4_rowDifference ∈ am_ok := am_wd 16 (by decide +kernel) (by decide +kernel)
theorem wd_598 : Jvm.Cond.methodLink RX4 15 yX4_between ∈ am_ok := am_wd 598 (by decide +kernel) (by decide +kernel)
theorem wd_599 : Jvm.Cond.static yX4_between ∈ am_ok := am_wd 599 (by decide +kernel) (by decide +kernel)
theorem wd_607 : Jvm.Cond.methodLink RX4 19 yX7_put ∈ am_ok := am_wd 607 (by decide +kernel) (by decide +kernel)
theorem wd_932 : Jvm.Cond.methodLink RX5 33 yX5_isOfBorder ∈ am_ok := am_wd 932 (by decide +kernel) (by decide +kernel)
theorem wd_678 : Jvm.Cond.instanceMethod yX5_isOfBorder ∈ am_ok := am_wd 678 (by decide +kernel) (by decide +kernel)
theorem wd_679 : Jvm.Cond.selects RX5 yX5_isOfBorder yX5_isOfBorder ∈ am_ok := am_wd 679 (by decide +kernel) (by decide +kernel)
theorem wd_933 : Jvm.Cond.methodLink RX5 37 yX5_usesFirst ∈ am_ok := am_wd 933 (by decide +kernel) (by decide +kernel)
theorem wd_934 : Jvm.Cond.methodLink RX5 40 yX9_length ∈ am_ok := am_wd 934 (by decide +kernel) (by decide +kernel)
theorem wd_935 : Jvm.Cond.methodLink RX5 46 yX5_usesSecond ∈ am_ok := am_wd 935 (by decide +kernel) (by decide +kernel)
theorem wd_652 : Jvm.Cond.methodLinkNest RX6 122 yX11_rowOf "BlockCast" ∈ am_ok := am_wd 652 (by decide +kernel) (by decide +kernel)
theorem wd_618 : Jvm.Cond.static yX11_rowOf ∈ am_ok := am_wd 618 (by decide +kernel) (by decide +kernel)
theorem wd_653 : Jvm.Cond.methodLinkNest RX6 125 yX11_columnOf "BlockCast" ∈ am_ok := am_wd 653 (by decide +kernel) (by decide +kernel)
theorem wd_615 : Jvm.Cond.static yX11_columnOf ∈ am_ok := am_wd 615 (by decide +kernel) (by decide +kernel)
theorem wd_643 : Jvm.Cond.methodLink RX6 85 yX6_isSplitAt ∈ am_ok := am_wd 643 (by decide +kernel) (by decide +kernel)
theorem wd_644 : Jvm.Cond.instanceMethod yX6_isSplitAt ∈ am_ok := am_wd 644 (by decide +kernel) (by decide +kernel)
theorem wd_645 : Jvm.Cond.selects RX6 yX6_isSplitAt yX6_isSplitAt ∈ am_ok := am_wd 645 (by decide +kernel) (by decide +kernel)
theorem wd_654 : Jvm.Cond.methodLink RX6 128 yX6_topOf ∈ am_ok := am_wd 654 (by decide +kernel) (by decide +kernel)
theorem wd_655 : Jvm.Cond.instanceMethod yX6_topOf ∈ am_ok := am_wd 655 (by decide +kernel) (by decide +kernel)
theorem wd_656 : Jvm.Cond.selects RX6 yX6_topOf yX6_topOf ∈ am_ok := am_wd 656 (by decide +kernel) (by decide +kernel)
theorem wd_659 : Jvm.Cond.methodLink RX6 131 yX5_lay ∈ am_ok := am_wd 659 (by decide +kernel) (by decide +kernel)
theorem wd_660 : Jvm.Cond.instanceMethod yX5_lay ∈ am_ok := am_wd 660 (by decide +kernel) (by decide +kernel)
theorem wd_661 : Jvm.Cond.selects RX5 yX5_lay yX5_lay ∈ am_ok := am_wd 661 (by decide +kernel) (by decide +kernel)
theorem wd_640 : Jvm.Cond.methodLinkNest RX6 81 yX11_startsBlock "BlockCast" ∈ am_ok := am_wd 640 (by decide +kernel) (by decide +kernel)
theorem wd_641 : Jvm.Cond.static yX11_startsBlock ∈ am_ok := am_wd 641 (by decide +kernel) (by decide +kernel)
theorem wd_264 : Jvm.Cond.methodLink RX8 3 Lib.objectInit ∈ am_ok := am_wd 264 (by decide +kernel) (by decide +kernel)
theorem wd_265 : Jvm.Cond.classLink RX8 9 RX10 ∈ am_ok := am_wd 265 (by decide +kernel) (by decide +kernel)
theorem wd_266 : Jvm.Cond.instantiable RX10 5 ∈ am_ok := am_wd 266 (by decide +kernel) (by decide +kernel)
theorem wd_267 : Jvm.Cond.methodLinkNest RX8 11 yX10_init "BlockCast" ∈ am_ok := am_wd 267 (by decide +kernel) (by decide +kernel)
theorem wd_268 : Jvm.Cond.instanceMethod yX10_init ∈ am_ok := am_wd 268 (by decide +kernel) (by decide +kernel)
theorem wd_293 : Jvm.Cond.fieldLink RX8 21 "BlockCast$Scribe" "writer" "LBlockCast$Writer;" ∈ am_ok := am_wd 293 (by decide +kernel) (by decide +kernel)
theorem wd_289 : Jvm.Cond.classLink RX8 24 RX5 ∈ am_ok := am_wd 289 (by decide +kernel) (by decide +kernel)
theorem wd_203 : Jvm.Cond.instantiable RX5 7 ∈ am_ok := am_wd 203 (by decide +kernel) (by decide +kernel)
theorem wd_290 : Jvm.Cond.methodLinkNest RX8 26 yX5_init "BlockCast" ∈ am_ok := am_wd 290 (by decide +kernel) (by decide +kernel)
theorem wd_205 : Jvm.Cond.instanceMethod yX5_init ∈ am_ok := am_wd 205 (by decide +kernel) (by decide +kernel)
theorem wd_294 : Jvm.Cond.fieldLink RX8 27 "BlockCast$Scribe" "part" "LBlockCast$Part;" ∈ am_ok := am_wd 294 (by decide +kernel) (by decide +kernel)
theorem wd_1068 : Jvm.Cond.methodLink RX8 115 yX10_written ∈ am_ok := am_wd 1068 (by decide +kernel) (by decide +kernel)
theorem wd_1069 : Jvm.Cond.instanceMethod yX10_written ∈ am_ok := am_wd 1069 (by decide +kernel) (by decide +kernel)
theorem wd_1070 : Jvm.Cond.selects RX10 yX10_written yX10_written ∈ am_ok := am_wd 1070 (by decide +kernel) (by decide +kernel)
theorem bi_bipush_11 : (Int8.ofInt (11)).toInt32 = mI (11) := by decide +kernel
theorem wd_1008 : Jvm.Cond.methodLink RX10 64 yX10_bit ∈ am_ok := am_wd 1008 (by decide +kernel) (by decide +kernel)
theorem wd_971 : Jvm.Cond.instanceMethod yX10_bit ∈ am_ok := am_wd 971 (by decide +kernel) (by decide +kernel)
theorem wd_972 : Jvm.Cond.selects RX10 yX10_bit yX10_bit ∈ am_ok := am_wd 972 (by decide +kernel) (by decide +kernel)
theorem wd_1009 : Jvm.Cond.methodLink RX10 68 yX10_plain ∈ am_ok := am_wd 1009 (by decide +kernel) (by decide +kernel)
theorem wd_1010 : Jvm.Cond.instanceMethod yX10_plain ∈ am_ok := am_wd 1010 (by decide +kernel) (by decide +kernel)
theorem wd_1011 : Jvm.Cond.selects RX10 yX10_plain yX10_plain ∈ am_ok := am_wd 1011 (by decide +kernel) (by decide +kernel)
theorem wd_113 : Jvm.Cond.fieldLinkNest RX1 118 "BlockCast$Picture" "levels" "[I" "BlockCast" ∈ am_ok := am_wd 113 (by decide +kernel) (by decide +kernel)
theorem wd_711 : Jvm.Cond.methodLinkNest RX1 112 yX11_inPicture "BlockCast" ∈ am_ok := am_wd 711 (by decide +kernel) (by decide +kernel)
theorem wd_712 : Jvm.Cond.methodLink RX1 115 yX1_transform ∈ am_ok := am_wd 712 (by decide +kernel) (by decide +kernel)
theorem wd_714 : Jvm.Cond.instanceMethod yX1_transform ∈ am_ok := am_wd 714 (by decide +kernel) (by decide +kernel)
theorem wd_6 : Jvm.Cond.selects RX1 yX1_transform yX1_transform ∈ am_ok := am_wd 6 (by decide +kernel) (by decide +kernel)
theorem wd_677 : Jvm.Cond.methodLink RX1 73 yX5_isOfBorder ∈ am_ok := am_wd 677 (by decide +kernel) (by decide +kernel)
theorem wd_223 : Jvm.Cond.fieldLinkNest RX1 77 "BlockCast$Part" "mode" "I" "BlockCast" ∈ am_ok := am_wd 223 (by decide +kernel) (by decide +kernel)
theorem wd_681 : Jvm.Cond.methodLink RX1 80 yX1_fromBorder ∈ am_ok := am_wd 681 (by decide +kernel) (by decide +kernel)
theorem wd_683 : Jvm.Cond.instanceMethod yX1_fromBorder ∈ am_ok := am_wd 683 (by decide +kernel) (by decide +kernel)
theorem wd_4 : Jvm.Cond.selects RX1 yX1_fromBorder yX1_fromBorder ∈ am_ok := am_wd 4 (by decide +kernel) (by decide +kernel)
theorem wd_688 : Jvm.Cond.methodLink RX1 84 yX1_fromKept ∈ am_ok := am_wd 688 (by decide +kernel) (by decide +kernel)
theorem wd_690 : Jvm.Cond.instanceMethod yX1_fromKept ∈ am_ok := am_wd 690 (by decide +kernel) (by decide +kernel)
theorem wd_5 : Jvm.Cond.selects RX1 yX1_fromKept yX1_fromKept ∈ am_ok := am_wd 5 (by decide +kernel) (by decide +kernel)
theorem wd_950 : Jvm.Cond.methodLink RX1 126 yX1_levelOf ∈ am_ok := am_wd 950 (by decide +kernel) (by decide +kernel)
theorem wd_951 : Jvm.Cond.static yX1_levelOf ∈ am_ok := am_wd 951 (by decide +kernel) (by decide +kernel)
theorem wd_156 : Jvm.Cond.methodLink RX2 3 Lib.objectInit ∈ am_ok := am_wd 156 (by decide +kernel) (by decide +kernel)
theorem wd_157 : Jvm.Cond.classLink RX2 9 RX1 ∈ am_ok := am_wd 157 (by decide +kernel) (by decide +kernel)
theorem wd_158 : Jvm.Cond.instantiable RX1 8 ∈ am_ok := am_wd 158 (by decide +kernel) (by decide +kernel)
theorem wd_159 : Jvm.Cond.methodLinkNest RX2 11 yX1_init "BlockCast" ∈ am_ok := am_wd 159 (by decide +kernel) (by decide +kernel)
theorem wd_160 : Jvm.Cond.instanceMethod yX1_init ∈ am_ok := am_wd 160 (by decide +kernel) (by decide +kernel)
theorem wd_252 : Jvm.Cond.fieldLink RX2 12 "BlockCast$Chooser" "builder" "LBlockCast$Builder;" ∈ am_ok := am_wd 252 (by decide +kernel) (by decide +kernel)
theorem wd_202 : Jvm.Cond.classLink RX2 18 RX5 ∈ am_ok := am_wd 202 (by decide +kernel) (by decide +kernel)
theorem wd_204 : Jvm.Cond.methodLinkNest RX2 20 yX5_init "BlockCast" ∈ am_ok := am_wd 204 (by decide +kernel) (by decide +kernel)
theorem wd_253 : Jvm.Cond.fieldLink RX2 21 "BlockCast$Chooser" "part" "LBlockCast$Part;" ∈ am_ok := am_wd 253 (by decide +kernel) (by decide +kernel)
theorem wd_862 : Jvm.Cond.methodLink RX2 25 yX6_leansOnFirst ∈ am_ok := am_wd 862 (by decide +kernel) (by decide +kernel)
theorem wd_174 : Jvm.Cond.fieldLinkNest RX2 31 "BlockCast$Builder" "first" "LBlockCast$Halves;" "BlockCast" ∈ am_ok := am_wd 174 (by decide +kernel) (by decide +kernel)
theorem wd_863 : Jvm.Cond.methodLink RX2 35 yX4_take ∈ am_ok := am_wd 863 (by decide +kernel) (by decide +kernel)
theorem wd_595 : Jvm.Cond.instanceMethod yX4_take ∈ am_ok := am_wd 595 (by decide +kernel) (by decide +kernel)
theorem wd_596 : Jvm.Cond.selects RX4 yX4_take yX4_take ∈ am_ok := am_wd 596 (by decide +kernel) (by decide +kernel)
theorem wd_864 : Jvm.Cond.methodLink RX2 41 yX6_leansOnSecond ∈ am_ok := am_wd 864 (by decide +kernel) (by decide +kernel)
theorem wd_177 : Jvm.Cond.fieldLinkNest RX2 44 "BlockCast$Builder" "second" "LBlockCast$Halves;" "BlockCast" ∈ am_ok := am_wd 177 (by decide +kernel) (by decide +kernel)
theorem wd_892 : Jvm.Cond.methodLink RX2 148 yX9_of ∈ am_ok := am_wd 892 (by decide +kernel) (by decide +kernel)
theorem wd_893 : Jvm.Cond.static yX9_of ∈ am_ok := am_wd 893 (by decide +kernel) (by decide +kernel)
theorem wd_895 : Jvm.Cond.constant RX2 126 (mI (1000000)) ∈ am_ok := am_wd 895 (by decide +kernel) (by decide +kernel)
theorem bi_bipush_m8 : (Int8.ofInt (-8)).toInt32 = mI (-8) := by decide +kernel
theorem wd_896 : Jvm.Cond.methodLink RX2 153 yX4_costOf ∈ am_ok := am_wd 896 (by decide +kernel) (by decide +kernel)
theorem wd_897 : Jvm.Cond.instanceMethod yX4_costOf ∈ am_ok := am_wd 897 (by decide +kernel) (by decide +kernel)
theorem wd_898 : Jvm.Cond.selects RX4 yX4_costOf yX4_costOf ∈ am_ok := am_wd 898 (by decide +kernel) (by decide +kernel)
theorem wd_309 : Jvm.Cond.methodLink RX3 3 Lib.objectInit ∈ am_ok := am_wd 309 (by decide +kernel) (by decide +kernel)
theorem wd_310 : Jvm.Cond.classLink RX3 9 RX1 ∈ am_ok := am_wd 310 (by decide +kernel) (by decide +kernel)
theorem wd_311 : Jvm.Cond.methodLinkNest RX3 11 yX1_init "BlockCast" ∈ am_ok := am_wd 311 (by decide +kernel) (by decide +kernel)
theorem wd_314 : Jvm.Cond.fieldLink RX3 12 "BlockCast$Decoder" "builder" "LBlockCast$Builder;" ∈ am_ok := am_wd 314 (by decide +kernel) (by decide +kernel)
theorem wd_312 : Jvm.Cond.classLink RX3 18 RX5 ∈ am_ok := am_wd 312 (by decide +kernel) (by decide +kernel)
theorem wd_313 : Jvm.Cond.methodLinkNest RX3 20 yX5_init "BlockCast" ∈ am_ok := am_wd 313 (by decide +kernel) (by decide +kernel)
theorem wd_315 : Jvm.Cond.fieldLink RX3 21 "BlockCast$Decoder" "part" "LBlockCast$Part;" ∈ am_ok := am_wd 315 (by decide +kernel) (by decide +kernel)
theorem bi_sipush_768 : (Int16.ofInt (768)).toInt32 = mI (768) := by decide +kernel
theorem wd_329 : Jvm.Cond.fieldLink RX3 52 "BlockCast$Decoder" "sentCount" "I" ∈ am_ok := am_wd 329 (by decide +kernel) (by decide +kernel)
theorem wd_331 : Jvm.Cond.fieldLink RX3 55 "BlockCast$Decoder" "cleanCount" "I" ∈ am_ok := am_wd 331 (by decide +kernel) (by decide +kernel)
theorem wd_792 : Jvm.Cond.methodLink RX6 135 yX6_startsPart ∈ am_ok := am_wd 792 (by decide +kernel) (by decide +kernel)
theorem wd_637 : Jvm.Cond.instanceMethod yX6_startsPart ∈ am_ok := am_wd 637 (by decide +kernel) (by decide +kernel)
theorem wd_638 : Jvm.Cond.selects RX6 yX6_startsPart yX6_startsPart ∈ am_ok := am_wd 638 (by decide +kernel) (by decide +kernel)
theorem wd_970 : Jvm.Cond.methodLink RX8 59 yX10_bit ∈ am_ok := am_wd 970 (by decide +kernel) (by decide +kernel)
theorem wd_993 : Jvm.Cond.methodLink RX8 119 yX6_leansOnFirst ∈ am_ok := am_wd 993 (by decide +kernel) (by decide +kernel)
theorem wd_994 : Jvm.Cond.methodLink RX8 122 yX5_isOfBorder ∈ am_ok := am_wd 994 (by decide +kernel) (by decide +kernel)
theorem wd_224 : Jvm.Cond.fieldLinkNest RX8 125 "BlockCast$Part" "mode" "I" "BlockCast" ∈ am_ok := am_wd 224 (by decide +kernel) (by decide +kernel)
theorem wd_995 : Jvm.Cond.methodLink RX8 128 yX6_leansOnSecond ∈ am_ok := am_wd 995 (by decide +kernel) (by decide +kernel)
theorem wd_55 : Jvm.Cond.methodLink RX11 1 Lib.objectInit ∈ am_ok := am_wd 55 (by decide +kernel) (by decide +kernel)
theorem wd_365 : Jvm.Cond.fieldLink RX11 9 "BlockCast" "canvas" "[I" ∈ am_ok := am_wd 365 (by decide +kernel) (by decide +kernel)
theorem wd_366 : Jvm.Cond.fieldLink RX11 13 "BlockCast" "moved" "[I" ∈ am_ok := am_wd 366 (by decide +kernel) (by decide +kernel)
theorem wd_367 : Jvm.Cond.fieldLink RX11 16 "BlockCast" "nextCoarseness" "I" ∈ am_ok := am_wd 367 (by decide +kernel) (by decide +kernel)
theorem wd_368 : Jvm.Cond.fieldLink RX11 20 "BlockCast" "nextTools" "I" ∈ am_ok := am_wd 368 (by decide +kernel) (by decide +kernel)
theorem wd_369 : Jvm.Cond.fieldLink RX11 23 "BlockCast" "nextSlices" "I" ∈ am_ok := am_wd 369 (by decide +kernel) (by decide +kernel)
theorem wd_370 : Jvm.Cond.fieldLink RX11 26 "BlockCast" "isNextKept" "Z" ∈ am_ok := am_wd 370 (by decide +kernel) (by decide +kernel)
theorem wd_58 : Jvm.Cond.classLink RX11 30 RX0 ∈ am_ok := am_wd 58 (by decide +kernel) (by decide +kernel)
theorem wd_59 : Jvm.Cond.instantiable RX0 3 ∈ am_ok := am_wd 59 (by decide +kernel) (by decide +kernel)
theorem wd_60 : Jvm.Cond.methodLinkNest RX11 32 yX0_init "BlockCast" ∈ am_ok := am_wd 60 (by decide +kernel) (by decide +kernel)
theorem wd_61 : Jvm.Cond.instanceMethod yX0_init ∈ am_ok := am_wd 61 (by decide +kernel) (by decide +kernel)
theorem wd_371 : Jvm.Cond.fieldLink RX11 33 "BlockCast" "bucketOfBits" "LBlockCast$Bucket;" ∈ am_ok := am_wd 371 (by decide +kernel) (by decide +kernel)
theorem bi_bipush_12 : (Int8.ofInt (12)).toInt32 = mI (12) := by decide +kernel
theorem wd_151 : Jvm.Cond.classLink RX11 57 RX2 ∈ am_ok := am_wd 151 (by decide +kernel) (by decide +kernel)
theorem wd_152 : Jvm.Cond.instantiable RX2 2 ∈ am_ok := am_wd 152 (by decide +kernel) (by decide +kernel)
theorem wd_153 : Jvm.Cond.methodLinkNest RX11 59 yX2_init "BlockCast" ∈ am_ok := am_wd 153 (by decide +kernel) (by decide +kernel)
theorem wd_154 : Jvm.Cond.instanceMethod yX2_init ∈ am_ok := am_wd 154 (by decide +kernel) (by decide +kernel)
theorem wd_377 : Jvm.Cond.fieldLink RX11 60 "BlockCast" "chooser" "LBlockCast$Chooser;" ∈ am_ok := am_wd 377 (by decide +kernel) (by decide +kernel)
theorem wd_259 : Jvm.Cond.classLink RX11 64 RX8 ∈ am_ok := am_wd 259 (by decide +kernel) (by decide +kernel)
theorem wd_260 : Jvm.Cond.instantiable RX8 4 ∈ am_ok := am_wd 260 (by decide +kernel) (by decide +kernel)
theorem wd_261 : Jvm.Cond.methodLinkNest RX11 66 yX8_init "BlockCast" ∈ am_ok := am_wd 261 (by decide +kernel) (by decide +kernel)
theorem wd_262 : Jvm.Cond.instanceMethod yX8_init ∈ am_ok := am_wd 262 (by decide +kernel) (by decide +kernel)
theorem wd_378 : Jvm.Cond.fieldLink RX11 67 "BlockCast" "scribe" "LBlockCast$Scribe;" ∈ am_ok := am_wd 378 (by decide +kernel) (by decide +kernel)
theorem wd_304 : Jvm.Cond.classLink RX11 71 RX3 ∈ am_ok := am_wd 304 (by decide +kernel) (by decide +kernel)
theorem wd_305 : Jvm.Cond.instantiable RX3 12 ∈ am_ok := am_wd 305 (by decide +kernel) (by decide +kernel)
theorem wd_306 : Jvm.Cond.methodLinkNest RX11 73 yX3_init "BlockCast" ∈ am_ok := am_wd 306 (by decide +kernel) (by decide +kernel)
theorem wd_307 : Jvm.Cond.instanceMethod yX3_init ∈ am_ok := am_wd 307 (by decide +kernel) (by decide +kernel)
theorem wd_379 : Jvm.Cond.fieldLink RX11 74 "BlockCast" "decoder" "LBlockCast$Decoder;" ∈ am_ok := am_wd 379 (by decide +kernel) (by decide +kernel)
theorem wd_358 : Jvm.Cond.methodLink RX11 78 yX3_startAt ∈ am_ok := am_wd 358 (by decide +kernel) (by decide +kernel)
theorem wd_359 : Jvm.Cond.instanceMethod yX3_startAt ∈ am_ok := am_wd 359 (by decide +kernel) (by decide +kernel)
theorem wd_360 : Jvm.Cond.selects RX3 yX3_startAt yX3_startAt ∈ am_ok := am_wd 360 (by decide +kernel) (by decide +kernel)
theorem wd_888 : Jvm.Cond.methodLink RX2 112 yX2_search ∈ am_ok := am_wd 888 (by decide +kernel) (by decide +kernel)
theorem wd_890 : Jvm.Cond.instanceMethod yX2_search ∈ am_ok := am_wd 890 (by decide +kernel) (by decide +kernel)
theorem wd_15 : Jvm.Cond.selects RX2 yX2_search yX2_search ∈ am_ok := am_wd 15 (by decide +kernel) (by decide +kernel)
theorem wd_229 : Jvm.Cond.fieldLinkNest RX2 116 "BlockCast$Part" "firstVector" "I" "BlockCast" ∈ am_ok := am_wd 229 (by decide +kernel) (by decide +kernel)
theorem wd_234 : Jvm.Cond.fieldLinkNest RX2 119 "BlockCast$Part" "secondVector" "I" "BlockCast" ∈ am_ok := am_wd 234 (by decide +kernel) (by decide +kernel)
theorem wd_116 : Jvm.Cond.fieldLinkNest RX2 81 "BlockCast$Picture" "pixels" "[I" "BlockCast" ∈ am_ok := am_wd 116 (by decide +kernel) (by decide +kernel)
theorem wd_916 : Jvm.Cond.methodLink RX2 122 yX1_takeBorder ∈ am_ok := am_wd 916 (by decide +kernel) (by decide +kernel)
theorem wd_664 : Jvm.Cond.instanceMethod yX1_takeBorder ∈ am_ok := am_wd 664 (by decide +kernel) (by decide +kernel)
theorem wd_665 : Jvm.Cond.selects RX1 yX1_takeBorder yX1_takeBorder ∈ am_ok := am_wd 665 (by decide +kernel) (by decide +kernel)
theorem wd_917 : Jvm.Cond.methodLink RX2 127 yX6_modeCount ∈ am_ok := am_wd 917 (by decide +kernel) (by decide +kernel)
theorem wd_918 : Jvm.Cond.instanceMethod yX6_modeCount ∈ am_ok := am_wd 918 (by decide +kernel) (by decide +kernel)
theorem wd_919 : Jvm.Cond.selects RX6 yX6_modeCount yX6_modeCount ∈ am_ok := am_wd 919 (by decide +kernel) (by decide +kernel)
theorem wd_225 : Jvm.Cond.fieldLinkNest RX2 131 "BlockCast$Part" "mode" "I" "BlockCast" ∈ am_ok := am_wd 225 (by decide +kernel) (by decide +kernel)
theorem wd_923 : Jvm.Cond.methodLink RX2 134 yX1_guessPart ∈ am_ok := am_wd 923 (by decide +kernel) (by decide +kernel)
theorem wd_674 : Jvm.Cond.instanceMethod yX1_guessPart ∈ am_ok := am_wd 674 (by decide +kernel) (by decide +kernel)
theorem wd_675 : Jvm.Cond.selects RX1 yX1_guessPart yX1_guessPart ∈ am_ok := am_wd 675 (by decide +kernel) (by decide +kernel)
theorem wd_924 : Jvm.Cond.methodLink RX2 138 yX1_guessError ∈ am_ok := am_wd 924 (by decide +kernel) (by decide +kernel)
theorem wd_925 : Jvm.Cond.instanceMethod yX1_guessError ∈ am_ok := am_wd 925 (by decide +kernel) (by decide +kernel)
theorem wd_926 : Jvm.Cond.selects RX1 yX1_guessError yX1_guessError ∈ am_ok := am_wd 926 (by decide +kernel) (by decide +kernel)
theorem wd_928 : Jvm.Cond.methodLink RX2 142 yX5_extraCost ∈ am_ok := am_wd 928 (by decide +kernel) (by decide +kernel)
theorem wd_929 : Jvm.Cond.instanceMethod yX5_extraCost ∈ am_ok := am_wd 929 (by decide +kernel) (by decide +kernel)
theorem wd_930 : Jvm.Cond.selects RX5 yX5_extraCost yX5_extraCost ∈ am_ok := am_wd 930 (by decide +kernel) (by decide +kernel)
theorem wd_936 : Jvm.Cond.methodLink RX2 145 yX6_note ∈ am_ok := am_wd 936 (by decide +kernel) (by decide +kernel)
theorem wd_937 : Jvm.Cond.instanceMethod yX6_note ∈ am_ok := am_wd 937 (by decide +kernel) (by decide +kernel)
theorem wd_938 : Jvm.Cond.selects RX6 yX6_note yX6_note ∈ am_ok := am_wd 938 (by decide +kernel) (by decide +kernel)
theorem wd_175 : Jvm.Cond.fieldLinkNest RX3 114 "BlockCast$Builder" "first" "LBlockCast$Halves;" "BlockCast" ∈ am_ok := am_wd 175 (by decide +kernel) (by decide +kernel)
theorem wd_594 : Jvm.Cond.methodLink RX3 117 yX4_take ∈ am_ok := am_wd 594 (by decide +kernel) (by decide +kernel)
theorem wd_178 : Jvm.Cond.fieldLinkNest RX3 122 "BlockCast$Builder" "second" "LBlockCast$Halves;" "BlockCast" ∈ am_ok := am_wd 178 (by decide +kernel) (by decide +kernel)
theorem wd_614 : Jvm.Cond.methodLinkNest RX3 124 yX11_columnOf "BlockCast" ∈ am_ok := am_wd 614 (by decide +kernel) (by decide +kernel)
theorem wd_617 : Jvm.Cond.methodLinkNest RX3 128 yX11_rowOf "BlockCast" ∈ am_ok := am_wd 617 (by decide +kernel) (by decide +kernel)
theorem wd_620 : Jvm.Cond.methodLinkNest RX3 131 yX11_placeOf "BlockCast" ∈ am_ok := am_wd 620 (by decide +kernel) (by decide +kernel)
theorem wd_623 : Jvm.Cond.methodLink RX3 134 yX6_sliceOf ∈ am_ok := am_wd 623 (by decide +kernel) (by decide +kernel)
theorem wd_627 : Jvm.Cond.methodLink RX3 137 yX3_conceal ∈ am_ok := am_wd 627 (by decide +kernel) (by decide +kernel)
theorem wd_629 : Jvm.Cond.instanceMethod yX3_conceal ∈ am_ok := am_wd 629 (by decide +kernel) (by decide +kernel)
theorem wd_3 : Jvm.Cond.selects RX3 yX3_conceal yX3_conceal ∈ am_ok := am_wd 3 (by decide +kernel) (by decide +kernel)
theorem wd_636 : Jvm.Cond.methodLink RX3 141 yX6_startsPart ∈ am_ok := am_wd 636 (by decide +kernel) (by decide +kernel)
theorem wd_648 : Jvm.Cond.methodLink RX3 145 yX6_recall ∈ am_ok := am_wd 648 (by decide +kernel) (by decide +kernel)
theorem wd_649 : Jvm.Cond.instanceMethod yX6_recall ∈ am_ok := am_wd 649 (by decide +kernel) (by decide +kernel)
theorem wd_650 : Jvm.Cond.selects RX6 yX6_recall yX6_recall ∈ am_ok := am_wd 650 (by decide +kernel) (by decide +kernel)
theorem wd_663 : Jvm.Cond.methodLink RX3 149 yX1_takeBorder ∈ am_ok := am_wd 663 (by decide +kernel) (by decide +kernel)
theorem wd_673 : Jvm.Cond.methodLink RX3 153 yX1_guessPart ∈ am_ok := am_wd 673 (by decide +kernel) (by decide +kernel)
theorem wd_707 : Jvm.Cond.methodLink RX3 157 yX1_buildSquare ∈ am_ok := am_wd 707 (by decide +kernel) (by decide +kernel)
theorem wd_708 : Jvm.Cond.instanceMethod yX1_buildSquare ∈ am_ok := am_wd 708 (by decide +kernel) (by decide +kernel)
theorem wd_709 : Jvm.Cond.selects RX1 yX1_buildSquare yX1_buildSquare ∈ am_ok := am_wd 709 (by decide +kernel) (by decide +kernel)
theorem wd_720 : Jvm.Cond.methodLink RX3 161 yX1_smooth ∈ am_ok := am_wd 720 (by decide +kernel) (by decide +kernel)
theorem wd_721 : Jvm.Cond.instanceMethod yX1_smooth ∈ am_ok := am_wd 721 (by decide +kernel) (by decide +kernel)
theorem wd_722 : Jvm.Cond.selects RX1 yX1_smooth yX1_smooth ∈ am_ok := am_wd 722 (by decide +kernel) (by decide +kernel)
theorem wd_1023 : Jvm.Cond.fieldLink RX8 150 "BlockCast$Scribe" "ROW" "[I" ∈ am_ok := am_wd 1023 (by decide +kernel) (by decide +kernel)
theorem wd_1025 : Jvm.Cond.methodLinkNest RX8 153 yX11_inPicture "BlockCast" ∈ am_ok := am_wd 1025 (by decide +kernel) (by decide +kernel)
theorem wd_1026 : Jvm.Cond.methodLink RX8 156 yX7_get ∈ am_ok := am_wd 1026 (by decide +kernel) (by decide +kernel)
theorem wd_1027 : Jvm.Cond.methodLink RX8 162 yX8_writeLastPlace ∈ am_ok := am_wd 1027 (by decide +kernel) (by decide +kernel)
theorem wd_1029 : Jvm.Cond.instanceMethod yX8_writeLastPlace ∈ am_ok := am_wd 1029 (by decide +kernel) (by decide +kernel)
theorem wd_22 : Jvm.Cond.selects RX8 yX8_writeLastPlace yX8_writeLastPlace ∈ am_ok := am_wd 22 (by decide +kernel) (by decide +kernel)
theorem bi_bipush_48 : (Int8.ofInt (48)).toInt32 = mI (48) := by decide +kernel
theorem wd_1014 : Jvm.Cond.methodLink RX8 143 yX10_plain ∈ am_ok := am_wd 1014 (by decide +kernel) (by decide +kernel)
theorem bi_bipush_64 : (Int8.ofInt (64)).toInt32 = mI (64) := by decide +kernel
theorem wd_1002 : Jvm.Cond.methodLink RX8 134 Lib.Math.abs.name ∈ am_ok := am_wd 1002 (by decide +kernel) (by decide +kernel)
theorem wd_1003 : Jvm.Cond.methodLink RX8 139 yX10_number ∈ am_ok := am_wd 1003 (by decide +kernel) (by decide +kernel)
theorem wd_1004 : Jvm.Cond.instanceMethod yX10_number ∈ am_ok := am_wd 1004 (by decide +kernel) (by decide +kernel)
theorem wd_1005 : Jvm.Cond.selects RX10 yX10_number yX10_number ∈ am_ok := am_wd 1005 (by decide +kernel) (by decide +kernel)
theorem wd_1001 : Jvm.Cond.methodLink RX8 131 yX9_right ∈ am_ok := am_wd 1001 (by decide +kernel) (by decide +kernel)
theorem wd_1015 : Jvm.Cond.methodLink RX8 147 yX9_down ∈ am_ok := am_wd 1015 (by decide +kernel) (by decide +kernel)
theorem wd_869 : Jvm.Cond.methodLinkNest RX2 47 yX11_columnOf "BlockCast" ∈ am_ok := am_wd 869 (by decide +kernel) (by decide +kernel)
theorem wd_870 : Jvm.Cond.methodLinkNest RX2 51 yX11_rowOf "BlockCast" ∈ am_ok := am_wd 870 (by decide +kernel) (by decide +kernel)
theorem wd_871 : Jvm.Cond.methodLinkNest RX2 54 yX11_startsBlock "BlockCast" ∈ am_ok := am_wd 871 (by decide +kernel) (by decide +kernel)
theorem wd_872 : Jvm.Cond.methodLink RX2 58 yX2_isToSplit ∈ am_ok := am_wd 872 (by decide +kernel) (by decide +kernel)
theorem wd_873 : Jvm.Cond.static yX2_isToSplit ∈ am_ok := am_wd 873 (by decide +kernel) (by decide +kernel)
theorem wd_882 : Jvm.Cond.methodLink RX2 62 yX6_topOf ∈ am_ok := am_wd 882 (by decide +kernel) (by decide +kernel)
theorem wd_883 : Jvm.Cond.methodLink RX2 65 yX5_lay ∈ am_ok := am_wd 883 (by decide +kernel) (by decide +kernel)
theorem wd_884 : Jvm.Cond.methodLink RX2 69 yX2_choosePart ∈ am_ok := am_wd 884 (by decide +kernel) (by decide +kernel)
theorem wd_886 : Jvm.Cond.instanceMethod yX2_choosePart ∈ am_ok := am_wd 886 (by decide +kernel) (by decide +kernel)
theorem wd_14 : Jvm.Cond.selects RX2 yX2_choosePart yX2_choosePart ∈ am_ok := am_wd 14 (by decide +kernel) (by decide +kernel)
theorem wd_946 : Jvm.Cond.methodLink RX2 77 yX1_levelSquare ∈ am_ok := am_wd 946 (by decide +kernel) (by decide +kernel)
theorem wd_947 : Jvm.Cond.instanceMethod yX1_levelSquare ∈ am_ok := am_wd 947 (by decide +kernel) (by decide +kernel)
theorem wd_948 : Jvm.Cond.selects RX1 yX1_levelSquare yX1_levelSquare ∈ am_ok := am_wd 948 (by decide +kernel) (by decide +kernel)
theorem wd_953 : Jvm.Cond.methodLink RX2 85 yX1_buildSquare ∈ am_ok := am_wd 953 (by decide +kernel) (by decide +kernel)
theorem wd_954 : Jvm.Cond.methodLink RX2 88 yX1_smooth ∈ am_ok := am_wd 954 (by decide +kernel) (by decide +kernel)
theorem wd_586 : Jvm.Cond.methodLink RX3 64 yX3_build ∈ am_ok := am_wd 586 (by decide +kernel) (by decide +kernel)
theorem wd_588 : Jvm.Cond.instanceMethod yX3_build ∈ am_ok := am_wd 588 (by decide +kernel) (by decide +kernel)
theorem wd_2 : Jvm.Cond.selects RX3 yX3_build yX3_build ∈ am_ok := am_wd 2 (by decide +kernel) (by decide +kernel)
theorem wd_735 : Jvm.Cond.methodLink RX3 68 yX3_leansOnClean ∈ am_ok := am_wd 735 (by decide +kernel) (by decide +kernel)
theorem wd_737 : Jvm.Cond.instanceMethod yX3_leansOnClean ∈ am_ok := am_wd 737 (by decide +kernel) (by decide +kernel)
theorem wd_8 : Jvm.Cond.selects RX3 yX3_leansOnClean yX3_leansOnClean ∈ am_ok := am_wd 8 (by decide +kernel) (by decide +kernel)
theorem wd_98 : Jvm.Cond.fieldLinkNest RX3 76 "BlockCast$Picture" "isKept" "Z" "BlockCast" ∈ am_ok := am_wd 98 (by decide +kernel) (by decide +kernel)
theorem wd_742 : Jvm.Cond.methodLink RX3 81 yX3_keep ∈ am_ok := am_wd 742 (by decide +kernel) (by decide +kernel)
theorem wd_744 : Jvm.Cond.instanceMethod yX3_keep ∈ am_ok := am_wd 744 (by decide +kernel) (by decide +kernel)
theorem wd_9 : Jvm.Cond.selects RX3 yX3_keep yX3_keep ∈ am_ok := am_wd 9 (by decide +kernel) (by decide +kernel)
theorem wd_959 : Jvm.Cond.methodLink RX8 31 yX9_of ∈ am_ok := am_wd 959 (by decide +kernel) (by decide +kernel)
theorem wd_960 : Jvm.Cond.methodLink RX8 37 yX10_start ∈ am_ok := am_wd 960 (by decide +kernel) (by decide +kernel)
theorem wd_961 : Jvm.Cond.instanceMethod yX10_start ∈ am_ok := am_wd 961 (by decide +kernel) (by decide +kernel)
theorem wd_962 : Jvm.Cond.selects RX10 yX10_start yX10_start ∈ am_ok := am_wd 962 (by decide +kernel) (by decide +kernel)
theorem wd_965 : Jvm.Cond.methodLinkNest RX8 40 yX11_rowOf "BlockCast" ∈ am_ok := am_wd 965 (by decide +kernel) (by decide +kernel)
theorem wd_966 : Jvm.Cond.methodLink RX8 44 yX6_sliceOf ∈ am_ok := am_wd 966 (by decide +kernel) (by decide +kernel)
theorem wd_967 : Jvm.Cond.methodLinkNest RX8 49 yX11_startsBlock "BlockCast" ∈ am_ok := am_wd 967 (by decide +kernel) (by decide +kernel)
theorem wd_968 : Jvm.Cond.methodLink RX8 53 yX6_has ∈ am_ok := am_wd 968 (by decide +kernel) (by decide +kernel)
theorem wd_969 : Jvm.Cond.methodLink RX8 56 yX6_isSplitAt ∈ am_ok := am_wd 969 (by decide +kernel) (by decide +kernel)
theorem wd_987 : Jvm.Cond.methodLink RX8 63 yX6_startsPart ∈ am_ok := am_wd 987 (by decide +kernel) (by decide +kernel)
theorem wd_988 : Jvm.Cond.methodLink RX8 66 yX6_recall ∈ am_ok := am_wd 988 (by decide +kernel) (by decide +kernel)
theorem wd_989 : Jvm.Cond.methodLink RX8 70 yX8_writeMode ∈ am_ok := am_wd 989 (by decide +kernel) (by decide +kernel)
theorem wd_991 : Jvm.Cond.instanceMethod yX8_writeMode ∈ am_ok := am_wd 991 (by decide +kernel) (by decide +kernel)
theorem wd_19 : Jvm.Cond.selects RX8 yX8_writeMode yX8_writeMode ∈ am_ok := am_wd 19 (by decide +kernel) (by decide +kernel)
theorem wd_996 : Jvm.Cond.methodLink RX8 74 yX5_usesFirst ∈ am_ok := am_wd 996 (by decide +kernel) (by decide +kernel)
theorem wd_228 : Jvm.Cond.fieldLinkNest RX8 78 "BlockCast$Part" "firstVector" "I" "BlockCast" ∈ am_ok := am_wd 228 (by decide +kernel) (by decide +kernel)
theorem wd_997 : Jvm.Cond.methodLink RX8 82 yX8_writeVector ∈ am_ok := am_wd 997 (by decide +kernel) (by decide +kernel)
theorem wd_999 : Jvm.Cond.instanceMethod yX8_writeVector ∈ am_ok := am_wd 999 (by decide +kernel) (by decide +kernel)
theorem wd_20 : Jvm.Cond.selects RX8 yX8_writeVector yX8_writeVector ∈ am_ok := am_wd 20 (by decide +kernel) (by decide +kernel)
theorem wd_1016 : Jvm.Cond.methodLink RX8 86 yX5_usesSecond ∈ am_ok := am_wd 1016 (by decide +kernel) (by decide +kernel)
theorem wd_233 : Jvm.Cond.fieldLinkNest RX8 89 "BlockCast$Part" "secondVector" "I" "BlockCast" ∈ am_ok := am_wd 233 (by decide +kernel) (by decide +kernel)
theorem wd_112 : Jvm.Cond.fieldLinkNest RX8 92 "BlockCast$Picture" "levels" "[I" "BlockCast" ∈ am_ok := am_wd 112 (by decide +kernel) (by decide +kernel)
theorem wd_1017 : Jvm.Cond.methodLinkNest RX8 96 yX11_columnOf "BlockCast" ∈ am_ok := am_wd 1017 (by decide +kernel) (by decide +kernel)
theorem wd_1018 : Jvm.Cond.methodLinkNest RX8 99 yX11_placeOf "BlockCast" ∈ am_ok := am_wd 1018 (by decide +kernel) (by decide +kernel)
theorem wd_1019 : Jvm.Cond.methodLink RX8 102 yX8_writeSquare ∈ am_ok := am_wd 1019 (by decide +kernel) (by decide +kernel)
theorem wd_1021 : Jvm.Cond.instanceMethod yX8_writeSquare ∈ am_ok := am_wd 1021 (by decide +kernel) (by decide +kernel)
theorem wd_21 : Jvm.Cond.selects RX8 yX8_writeSquare yX8_writeSquare ∈ am_ok := am_wd 21 (by decide +kernel) (by decide +kernel)
theorem wd_95 : Jvm.Cond.fieldLinkNest RX8 106 "BlockCast$Picture" "slices" "I" "BlockCast" ∈ am_ok := am_wd 95 (by decide +kernel) (by decide +kernel)
theorem wd_1031 : Jvm.Cond.methodLink RX8 109 yX10_end ∈ am_ok := am_wd 1031 (by decide +kernel) (by decide +kernel)
theorem wd_1032 : Jvm.Cond.instanceMethod yX10_end ∈ am_ok := am_wd 1032 (by decide +kernel) (by decide +kernel)
theorem wd_1033 : Jvm.Cond.selects RX10 yX10_end yX10_end ∈ am_ok := am_wd 1033 (by decide +kernel) (by decide +kernel)
theorem wd_814 : Jvm.Cond.methodLink RX11 141 yX0_isThere ∈ am_ok := am_wd 814 (by decide +kernel) (by decide +kernel)
theorem wd_561 : Jvm.Cond.classLink RX11 218 "java/util/NoSuchElementException" ∈ am_ok := am_wd 561 (by decide +kernel) (by decide +kernel)
theorem wd_43 : Jvm.Cond.initialized "java/util/NoSuchElementException" ∈ am_ok := am_wd 43 (by decide +kernel) (by decide +kernel)
set_option maxRecDepth 20000 in
theorem ats_0 : ∀ w ∈ vx_atX RX11 222 "java/util/NoSuchElementException" 13 prog_28_method_4_code ["java/lang/RuntimeException", "java/lang/Exception"], w ∈ am_ok ∧ vx_ot w = true := am_ats (by decide +kernel)
theorem wd_67 : Jvm.Cond.fieldLinkNest RX11 145 "BlockCast$Bucket" "bits" "I" "BlockCast" ∈ am_ok := am_wd 67 (by decide +kernel) (by decide +kernel)
theorem wd_330 : Jvm.Cond.fieldLinkNest RX11 309 "BlockCast$Decoder" "sentCount" "I" "BlockCast" ∈ am_ok := am_wd 330 (by decide +kernel) (by decide +kernel)
theorem wd_1201 : Jvm.Cond.classLink RX11 305 "java/lang/ArithmeticException" ∈ am_ok := am_wd 1201 (by decide +kernel) (by decide +kernel)
theorem wd_44 : Jvm.Cond.initialized "java/lang/ArithmeticException" ∈ am_ok := am_wd 44 (by decide +kernel) (by decide +kernel)
set_option maxRecDepth 20000 in
theorem ats_1 : ∀ w ∈ vx_atX RX11 307 "java/lang/ArithmeticException" 7 Bundle.six ["java/lang/RuntimeException", "java/lang/Exception"], w ∈ am_ok ∧ vx_ot w = true := am_ats (by decide +kernel)
theorem wd_332 : Jvm.Cond.fieldLinkNest RX11 314 "BlockCast$Decoder" "cleanCount" "I" "BlockCast" ∈ am_ok := am_wd 332 (by decide +kernel) (by decide +kernel)
theorem wd_1116 : Jvm.Cond.methodLink RX11 82 yX11_isOnCanvas ∈ am_ok := am_wd 1116 (by decide +kernel) (by decide +kernel)
theorem wd_1117 : Jvm.Cond.static yX11_isOnCanvas ∈ am_ok := am_wd 1117 (by decide +kernel) (by decide +kernel)
theorem wd_514 : Jvm.Cond.classLink RX11 86 "java/lang/IllegalArgumentException" ∈ am_ok := am_wd 514 (by decide +kernel) (by decide +kernel)
theorem wd_45 : Jvm.Cond.initialized "java/lang/IllegalArgumentException" ∈ am_ok := am_wd 45 (by decide +kernel) (by decide +kernel)
set_option maxRecDepth 20000 in
theorem ats_2 : ∀ w ∈ vx_atX RX11 90 "java/lang/IllegalArgumentException" 7 Bundle.six ["java/lang/RuntimeException", "java/lang/Exception"], w ∈ am_ok ∧ vx_ot w = true := am_ats (by decide +kernel)
theorem wd_1157 : Jvm.Cond.methodLink RX11 93 yX11_isValue ∈ am_ok := am_wd 1157 (by decide +kernel) (by decide +kernel)
theorem wd_1158 : Jvm.Cond.static yX11_isValue ∈ am_ok := am_wd 1158 (by decide +kernel) (by decide +kernel)
theorem wd_1120 : Jvm.Cond.methodLink RX11 99 yX11_placeOf ∈ am_ok := am_wd 1120 (by decide +kernel) (by decide +kernel)
theorem wd_761 : Jvm.Cond.methodLink RX11 103 yX7_get ∈ am_ok := am_wd 761 (by decide +kernel) (by decide +kernel)
theorem bi_bipush_99 : (Int8.ofInt (99)).toInt32 = mI (99) := by decide +kernel
theorem wd_1172 : Jvm.Cond.constant RX11 119 (mI (1103515245)) ∈ am_ok := am_wd 1172 (by decide +kernel) (by decide +kernel)
theorem bi_sipush_12345 : (Int16.ofInt (12345)).toInt32 = mI (12345) := by decide +kernel
theorem wd_1173 : Jvm.Cond.methodLink RX11 120 yX11_withinValues ∈ am_ok := am_wd 1173 (by decide +kernel) (by decide +kernel)
theorem wd_544 : Jvm.Cond.classLink RX11 155 "java/lang/IndexOutOfBoundsException" ∈ am_ok := am_wd 544 (by decide +kernel) (by decide +kernel)
theorem wd_40 : Jvm.Cond.initialized "java/lang/IndexOutOfBoundsException" ∈ am_ok := am_wd 40 (by decide +kernel) (by decide +kernel)
set_option maxRecDepth 20000 in
theorem ats_3 : ∀ w ∈ vx_atX RX11 159 "java/lang/IndexOutOfBoundsException" 7 Bundle.six ["java/lang/RuntimeException", "java/lang/Exception"], w ∈ am_ok ∧ vx_ot w = true := am_ats (by decide +kernel)
theorem wd_326 : Jvm.Cond.fieldLinkNest RX11 295 "BlockCast$Decoder" "keptCount" "I" "BlockCast" ∈ am_ok := am_wd 326 (by decide +kernel) (by decide +kernel)
theorem wd_756 : Jvm.Cond.methodLink RX11 152 yX11_isKeptPlace ∈ am_ok := am_wd 756 (by decide +kernel) (by decide +kernel)
theorem wd_758 : Jvm.Cond.instanceMethod yX11_isKeptPlace ∈ am_ok := am_wd 758 (by decide +kernel) (by decide +kernel)
theorem wd_10 : Jvm.Cond.selects RX11 yX11_isKeptPlace yX11_isKeptPlace ∈ am_ok := am_wd 10 (by decide +kernel) (by decide +kernel)
theorem bi_bipush_m16 : (Int8.ofInt (-16)).toInt32 = mI (-16) := by decide +kernel
theorem wd_1178 : Jvm.Cond.methodLink RX11 126 yX7_copy ∈ am_ok := am_wd 1178 (by decide +kernel) (by decide +kernel)
theorem wd_320 : Jvm.Cond.fieldLinkNest RX11 299 "BlockCast$Decoder" "shownNumber" "I" "BlockCast" ∈ am_ok := am_wd 320 (by decide +kernel) (by decide +kernel)
theorem wd_1100 : Jvm.Cond.constant RX11 140 (mI (99999)) ∈ am_ok := am_wd 1100 (by decide +kernel) (by decide +kernel)
theorem wd_1102 : Jvm.Cond.methodLink RX11 148 yX0_put ∈ am_ok := am_wd 1102 (by decide +kernel) (by decide +kernel)
theorem wd_1103 : Jvm.Cond.instanceMethod yX0_put ∈ am_ok := am_wd 1103 (by decide +kernel) (by decide +kernel)
theorem wd_1104 : Jvm.Cond.selects RX0 yX0_put yX0_put ∈ am_ok := am_wd 1104 (by decide +kernel) (by decide +kernel)
theorem bi_bipush_m99 : (Int8.ofInt (-99)).toInt32 = mI (-99) := by decide +kernel
theorem wd_1096 : Jvm.Cond.methodLink RL 69 yX11_setBucket ∈ am_ok := am_wd 1096 (by decide +kernel) (by decide +kernel)
theorem wd_508 : Jvm.Cond.classLink RL 57 "java/lang/IllegalArgumentException" ∈ am_ok := am_wd 508 (by decide +kernel) (by decide +kernel)
theorem wd_516 : Jvm.Cond.castable "java/lang/IllegalArgumentException" "java/lang/IllegalArgumentException" ∈ am_ok := am_wd 516 (by decide +kernel) (by decide +kernel)
theorem wd_1097 : Jvm.Cond.instanceMethod yX11_setBucket ∈ am_ok := am_wd 1097 (by decide +kernel) (by decide +kernel)
theorem wd_1098 : Jvm.Cond.selects RX11 yX11_setBucket yX11_setBucket ∈ am_ok := am_wd 1098 (by decide +kernel) (by decide +kernel)
theorem bi_sipush_m1002 : (Int16.ofInt (-1002)).toInt32 = mI (-1002) := by decide +kernel
theorem wd_1152 : Jvm.Cond.methodLink RL 104 yX11_fill ∈ am_ok := am_wd 1152 (by decide +kernel) (by decide +kernel)
theorem wd_1153 : Jvm.Cond.instanceMethod yX11_fill ∈ am_ok := am_wd 1153 (by decide +kernel) (by decide +kernel)
theorem wd_1154 : Jvm.Cond.selects RX11 yX11_fill yX11_fill ∈ am_ok := am_wd 1154 (by decide +kernel) (by decide +kernel)
theorem wd_1161 : Jvm.Cond.methodLink RL 108 yX11_slope ∈ am_ok := am_wd 1161 (by decide +kernel) (by decide +kernel)
theorem wd_1162 : Jvm.Cond.instanceMethod yX11_slope ∈ am_ok := am_wd 1162 (by decide +kernel) (by decide +kernel)
theorem wd_1163 : Jvm.Cond.selects RX11 yX11_slope yX11_slope ∈ am_ok := am_wd 1163 (by decide +kernel) (by decide +kernel)
theorem wd_1167 : Jvm.Cond.methodLink RL 111 yX11_grain ∈ am_ok := am_wd 1167 (by decide +kernel) (by decide +kernel)
theorem wd_1168 : Jvm.Cond.instanceMethod yX11_grain ∈ am_ok := am_wd 1168 (by decide +kernel) (by decide +kernel)
theorem wd_1169 : Jvm.Cond.selects RX11 yX11_grain yX11_grain ∈ am_ok := am_wd 1169 (by decide +kernel) (by decide +kernel)
theorem wd_1174 : Jvm.Cond.methodLink RL 114 yX11_move ∈ am_ok := am_wd 1174 (by decide +kernel) (by decide +kernel)
theorem wd_1175 : Jvm.Cond.instanceMethod yX11_move ∈ am_ok := am_wd 1175 (by decide +kernel) (by decide +kernel)
theorem wd_1176 : Jvm.Cond.selects RX11 yX11_move yX11_move ∈ am_ok := am_wd 1176 (by decide +kernel) (by decide +kernel)
theorem wd_1179 : Jvm.Cond.constant RL 117 (mI (-2147000002)) ∈ am_ok := am_wd 1179 (by decide +kernel) (by decide +kernel)
theorem wd_577 : Jvm.Cond.methodLink RX11 223 yX11_pictureAt ∈ am_ok := am_wd 577 (by decide +kernel) (by decide +kernel)
theorem wd_579 : Jvm.Cond.instanceMethod yX11_pictureAt ∈ am_ok := am_wd 579 (by decide +kernel) (by decide +kernel)
theorem wd_1 : Jvm.Cond.selects RX11 yX11_pictureAt yX11_pictureAt ∈ am_ok := am_wd 1 (by decide +kernel) (by decide +kernel)
theorem wd_1113 : Jvm.Cond.methodLink RX11 130 yX11_refuseNoPixel ∈ am_ok := am_wd 1113 (by decide +kernel) (by decide +kernel)
theorem wd_1114 : Jvm.Cond.static yX11_refuseNoPixel ∈ am_ok := am_wd 1114 (by decide +kernel) (by decide +kernel)
theorem wd_117 : Jvm.Cond.fieldLinkNest RX11 260 "BlockCast$Picture" "pixels" "[I" "BlockCast" ∈ am_ok := am_wd 117 (by decide +kernel) (by decide +kernel)
theorem wd_92 : Jvm.Cond.fieldLinkNest RX11 231 "BlockCast$Picture" "step" "I" "BlockCast" ∈ am_ok := am_wd 92 (by decide +kernel) (by decide +kernel)
theorem wd_788 : Jvm.Cond.methodLink RX11 274 yX6_partsInMode ∈ am_ok := am_wd 788 (by decide +kernel) (by decide +kernel)
theorem wd_789 : Jvm.Cond.instanceMethod yX6_partsInMode ∈ am_ok := am_wd 789 (by decide +kernel) (by decide +kernel)
theorem wd_790 : Jvm.Cond.selects RX6 yX6_partsInMode yX6_partsInMode ∈ am_ok := am_wd 790 (by decide +kernel) (by decide +kernel)
theorem wd_797 : Jvm.Cond.methodLink RX11 296 yX11_refuseNothingShown ∈ am_ok := am_wd 797 (by decide +kernel) (by decide +kernel)
theorem wd_799 : Jvm.Cond.instanceMethod yX11_refuseNothingShown ∈ am_ok := am_wd 799 (by decide +kernel) (by decide +kernel)
theorem wd_12 : Jvm.Cond.selects RX11 yX11_refuseNothingShown yX11_refuseNothingShown ∈ am_ok := am_wd 12 (by decide +kernel) (by decide +kernel)
theorem wd_324 : Jvm.Cond.fieldLinkNest RX11 302 "BlockCast$Decoder" "shownPixels" "[I" "BlockCast" ∈ am_ok := am_wd 324 (by decide +kernel) (by decide +kernel)
theorem wd_779 : Jvm.Cond.methodLink RX11 308 yX6_bits ∈ am_ok := am_wd 779 (by decide +kernel) (by decide +kernel)
theorem wd_780 : Jvm.Cond.instanceMethod yX6_bits ∈ am_ok := am_wd 780 (by decide +kernel) (by decide +kernel)
theorem wd_781 : Jvm.Cond.selects RX6 yX6_bits yX6_bits ∈ am_ok := am_wd 781 (by decide +kernel) (by decide +kernel)
theorem wd_322 : Jvm.Cond.fieldLinkNest RX11 290 "BlockCast$Decoder" "isShownClean" "Z" "BlockCast" ∈ am_ok := am_wd 322 (by decide +kernel) (by decide +kernel)
theorem wd_84 : Jvm.Cond.fieldLinkNest RX11 227 "BlockCast$Picture" "kind" "C" "BlockCast" ∈ am_ok := am_wd 84 (by decide +kernel) (by decide +kernel)
theorem wd_114 : Jvm.Cond.fieldLinkNest RX11 257 "BlockCast$Picture" "levels" "[I" "BlockCast" ∈ am_ok := am_wd 114 (by decide +kernel) (by decide +kernel)
theorem wd_106 : Jvm.Cond.fieldLinkNest RX11 246 "BlockCast$Picture" "modes" "[I" "BlockCast" ∈ am_ok := am_wd 106 (by decide +kernel) (by decide +kernel)
theorem wd_1137 : Jvm.Cond.methodLink RX11 243 yX11_squareAt ∈ am_ok := am_wd 1137 (by decide +kernel) (by decide +kernel)
theorem wd_104 : Jvm.Cond.fieldLinkNest RX11 240 "BlockCast$Picture" "sizes" "[I" "BlockCast" ∈ am_ok := am_wd 104 (by decide +kernel) (by decide +kernel)
theorem wd_318 : Jvm.Cond.fieldLinkNest RX11 277 "BlockCast$Decoder" "next" "I" "BlockCast" ∈ am_ok := am_wd 318 (by decide +kernel) (by decide +kernel)
theorem wd_96 : Jvm.Cond.fieldLinkNest RX11 282 "BlockCast$Picture" "slices" "I" "BlockCast" ∈ am_ok := am_wd 96 (by decide +kernel) (by decide +kernel)
theorem wd_582 : Jvm.Cond.methodLink RX11 287 yX3_receive ∈ am_ok := am_wd 582 (by decide +kernel) (by decide +kernel)
theorem wd_583 : Jvm.Cond.instanceMethod yX3_receive ∈ am_ok := am_wd 583 (by decide +kernel) (by decide +kernel)
theorem wd_584 : Jvm.Cond.selects RX3 yX3_receive yX3_receive ∈ am_ok := am_wd 584 (by decide +kernel) (by decide +kernel)
theorem wd_110 : Jvm.Cond.fieldLinkNest RX11 249 "BlockCast$Picture" "secondVectors" "[I" "BlockCast" ∈ am_ok := am_wd 110 (by decide +kernel) (by decide +kernel)
theorem wd_108 : Jvm.Cond.fieldLinkNest RX11 252 "BlockCast$Picture" "firstVectors" "[I" "BlockCast" ∈ am_ok := am_wd 108 (by decide +kernel) (by decide +kernel)
theorem wd_1197 : Jvm.Cond.methodLink RL 118 yX11_meanBits ∈ am_ok := am_wd 1197 (by decide +kernel) (by decide +kernel)
theorem wd_1183 : Jvm.Cond.classLink RL 126 "java/lang/ArithmeticException" ∈ am_ok := am_wd 1183 (by decide +kernel) (by decide +kernel)
theorem wd_1195 : Jvm.Cond.castable "java/lang/ArithmeticException" "java/lang/ArithmeticException" ∈ am_ok := am_wd 1195 (by decide +kernel) (by decide +kernel)
theorem wd_1198 : Jvm.Cond.instanceMethod yX11_meanBits ∈ am_ok := am_wd 1198 (by decide +kernel) (by decide +kernel)
theorem wd_1199 : Jvm.Cond.selects RX11 yX11_meanBits yX11_meanBits ∈ am_ok := am_wd 1199 (by decide +kernel) (by decide +kernel)
theorem wd_1203 : Jvm.Cond.methodLink RL 122 yX11_cleanShare ∈ am_ok := am_wd 1203 (by decide +kernel) (by decide +kernel)
theorem wd_1204 : Jvm.Cond.instanceMethod yX11_cleanShare ∈ am_ok := am_wd 1204 (by decide +kernel) (by decide +kernel)
theorem wd_1205 : Jvm.Cond.selects RX11 yX11_cleanShare yX11_cleanShare ∈ am_ok := am_wd 1205 (by decide +kernel) (by decide +kernel)
theorem wd_1208 : Jvm.Cond.constantDouble RL 128 (UInt64.ofNat (13841813454723219456 : Int).toNat) ∈ am_ok := am_wd 1208 (by decide +kernel) (by decide +kernel)
theorem wd_1109 : Jvm.Cond.methodLink RL 73 yX11_pixel ∈ am_ok := am_wd 1109 (by decide +kernel) (by decide +kernel)
theorem wd_428 : Jvm.Cond.classLink RL 55 "java/lang/IndexOutOfBoundsException" ∈ am_ok := am_wd 428 (by decide +kernel) (by decide +kernel)
theorem wd_546 : Jvm.Cond.castable "java/lang/IndexOutOfBoundsException" "java/lang/IndexOutOfBoundsException" ∈ am_ok := am_wd 546 (by decide +kernel) (by decide +kernel)
theorem wd_509 : Jvm.Cond.classLink RL 59 "java/util/NoSuchElementException" ∈ am_ok := am_wd 509 (by decide +kernel) (by decide +kernel)
theorem wd_563 : Jvm.Cond.castable "java/util/NoSuchElementException" "java/util/NoSuchElementException" ∈ am_ok := am_wd 563 (by decide +kernel) (by decide +kernel)
theorem wd_1110 : Jvm.Cond.instanceMethod yX11_pixel ∈ am_ok := am_wd 1110 (by decide +kernel) (by decide +kernel)
theorem wd_1111 : Jvm.Cond.selects RX11 yX11_pixel yX11_pixel ∈ am_ok := am_wd 1111 (by decide +kernel) (by decide +kernel)
theorem wd_1121 : Jvm.Cond.methodLink RL 76 yX11_shownAt ∈ am_ok := am_wd 1121 (by decide +kernel) (by decide +kernel)
theorem wd_1122 : Jvm.Cond.instanceMethod yX11_shownAt ∈ am_ok := am_wd 1122 (by decide +kernel) (by decide +kernel)
theorem wd_1123 : Jvm.Cond.selects RX11 yX11_shownAt yX11_shownAt ∈ am_ok := am_wd 1123 (by decide +kernel) (by decide +kernel)
theorem wd_1125 : Jvm.Cond.methodLink RL 79 yX11_built ∈ am_ok := am_wd 1125 (by decide +kernel) (by decide +kernel)
theorem wd_1126 : Jvm.Cond.instanceMethod yX11_built ∈ am_ok := am_wd 1126 (by decide +kernel) (by decide +kernel)
theorem wd_1127 : Jvm.Cond.selects RX11 yX11_built yX11_built ∈ am_ok := am_wd 1127 (by decide +kernel) (by decide +kernel)
theorem wd_1129 : Jvm.Cond.methodLink RL 83 yX11_levelAt ∈ am_ok := am_wd 1129 (by decide +kernel) (by decide +kernel)
theorem wd_1130 : Jvm.Cond.instanceMethod yX11_levelAt ∈ am_ok := am_wd 1130 (by decide +kernel) (by decide +kernel)
theorem wd_1131 : Jvm.Cond.selects RX11 yX11_levelAt yX11_levelAt ∈ am_ok := am_wd 1131 (by decide +kernel) (by decide +kernel)
theorem wd_1133 : Jvm.Cond.methodLink RL 86 yX11_partAt ∈ am_ok := am_wd 1133 (by decide +kernel) (by decide +kernel)
theorem wd_1134 : Jvm.Cond.instanceMethod yX11_partAt ∈ am_ok := am_wd 1134 (by decide +kernel) (by decide +kernel)
theorem wd_1135 : Jvm.Cond.selects RX11 yX11_partAt yX11_partAt ∈ am_ok := am_wd 1135 (by decide +kernel) (by decide +kernel)
theorem wd_1138 : Jvm.Cond.methodLink RL 89 yX11_modeAt ∈ am_ok := am_wd 1138 (by decide +kernel) (by decide +kernel)
theorem wd_1139 : Jvm.Cond.instanceMethod yX11_modeAt ∈ am_ok := am_wd 1139 (by decide +kernel) (by decide +kernel)
theorem wd_1140 : Jvm.Cond.selects RX11 yX11_modeAt yX11_modeAt ∈ am_ok := am_wd 1140 (by decide +kernel) (by decide +kernel)
theorem wd_1142 : Jvm.Cond.methodLink RL 92 yX11_vectorAt ∈ am_ok := am_wd 1142 (by decide +kernel) (by decide +kernel)
theorem wd_1143 : Jvm.Cond.instanceMethod yX11_vectorAt ∈ am_ok := am_wd 1143 (by decide +kernel) (by decide +kernel)
theorem wd_1144 : Jvm.Cond.selects RX11 yX11_vectorAt yX11_vectorAt ∈ am_ok := am_wd 1144 (by decide +kernel) (by decide +kernel)
theorem wd_1147 : Jvm.Cond.constant RL 96 (mI (-100001)) ∈ am_ok := am_wd 1147 (by decide +kernel) (by decide +kernel)
theorem wd_1148 : Jvm.Cond.constant RL 97 (mI (-100005)) ∈ am_ok := am_wd 1148 (by decide +kernel) (by decide +kernel)
theorem bi_bipush_112 : (Int8.ofInt (112)).toInt32 = mI (112) := by decide +kernel
theorem wd_830 : Jvm.Cond.classLink RX11 160 "java/lang/IllegalStateException" ∈ am_ok := am_wd 830 (by decide +kernel) (by decide +kernel)
theorem wd_47 : Jvm.Cond.initialized "java/lang/IllegalStateException" ∈ am_ok := am_wd 47 (by decide +kernel) (by decide +kernel)
set_option maxRecDepth 20000 in
theorem ats_4 : ∀ w ∈ vx_atX RX11 164 "java/lang/IllegalStateException" 7 Bundle.six ["java/lang/RuntimeException", "java/lang/Exception"], w ∈ am_ok ∧ vx_ot w = true := am_ats (by decide +kernel)
theorem wd_846 : Jvm.Cond.methodLink RX11 165 yX6_describe ∈ am_ok := am_wd 846 (by decide +kernel) (by decide +kernel)
theorem wd_847 : Jvm.Cond.instanceMethod yX6_describe ∈ am_ok := am_wd 847 (by decide +kernel) (by decide +kernel)
theorem wd_848 : Jvm.Cond.selects RX6 yX6_describe yX6_describe ∈ am_ok := am_wd 848 (by decide +kernel) (by decide +kernel)
theorem wd_850 : Jvm.Cond.methodLink RX11 169 yX6_useSettings ∈ am_ok := am_wd 850 (by decide +kernel) (by decide +kernel)
theorem wd_851 : Jvm.Cond.instanceMethod yX6_useSettings ∈ am_ok := am_wd 851 (by decide +kernel) (by decide +kernel)
theorem wd_852 : Jvm.Cond.selects RX6 yX6_useSettings yX6_useSettings ∈ am_ok := am_wd 852 (by decide +kernel) (by decide +kernel)
theorem wd_854 : Jvm.Cond.methodLink RX11 173 yX11_keptPixels ∈ am_ok := am_wd 854 (by decide +kernel) (by decide +kernel)
theorem wd_856 : Jvm.Cond.instanceMethod yX11_keptPixels ∈ am_ok := am_wd 856 (by decide +kernel) (by decide +kernel)
theorem wd_13 : Jvm.Cond.selects RX11 yX11_keptPixels yX11_keptPixels ∈ am_ok := am_wd 13 (by decide +kernel) (by decide +kernel)
theorem wd_858 : Jvm.Cond.methodLink RX11 177 yX2_lean ∈ am_ok := am_wd 858 (by decide +kernel) (by decide +kernel)
theorem wd_859 : Jvm.Cond.instanceMethod yX2_lean ∈ am_ok := am_wd 859 (by decide +kernel) (by decide +kernel)
theorem wd_860 : Jvm.Cond.selects RX2 yX2_lean yX2_lean ∈ am_ok := am_wd 860 (by decide +kernel) (by decide +kernel)
theorem wd_865 : Jvm.Cond.methodLink RX11 181 yX2_choose ∈ am_ok := am_wd 865 (by decide +kernel) (by decide +kernel)
theorem wd_866 : Jvm.Cond.instanceMethod yX2_choose ∈ am_ok := am_wd 866 (by decide +kernel) (by decide +kernel)
theorem wd_867 : Jvm.Cond.selects RX2 yX2_choose yX2_choose ∈ am_ok := am_wd 867 (by decide +kernel) (by decide +kernel)
theorem wd_955 : Jvm.Cond.methodLink RX11 185 yX8_writeSlice ∈ am_ok := am_wd 955 (by decide +kernel) (by decide +kernel)
theorem wd_956 : Jvm.Cond.instanceMethod yX8_writeSlice ∈ am_ok := am_wd 956 (by decide +kernel) (by decide +kernel)
theorem wd_957 : Jvm.Cond.selects RX8 yX8_writeSlice yX8_writeSlice ∈ am_ok := am_wd 957 (by decide +kernel) (by decide +kernel)
theorem wd_1035 : Jvm.Cond.methodLink RX11 189 yX8_bits ∈ am_ok := am_wd 1035 (by decide +kernel) (by decide +kernel)
theorem wd_1036 : Jvm.Cond.instanceMethod yX8_bits ∈ am_ok := am_wd 1036 (by decide +kernel) (by decide +kernel)
theorem wd_1037 : Jvm.Cond.selects RX8 yX8_bits yX8_bits ∈ am_ok := am_wd 1037 (by decide +kernel) (by decide +kernel)
theorem wd_1039 : Jvm.Cond.methodLink RX11 192 yX0_hasRoomFor ∈ am_ok := am_wd 1039 (by decide +kernel) (by decide +kernel)
theorem wd_1040 : Jvm.Cond.instanceMethod yX0_hasRoomFor ∈ am_ok := am_wd 1040 (by decide +kernel) (by decide +kernel)
theorem wd_1041 : Jvm.Cond.selects RX0 yX0_hasRoomFor yX0_hasRoomFor ∈ am_ok := am_wd 1041 (by decide +kernel) (by decide +kernel)
theorem wd_1048 : Jvm.Cond.classLink RX11 195 "java/lang/UnsupportedOperationException" ∈ am_ok := am_wd 1048 (by decide +kernel) (by decide +kernel)
theorem wd_49 : Jvm.Cond.initialized "java/lang/UnsupportedOperationException" ∈ am_ok := am_wd 49 (by decide +kernel) (by decide +kernel)
set_option maxRecDepth 20000 in
theorem ats_5 : ∀ w ∈ vx_atX RX11 199 "java/lang/UnsupportedOperationException" 7 Bundle.six ["java/lang/RuntimeException", "java/lang/Exception"], w ∈ am_ok ∧ vx_ot w = true := am_ats (by decide +kernel)
theorem wd_1064 : Jvm.Cond.methodLink RX11 200 yX8_slice ∈ am_ok := am_wd 1064 (by decide +kernel) (by decide +kernel)
theorem wd_1065 : Jvm.Cond.instanceMethod yX8_slice ∈ am_ok := am_wd 1065 (by decide +kernel) (by decide +kernel)
theorem wd_1066 : Jvm.Cond.selects RX8 yX8_slice yX8_slice ∈ am_ok := am_wd 1066 (by decide +kernel) (by decide +kernel)
theorem wd_1074 : Jvm.Cond.methodLink RX11 203 yX6_finish ∈ am_ok := am_wd 1074 (by decide +kernel) (by decide +kernel)
theorem wd_1075 : Jvm.Cond.instanceMethod yX6_finish ∈ am_ok := am_wd 1075 (by decide +kernel) (by decide +kernel)
theorem wd_1076 : Jvm.Cond.selects RX6 yX6_finish yX6_finish ∈ am_ok := am_wd 1076 (by decide +kernel) (by decide +kernel)
theorem wd_1078 : Jvm.Cond.methodLink RX11 207 yX0_take ∈ am_ok := am_wd 1078 (by decide +kernel) (by decide +kernel)
theorem wd_1079 : Jvm.Cond.instanceMethod yX0_take ∈ am_ok := am_wd 1079 (by decide +kernel) (by decide +kernel)
theorem wd_1080 : Jvm.Cond.selects RX0 yX0_take yX0_take ∈ am_ok := am_wd 1080 (by decide +kernel) (by decide +kernel)
theorem wd_1082 : Jvm.Cond.methodLink RX11 210 yX0_steer ∈ am_ok := am_wd 1082 (by decide +kernel) (by decide +kernel)
theorem wd_1083 : Jvm.Cond.instanceMethod yX0_steer ∈ am_ok := am_wd 1083 (by decide +kernel) (by decide +kernel)
theorem wd_1084 : Jvm.Cond.selects RX0 yX0_steer yX0_steer ∈ am_ok := am_wd 1084 (by decide +kernel) (by decide +kernel)
theorem wd_1086 : Jvm.Cond.methodLink RX11 213 yX11_takeDraft ∈ am_ok := am_wd 1086 (by decide +kernel) (by decide +kernel)
theorem wd_1088 : Jvm.Cond.instanceMethod yX11_takeDraft ∈ am_ok := am_wd 1088 (by decide +kernel) (by decide +kernel)
theorem wd_24 : Jvm.Cond.selects RX11 yX11_takeDraft yX11_takeDraft ∈ am_ok := am_wd 24 (by decide +kernel) (by decide +kernel)
theorem wd_775 : Jvm.Cond.methodLink RX11 269 yX11_heavierThan ∈ am_ok := am_wd 775 (by decide +kernel) (by decide +kernel)
theorem wd_777 : Jvm.Cond.instanceMethod yX11_heavierThan ∈ am_ok := am_wd 777 (by decide +kernel) (by decide +kernel)
theorem wd_11 : Jvm.Cond.selects RX11 yX11_heavierThan yX11_heavierThan ∈ am_ok := am_wd 11 (by decide +kernel) (by decide +kernel)
theorem wd_510 : Jvm.Cond.methodLink RL 7 yX11_setCoarseness ∈ am_ok := am_wd 510 (by decide +kernel) (by decide +kernel)
theorem wd_511 : Jvm.Cond.instanceMethod yX11_setCoarseness ∈ am_ok := am_wd 511 (by decide +kernel) (by decide +kernel)
theorem wd_512 : Jvm.Cond.selects RX11 yX11_setCoarseness yX11_setCoarseness ∈ am_ok := am_wd 512 (by decide +kernel) (by decide +kernel)
theorem wd_530 : Jvm.Cond.methodLink RL 13 yX11_setTools ∈ am_ok := am_wd 530 (by decide +kernel) (by decide +kernel)
theorem wd_531 : Jvm.Cond.instanceMethod yX11_setTools ∈ am_ok := am_wd 531 (by decide +kernel) (by decide +kernel)
theorem wd_532 : Jvm.Cond.selects RX11 yX11_setTools yX11_setTools ∈ am_ok := am_wd 532 (by decide +kernel) (by decide +kernel)
theorem wd_535 : Jvm.Cond.methodLink RL 16 yX11_setSlices ∈ am_ok := am_wd 535 (by decide +kernel) (by decide +kernel)
theorem wd_536 : Jvm.Cond.instanceMethod yX11_setSlices ∈ am_ok := am_wd 536 (by decide +kernel) (by decide +kernel)
theorem wd_537 : Jvm.Cond.selects RX11 yX11_setSlices yX11_setSlices ∈ am_ok := am_wd 537 (by decide +kernel) (by decide +kernel)
theorem wd_540 : Jvm.Cond.methodLink RL 19 yX11_join ∈ am_ok := am_wd 540 (by decide +kernel) (by decide +kernel)
theorem wd_541 : Jvm.Cond.instanceMethod yX11_join ∈ am_ok := am_wd 541 (by decide +kernel) (by decide +kernel)
theorem wd_542 : Jvm.Cond.selects RX11 yX11_join yX11_join ∈ am_ok := am_wd 542 (by decide +kernel) (by decide +kernel)
theorem wd_557 : Jvm.Cond.methodLink RL 22 yX11_send ∈ am_ok := am_wd 557 (by decide +kernel) (by decide +kernel)
theorem wd_558 : Jvm.Cond.instanceMethod yX11_send ∈ am_ok := am_wd 558 (by decide +kernel) (by decide +kernel)
theorem wd_559 : Jvm.Cond.selects RX11 yX11_send yX11_send ∈ am_ok := am_wd 559 (by decide +kernel) (by decide +kernel)
theorem wd_752 : Jvm.Cond.methodLink RL 26 yX11_keptAt ∈ am_ok := am_wd 752 (by decide +kernel) (by decide +kernel)
theorem wd_753 : Jvm.Cond.instanceMethod yX11_keptAt ∈ am_ok := am_wd 753 (by decide +kernel) (by decide +kernel)
theorem wd_754 : Jvm.Cond.selects RX11 yX11_keptAt yX11_keptAt ∈ am_ok := am_wd 754 (by decide +kernel) (by decide +kernel)
theorem wd_762 : Jvm.Cond.methodLink RL 29 yX11_kindOf ∈ am_ok := am_wd 762 (by decide +kernel) (by decide +kernel)
theorem wd_763 : Jvm.Cond.instanceMethod yX11_kindOf ∈ am_ok := am_wd 763 (by decide +kernel) (by decide +kernel)
theorem wd_764 : Jvm.Cond.selects RX11 yX11_kindOf yX11_kindOf ∈ am_ok := am_wd 764 (by decide +kernel) (by decide +kernel)
theorem wd_766 : Jvm.Cond.methodLink RL 32 yX11_coarsenessOf ∈ am_ok := am_wd 766 (by decide +kernel) (by decide +kernel)
theorem wd_767 : Jvm.Cond.instanceMethod yX11_coarsenessOf ∈ am_ok := am_wd 767 (by decide +kernel) (by decide +kernel)
theorem wd_768 : Jvm.Cond.selects RX11 yX11_coarsenessOf yX11_coarsenessOf ∈ am_ok := am_wd 768 (by decide +kernel) (by decide +kernel)
theorem wd_770 : Jvm.Cond.methodLink RL 35 yX11_heaviest ∈ am_ok := am_wd 770 (by decide +kernel) (by decide +kernel)
theorem wd_771 : Jvm.Cond.instanceMethod yX11_heaviest ∈ am_ok := am_wd 771 (by decide +kernel) (by decide +kernel)
theorem wd_772 : Jvm.Cond.selects RX11 yX11_heaviest yX11_heaviest ∈ am_ok := am_wd 772 (by decide +kernel) (by decide +kernel)
theorem wd_783 : Jvm.Cond.methodLink RL 38 yX11_commonest ∈ am_ok := am_wd 783 (by decide +kernel) (by decide +kernel)
theorem wd_784 : Jvm.Cond.instanceMethod yX11_commonest ∈ am_ok := am_wd 784 (by decide +kernel) (by decide +kernel)
theorem wd_785 : Jvm.Cond.selects RX11 yX11_commonest yX11_commonest ∈ am_ok := am_wd 785 (by decide +kernel) (by decide +kernel)
theorem wd_793 : Jvm.Cond.methodLink RL 42 yX11_shown ∈ am_ok := am_wd 793 (by decide +kernel) (by decide +kernel)
theorem wd_794 : Jvm.Cond.instanceMethod yX11_shown ∈ am_ok := am_wd 794 (by decide +kernel) (by decide +kernel)
theorem wd_795 : Jvm.Cond.selects RX11 yX11_shown yX11_shown ∈ am_ok := am_wd 795 (by decide +kernel) (by decide +kernel)
theorem wd_802 : Jvm.Cond.methodLink RL 45 yX11_drift ∈ am_ok := am_wd 802 (by decide +kernel) (by decide +kernel)
theorem wd_803 : Jvm.Cond.instanceMethod yX11_drift ∈ am_ok := am_wd 803 (by decide +kernel) (by decide +kernel)
theorem wd_804 : Jvm.Cond.selects RX11 yX11_drift yX11_drift ∈ am_ok := am_wd 804 (by decide +kernel) (by decide +kernel)
theorem wd_806 : Jvm.Cond.methodLink RL 48 yX11_isClean ∈ am_ok := am_wd 806 (by decide +kernel) (by decide +kernel)
theorem wd_807 : Jvm.Cond.instanceMethod yX11_isClean ∈ am_ok := am_wd 807 (by decide +kernel) (by decide +kernel)
theorem wd_808 : Jvm.Cond.selects RX11 yX11_isClean yX11_isClean ∈ am_ok := am_wd 808 (by decide +kernel) (by decide +kernel)
theorem wd_810 : Jvm.Cond.methodLink RL 52 yX11_bucket ∈ am_ok := am_wd 810 (by decide +kernel) (by decide +kernel)
theorem wd_811 : Jvm.Cond.instanceMethod yX11_bucket ∈ am_ok := am_wd 811 (by decide +kernel) (by decide +kernel)
theorem wd_812 : Jvm.Cond.selects RX11 yX11_bucket yX11_bucket ∈ am_ok := am_wd 812 (by decide +kernel) (by decide +kernel)
theorem bi_sipush_m1001 : (Int16.ofInt (-1001)).toInt32 = mI (-1001) := by decide +kernel
theorem bi_sipush_m1005 : (Int16.ofInt (-1005)).toInt32 = mI (-1005) := by decide +kernel
theorem wd_824 : Jvm.Cond.methodLink RL 61 yX11_code ∈ am_ok := am_wd 824 (by decide +kernel) (by decide +kernel)
theorem wd_822 : Jvm.Cond.classLink RL 65 "java/lang/IllegalStateException" ∈ am_ok := am_wd 822 (by decide +kernel) (by decide +kernel)
theorem wd_832 : Jvm.Cond.castable "java/lang/IllegalStateException" "java/lang/IllegalStateException" ∈ am_ok := am_wd 832 (by decide +kernel) (by decide +kernel)
theorem wd_823 : Jvm.Cond.classLink RL 67 "java/lang/UnsupportedOperationException" ∈ am_ok := am_wd 823 (by decide +kernel) (by decide +kernel)
theorem wd_1050 : Jvm.Cond.castable "java/lang/UnsupportedOperationException" "java/lang/UnsupportedOperationException" ∈ am_ok := am_wd 1050 (by decide +kernel) (by decide +kernel)
theorem wd_825 : Jvm.Cond.instanceMethod yX11_code ∈ am_ok := am_wd 825 (by decide +kernel) (by decide +kernel)
theorem wd_826 : Jvm.Cond.selects RX11 yX11_code yX11_code ∈ am_ok := am_wd 826 (by decide +kernel) (by decide +kernel)
theorem bi_sipush_m1003 : (Int16.ofInt (-1003)).toInt32 = mI (-1003) := by decide +kernel
theorem bi_sipush_m1004 : (Int16.ofInt (-1004)).toInt32 = mI (-1004) := by decide +kernel
theorem wd_1106 : Jvm.Cond.methodLink RL 137 yL_pixel ∈ am_ok := am_wd 1106 (by decide +kernel) (by decide +kernel)
theorem wd_1107 : Jvm.Cond.static yL_pixel ∈ am_ok := am_wd 1107 (by decide +kernel) (by decide +kernel)
theorem wd_50 : Jvm.Cond.classLink RL 8 RX11 ∈ am_ok := am_wd 50 (by decide +kernel) (by decide +kernel)
theorem wd_51 : Jvm.Cond.instantiable RX11 15 ∈ am_ok := am_wd 51 (by decide +kernel) (by decide +kernel)
theorem wd_52 : Jvm.Cond.methodLink RL 162 yX11_init ∈ am_ok := am_wd 52 (by decide +kernel) (by decide +kernel)
theorem wd_53 : Jvm.Cond.instanceMethod yX11_init ∈ am_ok := am_wd 53 (by decide +kernel) (by decide +kernel)
theorem bi_bipush_102 : (Int8.ofInt (102)).toInt32 = mI (102) := by decide +kernel
theorem wd_1149 : Jvm.Cond.methodLink RL 130 yL_paint ∈ am_ok := am_wd 1149 (by decide +kernel) (by decide +kernel)
theorem wd_1150 : Jvm.Cond.static yL_paint ∈ am_ok := am_wd 1150 (by decide +kernel) (by decide +kernel)
theorem bi_bipush_113 : (Int8.ofInt (113)).toInt32 = mI (113) := by decide +kernel
theorem wd_425 : Jvm.Cond.methodLink RL 163 yL_ask ∈ am_ok := am_wd 425 (by decide +kernel) (by decide +kernel)
theorem wd_426 : Jvm.Cond.static yL_ask ∈ am_ok := am_wd 426 (by decide +kernel) (by decide +kernel)
theorem bi_bipush_116 : (Int8.ofInt (116)).toInt32 = mI (116) := by decide +kernel
theorem wd_819 : Jvm.Cond.methodLink RL 167 yL_code ∈ am_ok := am_wd 819 (by decide +kernel) (by decide +kernel)
theorem wd_820 : Jvm.Cond.static yL_code ∈ am_ok := am_wd 820 (by decide +kernel) (by decide +kernel)
theorem wd_1231 : Jvm.Cond.methodLink RL 170 Lib.Math.abs.name ∈ am_ok := am_wd 1231 (by decide +kernel) (by decide +kernel)
theorem wd_1215 : Jvm.Cond.methodLink RL 140 ⟨"[I", "clone", "()Ljava/lang/Object;"⟩ ∈ am_ok := am_wd 1215 (by decide +kernel) (by decide +kernel)
theorem wd_1221 : Jvm.Cond.classLink RL 141 "[I" ∈ am_ok := am_wd 1221 (by decide +kernel) (by decide +kernel)
theorem bi_sipush_199 : (Int16.ofInt (199)).toInt32 = mI (199) := by decide +kernel
theorem wd_1222 : Jvm.Cond.constant RL 146 (mI (51200)) ∈ am_ok := am_wd 1222 (by decide +kernel) (by decide +kernel)
theorem bi_bipush_115 : (Int8.ofInt (115)).toInt32 = mI (115) := by decide +kernel
theorem bi_bipush_103 : (Int8.ofInt (103)).toInt32 = mI (103) := by decide +kernel
theorem wd_1223 : Jvm.Cond.constant RL 147 (mI (1103515245)) ∈ am_ok := am_wd 1223 (by decide +kernel) (by decide +kernel)
theorem wd_1224 : Jvm.Cond.constant RL 148 (mI (65535)) ∈ am_ok := am_wd 1224 (by decide +kernel) (by decide +kernel)
theorem wd_1225 : Jvm.Cond.methodLink RL 149 Lib.Math.min.name ∈ am_ok := am_wd 1225 (by decide +kernel) (by decide +kernel)
theorem wd_1226 : Jvm.Cond.methodLink RL 154 Lib.Math.max.name ∈ am_ok := am_wd 1226 (by decide +kernel) (by decide +kernel)
theorem bi_bipush_31 : (Int8.ofInt (31)).toInt32 = mI (31) := by decide +kernel
theorem bi_bipush_109 : (Int8.ofInt (109)).toInt32 = mI (109) := by decide +kernel
theorem wd_1227 : Jvm.Cond.constant RL 157 (mI (70000)) ∈ am_ok := am_wd 1227 (by decide +kernel) (by decide +kernel)
theorem wd_1209 : Jvm.Cond.methodLink RL 158 yL_isLike ∈ am_ok := am_wd 1209 (by decide +kernel) (by decide +kernel)
theorem wd_1210 : Jvm.Cond.static yL_isLike ∈ am_ok := am_wd 1210 (by decide +kernel) (by decide +kernel)
theorem wd_1180 : Jvm.Cond.methodLink RL 173 yL_figure ∈ am_ok := am_wd 1180 (by decide +kernel) (by decide +kernel)
theorem wd_1181 : Jvm.Cond.static yL_figure ∈ am_ok := am_wd 1181 (by decide +kernel) (by decide +kernel)
theorem bi_bipush_119 : (Int8.ofInt (119)).toInt32 = mI (119) := by decide +kernel
theorem bi_bipush_108 : (Int8.ofInt (108)).toInt32 = mI (108) := by decide +kernel
theorem wd_419 : Jvm.Cond.methodLink RL 177 yL_at ∈ am_ok := am_wd 419 (by decide +kernel) (by decide +kernel)
theorem wd_420 : Jvm.Cond.static yL_at ∈ am_ok := am_wd 420 (by decide +kernel) (by decide +kernel)
theorem wd_422 : Jvm.Cond.methodLink RL 181 yL_some ∈ am_ok := am_wd 422 (by decide +kernel) (by decide +kernel)
theorem wd_423 : Jvm.Cond.static yL_some ∈ am_ok := am_wd 423 (by decide +kernel) (by decide +kernel)
theorem wd_1232 : Jvm.Cond.constant RL 184 (mI (100000000)) ∈ am_ok := am_wd 1232 (by decide +kernel) (by decide +kernel)
theorem wd_1212 : Jvm.Cond.methodLink RL 185 yL_paints ∈ am_ok := am_wd 1212 (by decide +kernel) (by decide +kernel)
theorem wd_1213 : Jvm.Cond.static yL_paints ∈ am_ok := am_wd 1213 (by decide +kernel) (by decide +kernel)
theorem bi_bipush_9 : (Int8.ofInt (9)).toInt32 = mI (9) := by decide +kernel
theorem wd_411 : Jvm.Cond.methodLink RL 189 yX11_pictures ∈ am_ok := am_wd 411 (by decide +kernel) (by decide +kernel)
theorem wd_412 : Jvm.Cond.instanceMethod yX11_pictures ∈ am_ok := am_wd 412 (by decide +kernel) (by decide +kernel)
theorem wd_413 : Jvm.Cond.selects RX11 yX11_pictures yX11_pictures ∈ am_ok := am_wd 413 (by decide +kernel) (by decide +kernel)
theorem wd_415 : Jvm.Cond.methodLink RL 192 yX11_kept ∈ am_ok := am_wd 415 (by decide +kernel) (by decide +kernel)
theorem wd_416 : Jvm.Cond.instanceMethod yX11_kept ∈ am_ok := am_wd 416 (by decide +kernel) (by decide +kernel)
theorem wd_417 : Jvm.Cond.selects RX11 yX11_kept yX11_kept ∈ am_ok := am_wd 417 (by decide +kernel) (by decide +kernel)
theorem bi_bipush_17 : (Int8.ofInt (17)).toInt32 = mI (17) := by decide +kernel
theorem bi_bipush_41 : (Int8.ofInt (41)).toInt32 = mI (41) := by decide +kernel
theorem wd_1093 : Jvm.Cond.methodLink RL 195 yL_bucket ∈ am_ok := am_wd 1093 (by decide +kernel) (by decide +kernel)
theorem wd_1094 : Jvm.Cond.static yL_bucket ∈ am_ok := am_wd 1094 (by decide +kernel) (by decide +kernel)
theorem wd_1233 : Jvm.Cond.constant RL 198 (mI (100000)) ∈ am_ok := am_wd 1233 (by decide +kernel) (by decide +kernel)
theorem bi_bipush_63 : (Int8.ofInt (63)).toInt32 = mI (63) := by decide +kernel
theorem bi_bipush_104 : (Int8.ofInt (104)).toInt32 = mI (104) := by decide +kernel
theorem bi_bipush_106 : (Int8.ofInt (106)).toInt32 = mI (106) := by decide +kernel
theorem bi_bipush_42 : (Int8.ofInt (42)).toInt32 = mI (42) := by decide +kernel
theorem wd_1234 : Jvm.Cond.constant RL 199 (mI (1000000)) ∈ am_ok := am_wd 1234 (by decide +kernel) (by decide +kernel)
theorem bi_sipush_10240 : (Int16.ofInt (10240)).toInt32 = mI (10240) := by decide +kernel
theorem wd_1228 : Jvm.Cond.methodLink RL 200 yL_flatIsGood ∈ am_ok := am_wd 1228 (by decide +kernel) (by decide +kernel)
theorem wd_1229 : Jvm.Cond.static yL_flatIsGood ∈ am_ok := am_wd 1229 (by decide +kernel) (by decide +kernel)
