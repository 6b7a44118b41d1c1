/-! ===== the tables hold: words, methods (printed by program) ===== -/
theorem am_wd {w : Jvm.Cond} (i : Nat) (h : lw_tbl[i]? = some w) (hm : am_mv w = true) : w ∈ am_ok := List.mem_filter.mpr ⟨List.mem_of_getElem? h, hm⟩
theorem am_mk {m pc len : Nat} {ins : Instr} {pl : List Nat} {kz : Int} {c : ByteArray} (hb : am_b m = c) (hd : decode c pc = .ok (ins, len)) (hI : am_okI m pc ins len pl kz) : am_okE m (pc, ins, len, pl, kz) := ⟨hb ▸ hd, hI⟩
theorem am_lt {m n i : Nat} (hn : am_n m = n) (h : i < n) : i < am_n m := hn ▸ h
theorem am_ld {m n i : Nat} (hn : am_d m = n) (h : i ≤ n) : i ≤ am_d m := hn ▸ h
theorem am_w1 {m ix mj : Nat} {ow : String} {y : MethodName} (ho : am_o m = ow) (hy : am_y mj = y) (h : Jvm.Cond.methodLink ow ix y ∈ am_ok) : Jvm.Cond.methodLink (am_o m) ix (am_y mj) ∈ am_ok := by rw [ho, hy]; exact h
theorem am_w2 {m ix mj : Nat} {ow host : String} {y : MethodName} (ho : am_o m = ow) (hy : am_y mj = y) (h : Jvm.Cond.methodLinkNest ow ix y host ∈ am_ok) : ∃ host, Jvm.Cond.methodLinkNest (am_o m) ix (am_y mj) host ∈ am_ok := ⟨host, by rw [ho, hy]; exact h⟩
theorem am_w3 {m ix : Nat} {ow : String} {y : MethodName} (ho : am_o m = ow) (h : Jvm.Cond.methodLink ow ix y ∈ am_ok) : Jvm.Cond.methodLink (am_o m) ix y ∈ am_ok := by rw [ho]; exact h
theorem am_w4 {m ix : Nat} {ow : String} {r nn d : String} (ho : am_o m = ow) (h : Jvm.Cond.fieldLink ow ix r nn d ∈ am_ok) : Jvm.Cond.fieldLink (am_o m) ix r nn d ∈ am_ok := by rw [ho]; exact h
theorem am_w5 {m ix : Nat} {ow : String} {r nn d host : String} (ho : am_o m = ow) (h : Jvm.Cond.fieldLinkNest ow ix r nn d host ∈ am_ok) : ∃ host, Jvm.Cond.fieldLinkNest (am_o m) ix r nn d host ∈ am_ok := ⟨host, by rw [ho]; exact h⟩
theorem am_w6 {m ix : Nat} {ow C : String} (ho : am_o m = ow) (h : Jvm.Cond.classLink ow ix C ∈ am_ok) : Jvm.Cond.classLink (am_o m) ix C ∈ am_ok := by rw [ho]; exact h
theorem am_w7 {m ix : Nat} {ow : String} {v : Int32} (ho : am_o m = ow) (h : Jvm.Cond.constant ow ix v ∈ am_ok) : Jvm.Cond.constant (am_o m) ix v ∈ am_ok := by rw [ho]; exact h
theorem am_w8 {m ix : Nat} {ow : String} {v : Int64} (ho : am_o m = ow) (h : Jvm.Cond.constantLong ow ix v ∈ am_ok) : Jvm.Cond.constantLong (am_o m) ix v ∈ am_ok := by rw [ho]; exact h
theorem am_hOK_nil {m pc : Nat} (h : am_hl m = []) : am_hOK m pc := by
  intro x pc' i hx
  unfold am_hd at hx
  rw [h] at hx
  simp at hx
theorem am_ats {ow cls : String} {ic jx : Nat} {rx : ByteArray} {names : List String} (h : (vx_atX ow ic cls jx rx names).all (fun w => decide (w ∈ lw_tbl) && am_mv w && vx_ot w) = true) : ∀ w ∈ vx_atX ow ic cls jx rx names, w ∈ am_ok ∧ vx_ot w = true := by
  intro w hw
  have h1 := List.all_eq_true.mp h w hw
  simp only [Bool.and_eq_true, decide_eq_true_eq] at h1
  exact ⟨List.mem_filter.mpr h1.1, h1.2⟩
theorem bb_X0_filledWith : am_b m_X0_filledWith = cX0_filledWith := rfl
theorem nn_X0_filledWith : am_n m_X0_filledWith = 2 := rfl
theorem oo_X0_filledWith : am_o m_X0_filledWith = RX0 := rfl
theorem yy_X0_filledWith : am_y m_X0_filledWith = yX0_filledWith := rfl
theorem dd_X0_filledWith : am_d m_X0_filledWith = 1 := rfl
theorem hl_X0_filledWith : am_hl m_X0_filledWith = [] := rfl
theorem hh_X0_filledWith : am_h m_X0_filledWith = [] := rfl
theorem bb_X0_isThere : am_b m_X0_isThere = cX0_isThere := rfl
theorem nn_X0_isThere : am_n m_X0_isThere = 1 := rfl
theorem oo_X0_isThere : am_o m_X0_isThere = RX0 := rfl
theorem yy_X0_isThere : am_y m_X0_isThere = yX0_isThere := rfl
theorem dd_X0_isThere : am_d m_X0_isThere = 1 := rfl
theorem hl_X0_isThere : am_hl m_X0_isThere = [] := rfl
theorem hh_X0_isThere : am_h m_X0_isThere = [] := rfl
theorem bb_X0_put : am_b m_X0_put = cX0_put := rfl
theorem nn_X0_put : am_n m_X0_put = 3 := rfl
theorem oo_X0_put : am_o m_X0_put = RX0 := rfl
theorem yy_X0_put : am_y m_X0_put = yX0_put := rfl
theorem dd_X0_put : am_d m_X0_put = 1 := rfl
theorem hl_X0_put : am_hl m_X0_put = [] := rfl
theorem hh_X0_put : am_h m_X0_put = [] := rfl
theorem bb_X10_giveByte : am_b m_X10_giveByte = cX10_giveByte := rfl
theorem nn_X10_giveByte : am_n m_X10_giveByte = 1 := rfl
theorem oo_X10_giveByte : am_o m_X10_giveByte = RX10 := rfl
theorem yy_X10_giveByte : am_y m_X10_giveByte = yX10_giveByte := rfl
theorem dd_X10_giveByte : am_d m_X10_giveByte = 1 := rfl
theorem hl_X10_giveByte : am_hl m_X10_giveByte = [] := rfl
theorem hh_X10_giveByte : am_h m_X10_giveByte = [] := rfl
theorem bb_X11_coarseness : am_b m_X11_coarseness = cX11_coarseness := rfl
theorem nn_X11_coarseness : am_n m_X11_coarseness = 1 := rfl
theorem oo_X11_coarseness : am_o m_X11_coarseness = RX11 := rfl
theorem yy_X11_coarseness : am_y m_X11_coarseness = yX11_coarseness := rfl
theorem dd_X11_coarseness : am_d m_X11_coarseness = 1 := rfl
theorem hl_X11_coarseness : am_hl m_X11_coarseness = [] := rfl
theorem hh_X11_coarseness : am_h m_X11_coarseness = [] := rfl
theorem bb_X11_columnOf : am_b m_X11_columnOf = cX11_columnOf := rfl
theorem nn_X11_columnOf : am_n m_X11_columnOf = 1 := rfl
theorem oo_X11_columnOf : am_o m_X11_columnOf = RX11 := rfl
theorem yy_X11_columnOf : am_y m_X11_columnOf = yX11_columnOf := rfl
theorem dd_X11_columnOf : am_d m_X11_columnOf = 1 := rfl
theorem hl_X11_columnOf : am_hl m_X11_columnOf = [] := rfl
theorem hh_X11_columnOf : am_h m_X11_columnOf = [] := rfl
theorem bb_X11_inPicture : am_b m_X11_inPicture = cX11_inPicture := rfl
theorem nn_X11_inPicture : am_n m_X11_inPicture = 1 := rfl
theorem oo_X11_inPicture : am_o m_X11_inPicture = RX11 := rfl
theorem yy_X11_inPicture : am_y m_X11_inPicture = yX11_inPicture := rfl
theorem dd_X11_inPicture : am_d m_X11_inPicture = 1 := rfl
theorem hl_X11_inPicture : am_hl m_X11_inPicture = [] := rfl
theorem hh_X11_inPicture : am_h m_X11_inPicture = [] := rfl
theorem bb_X11_isKeptPlace : am_b m_X11_isKeptPlace = cX11_isKeptPlace := rfl
theorem nn_X11_isKeptPlace : am_n m_X11_isKeptPlace = 2 := rfl
theorem oo_X11_isKeptPlace : am_o m_X11_isKeptPlace = RX11 := rfl
theorem yy_X11_isKeptPlace : am_y m_X11_isKeptPlace = yX11_isKeptPlace := rfl
theorem dd_X11_isKeptPlace : am_d m_X11_isKeptPlace = 1 := rfl
theorem hl_X11_isKeptPlace : am_hl m_X11_isKeptPlace = [] := rfl
theorem hh_X11_isKeptPlace : am_h m_X11_isKeptPlace = [] := rfl
theorem bb_X11_isOnCanvas : am_b m_X11_isOnCanvas = cX11_isOnCanvas := rfl
theorem nn_X11_isOnCanvas : am_n m_X11_isOnCanvas = 2 := rfl
theorem oo_X11_isOnCanvas : am_o m_X11_isOnCanvas = RX11 := rfl
theorem yy_X11_isOnCanvas : am_y m_X11_isOnCanvas = yX11_isOnCanvas := rfl
theorem dd_X11_isOnCanvas : am_d m_X11_isOnCanvas = 1 := rfl
theorem hl_X11_isOnCanvas : am_hl m_X11_isOnCanvas = [] := rfl
theorem hh_X11_isOnCanvas : am_h m_X11_isOnCanvas = [] := rfl
theorem bb_X11_isValue : am_b m_X11_isValue = cX11_isValue := rfl
theorem nn_X11_isValue : am_n m_X11_isValue = 1 := rfl
theorem oo_X11_isValue : am_o m_X11_isValue = RX11 := rfl
theorem yy_X11_isValue : am_y m_X11_isValue = yX11_isValue := rfl
theorem dd_X11_isValue : am_d m_X11_isValue = 1 := rfl
theorem hl_X11_isValue : am_hl m_X11_isValue = [] := rfl
theorem hh_X11_isValue : am_h m_X11_isValue = [] := rfl
theorem bb_X11_kept : am_b m_X11_kept = cX11_kept := rfl
theorem nn_X11_kept : am_n m_X11_kept = 1 := rfl
theorem oo_X11_kept : am_o m_X11_kept = RX11 := rfl
theorem yy_X11_kept : am_y m_X11_kept = yX11_kept := rfl
theorem dd_X11_kept : am_d m_X11_kept = 1 := rfl
theorem hl_X11_kept : am_hl m_X11_kept = [] := rfl
theorem hh_X11_kept : am_h m_X11_kept = [] := rfl
theorem bb_X11_pictures : am_b m_X11_pictures = cX11_pictures := rfl
theorem nn_X11_pictures : am_n m_X11_pictures = 1 := rfl
theorem oo_X11_pictures : am_o m_X11_pictures = RX11 := rfl
theorem yy_X11_pictures : am_y m_X11_pictures = yX11_pictures := rfl
theorem dd_X11_pictures : am_d m_X11_pictures = 1 := rfl
theorem hl_X11_pictures : am_hl m_X11_pictures = [] := rfl
theorem hh_X11_pictures : am_h m_X11_pictures = [] := rfl
theorem bb_X11_placeOf : am_b m_X11_placeOf = cX11_placeOf := rfl
theorem nn_X11_placeOf : am_n m_X11_placeOf = 2 := rfl
theorem oo_X11_placeOf : am_o m_X11_placeOf = RX11 := rfl
theorem yy_X11_placeOf : am_y m_X11_placeOf = yX11_placeOf := rfl
theorem dd_X11_placeOf : am_d m_X11_placeOf = 1 := rfl
theorem hl_X11_placeOf : am_hl m_X11_placeOf = [] := rfl
theorem hh_X11_placeOf : am_h m_X11_placeOf = [] := rfl
theorem bb_X11_rowOf : am_b m_X11_rowOf = cX11_rowOf := rfl
theorem nn_X11_rowOf : am_n m_X11_rowOf = 1 := rfl
theorem oo_X11_rowOf : am_o m_X11_rowOf = RX11 := rfl
theorem yy_X11_rowOf : am_y m_X11_rowOf = yX11_rowOf := rfl
theorem dd_X11_rowOf : am_d m_X11_rowOf = 1 := rfl
theorem hl_X11_rowOf : am_hl m_X11_rowOf = [] := rfl
theorem hh_X11_rowOf : am_h m_X11_rowOf = [] := rfl
theorem bb_X11_setKept : am_b m_X11_setKept = cX11_setKept := rfl
theorem nn_X11_setKept : am_n m_X11_setKept = 3 := rfl
theorem oo_X11_setKept : am_o m_X11_setKept = RX11 := rfl
theorem yy_X11_setKept : am_y m_X11_setKept = yX11_setKept := rfl
theorem dd_X11_setKept : am_d m_X11_setKept = 1 := rfl
theorem hl_X11_setKept : am_hl m_X11_setKept = [] := rfl
theorem hh_X11_setKept : am_h m_X11_setKept = [] := rfl
theorem bb_X11_squareAt : am_b m_X11_squareAt = cX11_squareAt := rfl
theorem nn_X11_squareAt : am_n m_X11_squareAt = 3 := rfl
theorem oo_X11_squareAt : am_o m_X11_squareAt = RX11 := rfl
theorem yy_X11_squareAt : am_y m_X11_squareAt = yX11_squareAt := rfl
theorem dd_X11_squareAt : am_d m_X11_squareAt = 1 := rfl
theorem hl_X11_squareAt : am_hl m_X11_squareAt = [] := rfl
theorem hh_X11_squareAt : am_h m_X11_squareAt = [] := rfl
theorem bb_X11_startsBlock : am_b m_X11_startsBlock = cX11_startsBlock := rfl
theorem nn_X11_startsBlock : am_n m_X11_startsBlock = 1 := rfl
theorem oo_X11_startsBlock : am_o m_X11_startsBlock = RX11 := rfl
theorem yy_X11_startsBlock : am_y m_X11_startsBlock = yX11_startsBlock := rfl
theorem dd_X11_startsBlock : am_d m_X11_startsBlock = 1 := rfl
theorem hl_X11_startsBlock : am_hl m_X11_startsBlock = [] := rfl
theorem hh_X11_startsBlock : am_h m_X11_startsBlock = [] := rfl
theorem bb_X11_withinValues : am_b m_X11_withinValues = cX11_withinValues := rfl
theorem nn_X11_withinValues : am_n m_X11_withinValues = 1 := rfl
theorem oo_X11_withinValues : am_o m_X11_withinValues = RX11 := rfl
theorem yy_X11_withinValues : am_y m_X11_withinValues = yX11_withinValues := rfl
theorem dd_X11_withinValues : am_d m_X11_withinValues = 1 := rfl
theorem hl_X11_withinValues : am_hl m_X11_withinValues = [] := rfl
theorem hh_X11_withinValues : am_h m_X11_withinValues = [] := rfl
theorem bb_X12_adds : am_b m_X12_adds = cX12_adds := rfl
theorem nn_X12_adds : am_n m_X12_adds = 6 := rfl
theorem oo_X12_adds : am_o m_X12_adds = RX12 := rfl
theorem yy_X12_adds : am_y m_X12_adds = yX12_adds := rfl
theorem dd_X12_adds : am_d m_X12_adds = 1 := rfl
theorem hl_X12_adds : am_hl m_X12_adds = [] := rfl
theorem hh_X12_adds : am_h m_X12_adds = [] := rfl
theorem bb_X12_begins : am_b m_X12_begins = cX12_begins := rfl
theorem nn_X12_begins : am_n m_X12_begins = 2 := rfl
theorem oo_X12_begins : am_o m_X12_begins = RX12 := rfl
theorem yy_X12_begins : am_y m_X12_begins = yX12_begins := rfl
theorem dd_X12_begins : am_d m_X12_begins = 1 := rfl
theorem hl_X12_begins : am_hl m_X12_begins = [] := rfl
theorem hh_X12_begins : am_h m_X12_begins = [] := rfl
theorem bb_X12_border : am_b m_X12_border = cX12_border := rfl
theorem nn_X12_border : am_n m_X12_border = 4 := rfl
theorem oo_X12_border : am_o m_X12_border = RX12 := rfl
theorem yy_X12_border : am_y m_X12_border = yX12_border := rfl
theorem dd_X12_border : am_d m_X12_border = 1 := rfl
theorem hl_X12_border : am_hl m_X12_border = [] := rfl
theorem hh_X12_border : am_h m_X12_border = [] := rfl
theorem bb_X12_bucket : am_b m_X12_bucket = cX12_bucket := rfl
theorem nn_X12_bucket : am_n m_X12_bucket = 1 := rfl
theorem oo_X12_bucket : am_o m_X12_bucket = RX12 := rfl
theorem yy_X12_bucket : am_y m_X12_bucket = yX12_bucket := rfl
theorem dd_X12_bucket : am_d m_X12_bucket = 1 := rfl
theorem hl_X12_bucket : am_hl m_X12_bucket = [] := rfl
theorem hh_X12_bucket : am_h m_X12_bucket = [] := rfl
theorem bb_X12_cleanShare : am_b m_X12_cleanShare = cX12_cleanShare := rfl
theorem nn_X12_cleanShare : am_n m_X12_cleanShare = 1 := rfl
theorem oo_X12_cleanShare : am_o m_X12_cleanShare = RX12 := rfl
theorem yy_X12_cleanShare : am_y m_X12_cleanShare = yX12_cleanShare := rfl
theorem dd_X12_cleanShare : am_d m_X12_cleanShare = 1 := rfl
theorem hl_X12_cleanShare : am_hl m_X12_cleanShare = [] := rfl
theorem hh_X12_cleanShare : am_h m_X12_cleanShare = [] := rfl
theorem bb_X12_coarseness : am_b m_X12_coarseness = cX12_coarseness := rfl
theorem nn_X12_coarseness : am_n m_X12_coarseness = 1 := rfl
theorem oo_X12_coarseness : am_o m_X12_coarseness = RX12 := rfl
theorem yy_X12_coarseness : am_y m_X12_coarseness = yX12_coarseness := rfl
theorem dd_X12_coarseness : am_d m_X12_coarseness = 1 := rfl
theorem hl_X12_coarseness : am_hl m_X12_coarseness = [] := rfl
theorem hh_X12_coarseness : am_h m_X12_coarseness = [] := rfl
theorem bb_X12_commonest : am_b m_X12_commonest = cX12_commonest := rfl
theorem nn_X12_commonest : am_n m_X12_commonest = 5 := rfl
theorem oo_X12_commonest : am_o m_X12_commonest = RX12 := rfl
theorem yy_X12_commonest : am_y m_X12_commonest = yX12_commonest := rfl
theorem dd_X12_commonest : am_d m_X12_commonest = 1 := rfl
theorem hl_X12_commonest : am_hl m_X12_commonest = [] := rfl
theorem hh_X12_commonest : am_h m_X12_commonest = [] := rfl
theorem bb_X12_conceals : am_b m_X12_conceals = cX12_conceals := rfl
theorem nn_X12_conceals : am_n m_X12_conceals = 6 := rfl
theorem oo_X12_conceals : am_o m_X12_conceals = RX12 := rfl
theorem yy_X12_conceals : am_y m_X12_conceals = yX12_conceals := rfl
theorem dd_X12_conceals : am_d m_X12_conceals = 1 := rfl
theorem hl_X12_conceals : am_hl m_X12_conceals = [] := rfl
theorem hh_X12_conceals : am_h m_X12_conceals = [] := rfl
theorem bb_X12_errorNow : am_b m_X12_errorNow = cX12_errorNow := rfl
theorem nn_X12_errorNow : am_n m_X12_errorNow = 6 := rfl
theorem oo_X12_errorNow : am_o m_X12_errorNow = RX12 := rfl
theorem yy_X12_errorNow : am_y m_X12_errorNow = yX12_errorNow := rfl
theorem dd_X12_errorNow : am_d m_X12_errorNow = 1 := rfl
theorem hl_X12_errorNow : am_hl m_X12_errorNow = [] := rfl
theorem hh_X12_errorNow : am_h m_X12_errorNow = [] := rfl
theorem bb_X12_in : am_b m_X12_in = cX12_in := rfl
theorem nn_X12_in : am_n m_X12_in = 3 := rfl
theorem oo_X12_in : am_o m_X12_in = RX12 := rfl
theorem yy_X12_in : am_y m_X12_in = yX12_in := rfl
theorem dd_X12_in : am_d m_X12_in = 1 := rfl
theorem hl_X12_in : am_hl m_X12_in = [] := rfl
theorem hh_X12_in : am_h m_X12_in = [] := rfl
theorem bb_X12_isGood : am_b m_X12_isGood = cX12_isGood := rfl
theorem nn_X12_isGood : am_n m_X12_isGood = 2 := rfl
theorem oo_X12_isGood : am_o m_X12_isGood = RX12 := rfl
theorem yy_X12_isGood : am_y m_X12_isGood = yX12_isGood := rfl
theorem dd_X12_isGood : am_d m_X12_isGood = 1 := rfl
theorem hl_X12_isGood : am_hl m_X12_isGood = [] := rfl
theorem hh_X12_isGood : am_h m_X12_isGood = [] := rfl
theorem bb_X12_kept : am_b m_X12_kept = cX12_kept := rfl
theorem nn_X12_kept : am_n m_X12_kept = 1 := rfl
theorem oo_X12_kept : am_o m_X12_kept = RX12 := rfl
theorem yy_X12_kept : am_y m_X12_kept = yX12_kept := rfl
theorem dd_X12_kept : am_d m_X12_kept = 1 := rfl
theorem hl_X12_kept : am_hl m_X12_kept = [] := rfl
theorem hh_X12_kept : am_h m_X12_kept = [] := rfl
theorem bb_X12_meanBits : am_b m_X12_meanBits = cX12_meanBits := rfl
theorem nn_X12_meanBits : am_n m_X12_meanBits = 3 := rfl
theorem oo_X12_meanBits : am_o m_X12_meanBits = RX12 := rfl
theorem yy_X12_meanBits : am_y m_X12_meanBits = yX12_meanBits := rfl
theorem dd_X12_meanBits : am_d m_X12_meanBits = 1 := rfl
theorem hl_X12_meanBits : am_hl m_X12_meanBits = [] := rfl
theorem hh_X12_meanBits : am_h m_X12_meanBits = [] := rfl
theorem bb_X12_noShown : am_b m_X12_noShown = cX12_noShown := rfl
theorem nn_X12_noShown : am_n m_X12_noShown = 1 := rfl
theorem oo_X12_noShown : am_o m_X12_noShown = RX12 := rfl
theorem yy_X12_noShown : am_y m_X12_noShown = yX12_noShown := rfl
theorem dd_X12_noShown : am_d m_X12_noShown = 1 := rfl
theorem hl_X12_noShown : am_hl m_X12_noShown = [] := rfl
theorem hh_X12_noShown : am_h m_X12_noShown = [] := rfl
theorem bb_X12_pictures : am_b m_X12_pictures = cX12_pictures := rfl
theorem nn_X12_pictures : am_n m_X12_pictures = 1 := rfl
theorem oo_X12_pictures : am_o m_X12_pictures = RX12 := rfl
theorem yy_X12_pictures : am_y m_X12_pictures = yX12_pictures := rfl
theorem dd_X12_pictures : am_d m_X12_pictures = 1 := rfl
theorem hl_X12_pictures : am_hl m_X12_pictures = [] := rfl
theorem hh_X12_pictures : am_h m_X12_pictures = [] := rfl
theorem bb_X12_placeOf : am_b m_X12_placeOf = cX12_placeOf := rfl
theorem nn_X12_placeOf : am_n m_X12_placeOf = 1 := rfl
theorem oo_X12_placeOf : am_o m_X12_placeOf = RX12 := rfl
theorem yy_X12_placeOf : am_y m_X12_placeOf = yX12_placeOf := rfl
theorem dd_X12_placeOf : am_d m_X12_placeOf = 1 := rfl
theorem hl_X12_placeOf : am_hl m_X12_placeOf = [] := rfl
theorem hh_X12_placeOf : am_h m_X12_placeOf = [] := rfl
theorem bb_X12_raises : am_b m_X12_raises = cX12_raises := rfl
theorem nn_X12_raises : am_n m_X12_raises = 2 := rfl
theorem oo_X12_raises : am_o m_X12_raises = RX12 := rfl
theorem yy_X12_raises : am_y m_X12_raises = yX12_raises := rfl
theorem dd_X12_raises : am_d m_X12_raises = 1 := rfl
theorem hl_X12_raises : am_hl m_X12_raises = [] := rfl
theorem hh_X12_raises : am_h m_X12_raises = [] := rfl
theorem bb_X12_setKept : am_b m_X12_setKept = cX12_setKept := rfl
theorem nn_X12_setKept : am_n m_X12_setKept = 3 := rfl
theorem oo_X12_setKept : am_o m_X12_setKept = RX12 := rfl
theorem yy_X12_setKept : am_y m_X12_setKept = yX12_setKept := rfl
theorem dd_X12_setKept : am_d m_X12_setKept = 1 := rfl
theorem hl_X12_setKept : am_hl m_X12_setKept = [] := rfl
theorem hh_X12_setKept : am_h m_X12_setKept = [] := rfl
theorem bb_X12_setsVector : am_b m_X12_setsVector = cX12_setsVector := rfl
theorem nn_X12_setsVector : am_n m_X12_setsVector = 9 := rfl
theorem oo_X12_setsVector : am_o m_X12_setsVector = RX12 := rfl
theorem yy_X12_setsVector : am_y m_X12_setsVector = yX12_setsVector := rfl
theorem dd_X12_setsVector : am_d m_X12_setsVector = 1 := rfl
theorem hl_X12_setsVector : am_hl m_X12_setsVector = [] := rfl
theorem hh_X12_setsVector : am_h m_X12_setsVector = [] := rfl
theorem bb_X12_signOf : am_b m_X12_signOf = cX12_signOf := rfl
theorem nn_X12_signOf : am_n m_X12_signOf = 2 := rfl
theorem oo_X12_signOf : am_o m_X12_signOf = RX12 := rfl
theorem yy_X12_signOf : am_y m_X12_signOf = yX12_signOf := rfl
theorem dd_X12_signOf : am_d m_X12_signOf = 1 := rfl
theorem hl_X12_signOf : am_hl m_X12_signOf = [] := rfl
theorem hh_X12_signOf : am_h m_X12_signOf = [] := rfl
theorem bb_X12_square : am_b m_X12_square = cX12_square := rfl
theorem nn_X12_square : am_n m_X12_square = 2 := rfl
theorem oo_X12_square : am_o m_X12_square = RX12 := rfl
theorem yy_X12_square : am_y m_X12_square = yX12_square := rfl
theorem dd_X12_square : am_d m_X12_square = 1 := rfl
theorem hl_X12_square : am_hl m_X12_square = [] := rfl
theorem hh_X12_square : am_h m_X12_square = [] := rfl
theorem bb_X12_thrown : am_b m_X12_thrown = cX12_thrown := rfl
theorem nn_X12_thrown : am_n m_X12_thrown = 1 := rfl
theorem oo_X12_thrown : am_o m_X12_thrown = RX12 := rfl
theorem yy_X12_thrown : am_y m_X12_thrown = yX12_thrown := rfl
theorem dd_X12_thrown : am_d m_X12_thrown = 1 := rfl
theorem hl_X12_thrown : am_hl m_X12_thrown = [] := rfl
theorem hh_X12_thrown : am_h m_X12_thrown = [] := rfl
theorem bb_X12_top : am_b m_X12_top = cX12_top := rfl
theorem nn_X12_top : am_n m_X12_top = 2 := rfl
theorem oo_X12_top : am_o m_X12_top = RX12 := rfl
theorem yy_X12_top : am_y m_X12_top = yX12_top := rfl
theorem dd_X12_top : am_d m_X12_top = 1 := rfl
theorem hl_X12_top : am_hl m_X12_top = [] := rfl
theorem hh_X12_top : am_h m_X12_top = [] := rfl
theorem bb_X12_widens : am_b m_X12_widens = cX12_widens := rfl
theorem nn_X12_widens : am_n m_X12_widens = 1 := rfl
theorem oo_X12_widens : am_o m_X12_widens = RX12 := rfl
theorem yy_X12_widens : am_y m_X12_widens = yX12_widens := rfl
theorem dd_X12_widens : am_d m_X12_widens = 1 := rfl
theorem hl_X12_widens : am_hl m_X12_widens = [] := rfl
theorem hh_X12_widens : am_h m_X12_widens = [] := rfl
theorem bb_X4_inside : am_b m_X4_inside = cX4_inside := rfl
theorem nn_X4_inside : am_n m_X4_inside = 1 := rfl
theorem oo_X4_inside : am_o m_X4_inside = RX4 := rfl
theorem yy_X4_inside : am_y m_X4_inside = yX4_inside := rfl
theorem dd_X4_inside : am_d m_X4_inside = 1 := rfl
theorem hl_X4_inside : am_hl m_X4_inside = [] := rfl
theorem hh_X4_inside : am_h m_X4_inside = [] := rfl
theorem bb_X4_placeFrom : am_b m_X4_placeFrom = cX4_placeFrom := rfl
theorem nn_X4_placeFrom : am_n m_X4_placeFrom = 3 := rfl
theorem oo_X4_placeFrom : am_o m_X4_placeFrom = RX4 := rfl
theorem yy_X4_placeFrom : am_y m_X4_placeFrom = yX4_placeFrom := rfl
theorem dd_X4_placeFrom : am_d m_X4_placeFrom = 1 := rfl
theorem hl_X4_placeFrom : am_hl m_X4_placeFrom = [] := rfl
theorem hh_X4_placeFrom : am_h m_X4_placeFrom = [] := rfl
theorem bb_X5_isOfBorder : am_b m_X5_isOfBorder = cX5_isOfBorder := rfl
theorem nn_X5_isOfBorder : am_n m_X5_isOfBorder = 1 := rfl
theorem oo_X5_isOfBorder : am_o m_X5_isOfBorder = RX5 := rfl
theorem yy_X5_isOfBorder : am_y m_X5_isOfBorder = yX5_isOfBorder := rfl
theorem dd_X5_isOfBorder : am_d m_X5_isOfBorder = 1 := rfl
theorem hl_X5_isOfBorder : am_hl m_X5_isOfBorder = [] := rfl
theorem hh_X5_isOfBorder : am_h m_X5_isOfBorder = [] := rfl
theorem bb_X5_lay : am_b m_X5_lay = cX5_lay := rfl
theorem nn_X5_lay : am_n m_X5_lay = 5 := rfl
theorem oo_X5_lay : am_o m_X5_lay = RX5 := rfl
theorem yy_X5_lay : am_y m_X5_lay = yX5_lay := rfl
theorem dd_X5_lay : am_d m_X5_lay = 1 := rfl
theorem hl_X5_lay : am_hl m_X5_lay = [] := rfl
theorem hh_X5_lay : am_h m_X5_lay = [] := rfl
theorem bb_X5_usesFirst : am_b m_X5_usesFirst = cX5_usesFirst := rfl
theorem nn_X5_usesFirst : am_n m_X5_usesFirst = 1 := rfl
theorem oo_X5_usesFirst : am_o m_X5_usesFirst = RX5 := rfl
theorem yy_X5_usesFirst : am_y m_X5_usesFirst = yX5_usesFirst := rfl
theorem dd_X5_usesFirst : am_d m_X5_usesFirst = 1 := rfl
theorem hl_X5_usesFirst : am_hl m_X5_usesFirst = [] := rfl
theorem hh_X5_usesFirst : am_h m_X5_usesFirst = [] := rfl
theorem bb_X5_usesSecond : am_b m_X5_usesSecond = cX5_usesSecond := rfl
theorem nn_X5_usesSecond : am_n m_X5_usesSecond = 1 := rfl
theorem oo_X5_usesSecond : am_o m_X5_usesSecond = RX5 := rfl
theorem yy_X5_usesSecond : am_y m_X5_usesSecond = yX5_usesSecond := rfl
theorem dd_X5_usesSecond : am_d m_X5_usesSecond = 1 := rfl
theorem hl_X5_usesSecond : am_hl m_X5_usesSecond = [] := rfl
theorem hh_X5_usesSecond : am_h m_X5_usesSecond = [] := rfl
theorem bb_X6_bits : am_b m_X6_bits = cX6_bits := rfl
theorem nn_X6_bits : am_n m_X6_bits = 1 := rfl
theorem oo_X6_bits : am_o m_X6_bits = RX6 := rfl
theorem yy_X6_bits : am_y m_X6_bits = yX6_bits := rfl
theorem dd_X6_bits : am_d m_X6_bits = 1 := rfl
theorem hl_X6_bits : am_hl m_X6_bits = [] := rfl
theorem hh_X6_bits : am_h m_X6_bits = [] := rfl
theorem bb_X6_describe : am_b m_X6_describe = cX6_describe := rfl
theorem nn_X6_describe : am_n m_X6_describe = 4 := rfl
theorem oo_X6_describe : am_o m_X6_describe = RX6 := rfl
theorem yy_X6_describe : am_y m_X6_describe = yX6_describe := rfl
theorem dd_X6_describe : am_d m_X6_describe = 1 := rfl
theorem hl_X6_describe : am_hl m_X6_describe = [] := rfl
theorem hh_X6_describe : am_h m_X6_describe = [] := rfl
theorem bb_X6_has : am_b m_X6_has = cX6_has := rfl
theorem nn_X6_has : am_n m_X6_has = 2 := rfl
theorem oo_X6_has : am_o m_X6_has = RX6 := rfl
theorem yy_X6_has : am_y m_X6_has = yX6_has := rfl
theorem dd_X6_has : am_d m_X6_has = 1 := rfl
theorem hl_X6_has : am_hl m_X6_has = [] := rfl
theorem hh_X6_has : am_h m_X6_has = [] := rfl
theorem bb_X6_leansOnFirst : am_b m_X6_leansOnFirst = cX6_leansOnFirst := rfl
theorem nn_X6_leansOnFirst : am_n m_X6_leansOnFirst = 1 := rfl
theorem oo_X6_leansOnFirst : am_o m_X6_leansOnFirst = RX6 := rfl
theorem yy_X6_leansOnFirst : am_y m_X6_leansOnFirst = yX6_leansOnFirst := rfl
theorem dd_X6_leansOnFirst : am_d m_X6_leansOnFirst = 1 := rfl
theorem hl_X6_leansOnFirst : am_hl m_X6_leansOnFirst = [] := rfl
theorem hh_X6_leansOnFirst : am_h m_X6_leansOnFirst = [] := rfl
theorem bb_X6_leansOnSecond : am_b m_X6_leansOnSecond = cX6_leansOnSecond := rfl
theorem nn_X6_leansOnSecond : am_n m_X6_leansOnSecond = 1 := rfl
theorem oo_X6_leansOnSecond : am_o m_X6_leansOnSecond = RX6 := rfl
theorem yy_X6_leansOnSecond : am_y m_X6_leansOnSecond = yX6_leansOnSecond := rfl
theorem dd_X6_leansOnSecond : am_d m_X6_leansOnSecond = 1 := rfl
theorem hl_X6_leansOnSecond : am_hl m_X6_leansOnSecond = [] := rfl
theorem hh_X6_leansOnSecond : am_h m_X6_leansOnSecond = [] := rfl
theorem bb_X6_sliceOf : am_b m_X6_sliceOf = cX6_sliceOf := rfl
theorem nn_X6_sliceOf : am_n m_X6_sliceOf = 2 := rfl
theorem oo_X6_sliceOf : am_o m_X6_sliceOf = RX6 := rfl
theorem yy_X6_sliceOf : am_y m_X6_sliceOf = yX6_sliceOf := rfl
theorem dd_X6_sliceOf : am_d m_X6_sliceOf = 1 := rfl
theorem hl_X6_sliceOf : am_hl m_X6_sliceOf = [] := rfl
theorem hh_X6_sliceOf : am_h m_X6_sliceOf = [] := rfl
theorem bb_X6_useSettings : am_b m_X6_useSettings = cX6_useSettings := rfl
theorem nn_X6_useSettings : am_n m_X6_useSettings = 5 := rfl
theorem oo_X6_useSettings : am_o m_X6_useSettings = RX6 := rfl
theorem yy_X6_useSettings : am_y m_X6_useSettings = yX6_useSettings := rfl
theorem dd_X6_useSettings : am_d m_X6_useSettings = 1 := rfl
theorem hl_X6_useSettings : am_hl m_X6_useSettings = [] := rfl
theorem hh_X6_useSettings : am_h m_X6_useSettings = [] := rfl
theorem bb_X7_copy : am_b m_X7_copy = cX7_copy := rfl
theorem nn_X7_copy : am_n m_X7_copy = 3 := rfl
theorem oo_X7_copy : am_o m_X7_copy = RX7 := rfl
theorem yy_X7_copy : am_y m_X7_copy = yX7_copy := rfl
theorem dd_X7_copy : am_d m_X7_copy = 1 := rfl
theorem hl_X7_copy : am_hl m_X7_copy = [] := rfl
theorem hh_X7_copy : am_h m_X7_copy = [] := rfl
theorem bb_X7_get : am_b m_X7_get = cX7_get := rfl
theorem nn_X7_get : am_n m_X7_get = 2 := rfl
theorem oo_X7_get : am_o m_X7_get = RX7 := rfl
theorem yy_X7_get : am_y m_X7_get = yX7_get := rfl
theorem dd_X7_get : am_d m_X7_get = 1 := rfl
theorem hl_X7_get : am_hl m_X7_get = [] := rfl
theorem hh_X7_get : am_h m_X7_get = [] := rfl
theorem bb_X7_put : am_b m_X7_put = cX7_put := rfl
theorem nn_X7_put : am_n m_X7_put = 3 := rfl
theorem oo_X7_put : am_o m_X7_put = RX7 := rfl
theorem yy_X7_put : am_y m_X7_put = yX7_put := rfl
theorem dd_X7_put : am_d m_X7_put = 1 := rfl
theorem hl_X7_put : am_hl m_X7_put = [] := rfl
theorem hh_X7_put : am_h m_X7_put = [] := rfl
theorem bb_X7_set : am_b m_X7_set = cX7_set := rfl
theorem nn_X7_set : am_n m_X7_set = 3 := rfl
theorem oo_X7_set : am_o m_X7_set = RX7 := rfl
theorem yy_X7_set : am_y m_X7_set = yX7_set := rfl
theorem dd_X7_set : am_d m_X7_set = 1 := rfl
theorem hl_X7_set : am_hl m_X7_set = [] := rfl
theorem hh_X7_set : am_h m_X7_set = [] := rfl
theorem bb_X7_shift : am_b m_X7_shift = cX7_shift := rfl
theorem nn_X7_shift : am_n m_X7_shift = 3 := rfl
theorem oo_X7_shift : am_o m_X7_shift = RX7 := rfl
theorem yy_X7_shift : am_y m_X7_shift = yX7_shift := rfl
theorem dd_X7_shift : am_d m_X7_shift = 1 := rfl
theorem hl_X7_shift : am_hl m_X7_shift = [] := rfl
theorem hh_X7_shift : am_h m_X7_shift = [] := rfl
theorem bb_X8_bits : am_b m_X8_bits = cX8_bits := rfl
theorem nn_X8_bits : am_n m_X8_bits = 1 := rfl
theorem oo_X8_bits : am_o m_X8_bits = RX8 := rfl
theorem yy_X8_bits : am_y m_X8_bits = yX8_bits := rfl
theorem dd_X8_bits : am_d m_X8_bits = 1 := rfl
theorem hl_X8_bits : am_hl m_X8_bits = [] := rfl
theorem hh_X8_bits : am_h m_X8_bits = [] := rfl
theorem bb_X9_down : am_b m_X9_down = cX9_down := rfl
theorem nn_X9_down : am_n m_X9_down = 1 := rfl
theorem oo_X9_down : am_o m_X9_down = RX9 := rfl
theorem yy_X9_down : am_y m_X9_down = yX9_down := rfl
theorem dd_X9_down : am_d m_X9_down = 1 := rfl
theorem hl_X9_down : am_hl m_X9_down = [] := rfl
theorem hh_X9_down : am_h m_X9_down = [] := rfl
theorem bb_X9_of : am_b m_X9_of = cX9_of := rfl
theorem nn_X9_of : am_n m_X9_of = 2 := rfl
theorem oo_X9_of : am_o m_X9_of = RX9 := rfl
theorem yy_X9_of : am_y m_X9_of = yX9_of := rfl
theorem dd_X9_of : am_d m_X9_of = 1 := rfl
theorem hl_X9_of : am_hl m_X9_of = [] := rfl
theorem hh_X9_of : am_h m_X9_of = [] := rfl
theorem bb_X9_right : am_b m_X9_right = cX9_right := rfl
theorem nn_X9_right : am_n m_X9_right = 1 := rfl
theorem oo_X9_right : am_o m_X9_right = RX9 := rfl
theorem yy_X9_right : am_y m_X9_right = yX9_right := rfl
theorem dd_X9_right : am_d m_X9_right = 1 := rfl
theorem hl_X9_right : am_hl m_X9_right = [] := rfl
theorem hh_X9_right : am_h m_X9_right = [] := rfl
theorem bb_X0_hasRoomFor : am_b m_X0_hasRoomFor = cX0_hasRoomFor := rfl
theorem nn_X0_hasRoomFor : am_n m_X0_hasRoomFor = 2 := rfl
theorem oo_X0_hasRoomFor : am_o m_X0_hasRoomFor = RX0 := rfl
theorem yy_X0_hasRoomFor : am_y m_X0_hasRoomFor = yX0_hasRoomFor := rfl
theorem dd_X0_hasRoomFor : am_d m_X0_hasRoomFor = 2 := rfl
theorem hl_X0_hasRoomFor : am_hl m_X0_hasRoomFor = [] := rfl
theorem hh_X0_hasRoomFor : am_h m_X0_hasRoomFor = [] := rfl
theorem bb_X0_init : am_b m_X0_init = cX0_init := rfl
theorem nn_X0_init : am_n m_X0_init = 1 := rfl
theorem oo_X0_init : am_o m_X0_init = RX0 := rfl
theorem yy_X0_init : am_y m_X0_init = yX0_init := rfl
theorem dd_X0_init : am_d m_X0_init = 2 := rfl
theorem hl_X0_init : am_hl m_X0_init = [] := rfl
theorem hh_X0_init : am_h m_X0_init = [] := rfl
theorem bb_X0_steer : am_b m_X0_steer = cX0_steer := rfl
theorem nn_X0_steer : am_n m_X0_steer = 2 := rfl
theorem oo_X0_steer : am_o m_X0_steer = RX0 := rfl
theorem yy_X0_steer : am_y m_X0_steer = yX0_steer := rfl
theorem dd_X0_steer : am_d m_X0_steer = 2 := rfl
theorem hl_X0_steer : am_hl m_X0_steer = [] := rfl
theorem hh_X0_steer : am_h m_X0_steer = [] := rfl
theorem bb_X0_take : am_b m_X0_take = cX0_take := rfl
theorem nn_X0_take : am_n m_X0_take = 2 := rfl
theorem oo_X0_take : am_o m_X0_take = RX0 := rfl
theorem yy_X0_take : am_y m_X0_take = yX0_take := rfl
theorem dd_X0_take : am_d m_X0_take = 2 := rfl
theorem hl_X0_take : am_hl m_X0_take = [] := rfl
theorem hh_X0_take : am_h m_X0_take = [] := rfl
theorem bb_X10_end : am_b m_X10_end = cX10_end := rfl
theorem nn_X10_end : am_n m_X10_end = 2 := rfl
theorem oo_X10_end : am_o m_X10_end = RX10 := rfl
theorem yy_X10_end : am_y m_X10_end = yX10_end := rfl
theorem dd_X10_end : am_d m_X10_end = 2 := rfl
theorem hl_X10_end : am_hl m_X10_end = [] := rfl
theorem hh_X10_end : am_h m_X10_end = [] := rfl
theorem bb_X10_init : am_b m_X10_init = cX10_init := rfl
theorem nn_X10_init : am_n m_X10_init = 1 := rfl
theorem oo_X10_init : am_o m_X10_init = RX10 := rfl
theorem yy_X10_init : am_y m_X10_init = yX10_init := rfl
theorem dd_X10_init : am_d m_X10_init = 2 := rfl
theorem hl_X10_init : am_hl m_X10_init = [] := rfl
theorem hh_X10_init : am_h m_X10_init = [] := rfl
theorem bb_X10_narrow : am_b m_X10_narrow = cX10_narrow := rfl
theorem nn_X10_narrow : am_n m_X10_narrow = 6 := rfl
theorem oo_X10_narrow : am_o m_X10_narrow = RX10 := rfl
theorem yy_X10_narrow : am_y m_X10_narrow = yX10_narrow := rfl
theorem dd_X10_narrow : am_d m_X10_narrow = 2 := rfl
theorem hl_X10_narrow : am_hl m_X10_narrow = [] := rfl
theorem hh_X10_narrow : am_h m_X10_narrow = [] := rfl
theorem bb_X10_start : am_b m_X10_start = cX10_start := rfl
theorem nn_X10_start : am_n m_X10_start = 1 := rfl
theorem oo_X10_start : am_o m_X10_start = RX10 := rfl
theorem yy_X10_start : am_y m_X10_start = yX10_start := rfl
theorem dd_X10_start : am_d m_X10_start = 2 := rfl
theorem hl_X10_start : am_hl m_X10_start = [] := rfl
theorem hh_X10_start : am_h m_X10_start = [] := rfl
theorem bb_X10_written : am_b m_X10_written = cX10_written := rfl
theorem nn_X10_written : am_n m_X10_written = 2 := rfl
theorem oo_X10_written : am_o m_X10_written = RX10 := rfl
theorem yy_X10_written : am_y m_X10_written = yX10_written := rfl
theorem dd_X10_written : am_d m_X10_written = 2 := rfl
theorem hl_X10_written : am_hl m_X10_written = [] := rfl
theorem hh_X10_written : am_h m_X10_written = [] := rfl
theorem bb_X12_drift : am_b m_X12_drift = cX12_drift := rfl
theorem nn_X12_drift : am_n m_X12_drift = 3 := rfl
theorem oo_X12_drift : am_o m_X12_drift = RX12 := rfl
theorem yy_X12_drift : am_y m_X12_drift = yX12_drift := rfl
theorem dd_X12_drift : am_d m_X12_drift = 2 := rfl
theorem hl_X12_drift : am_hl m_X12_drift = [] := rfl
theorem hh_X12_drift : am_h m_X12_drift = [] := rfl
theorem bb_X12_fill : am_b m_X12_fill = cX12_fill := rfl
theorem nn_X12_fill : am_n m_X12_fill = 10 := rfl
theorem oo_X12_fill : am_o m_X12_fill = RX12 := rfl
theorem yy_X12_fill : am_y m_X12_fill = yX12_fill := rfl
theorem dd_X12_fill : am_d m_X12_fill = 2 := rfl
theorem hl_X12_fill : am_hl m_X12_fill = [] := rfl
theorem hh_X12_fill : am_h m_X12_fill = [] := rfl
theorem bb_X12_heaviest : am_b m_X12_heaviest = cX12_heaviest := rfl
theorem nn_X12_heaviest : am_n m_X12_heaviest = 5 := rfl
theorem oo_X12_heaviest : am_o m_X12_heaviest = RX12 := rfl
theorem yy_X12_heaviest : am_y m_X12_heaviest = yX12_heaviest := rfl
theorem dd_X12_heaviest : am_d m_X12_heaviest = 2 := rfl
theorem hl_X12_heaviest : am_hl m_X12_heaviest = [] := rfl
theorem hh_X12_heaviest : am_h m_X12_heaviest = [] := rfl
theorem bb_X12_held : am_b m_X12_held = cX12_held := rfl
theorem nn_X12_held : am_n m_X12_held = 1 := rfl
theorem oo_X12_held : am_o m_X12_held = RX12 := rfl
theorem yy_X12_held : am_y m_X12_held = yX12_held := rfl
theorem dd_X12_held : am_d m_X12_held = 2 := rfl
theorem hl_X12_held : am_hl m_X12_held = [] := rfl
theorem hh_X12_held : am_h m_X12_held = [] := rfl
theorem bb_X12_init : am_b m_X12_init = cX12_init := rfl
theorem nn_X12_init : am_n m_X12_init = 1 := rfl
theorem oo_X12_init : am_o m_X12_init = RX12 := rfl
theorem yy_X12_init : am_y m_X12_init = yX12_init := rfl
theorem dd_X12_init : am_d m_X12_init = 2 := rfl
theorem hl_X12_init : am_hl m_X12_init = [] := rfl
theorem hh_X12_init : am_h m_X12_init = [] := rfl
theorem bb_X12_inside : am_b m_X12_inside = cX12_inside := rfl
theorem nn_X12_inside : am_n m_X12_inside = 1 := rfl
theorem oo_X12_inside : am_o m_X12_inside = RX12 := rfl
theorem yy_X12_inside : am_y m_X12_inside = yX12_inside := rfl
theorem dd_X12_inside : am_d m_X12_inside = 2 := rfl
theorem hl_X12_inside : am_hl m_X12_inside = [] := rfl
theorem hh_X12_inside : am_h m_X12_inside = [] := rfl
theorem bb_X12_isClean : am_b m_X12_isClean = cX12_isClean := rfl
theorem nn_X12_isClean : am_n m_X12_isClean = 1 := rfl
theorem oo_X12_isClean : am_o m_X12_isClean = RX12 := rfl
theorem yy_X12_isClean : am_y m_X12_isClean = yX12_isClean := rfl
theorem dd_X12_isClean : am_d m_X12_isClean = 2 := rfl
theorem hl_X12_isClean : am_hl m_X12_isClean = [] := rfl
theorem hh_X12_isClean : am_h m_X12_isClean = [] := rfl
theorem bb_X12_isPixel : am_b m_X12_isPixel = cX12_isPixel := rfl
theorem nn_X12_isPixel : am_n m_X12_isPixel = 2 := rfl
theorem oo_X12_isPixel : am_o m_X12_isPixel = RX12 := rfl
theorem yy_X12_isPixel : am_y m_X12_isPixel = yX12_isPixel := rfl
theorem dd_X12_isPixel : am_d m_X12_isPixel = 2 := rfl
theorem hl_X12_isPixel : am_hl m_X12_isPixel = [] := rfl
theorem hh_X12_isPixel : am_h m_X12_isPixel = [] := rfl
theorem bb_X12_isSplit : am_b m_X12_isSplit = cX12_isSplit := rfl
theorem nn_X12_isSplit : am_n m_X12_isSplit = 7 := rfl
theorem oo_X12_isSplit : am_o m_X12_isSplit = RX12 := rfl
theorem yy_X12_isSplit : am_y m_X12_isSplit = yX12_isSplit := rfl
theorem dd_X12_isSplit : am_d m_X12_isSplit = 2 := rfl
theorem hl_X12_isSplit : am_hl m_X12_isSplit = [] := rfl
theorem hh_X12_isSplit : am_h m_X12_isSplit = [] := rfl
theorem bb_X12_join : am_b m_X12_join = cX12_join := rfl
theorem nn_X12_join : am_n m_X12_join = 3 := rfl
theorem oo_X12_join : am_o m_X12_join = RX12 := rfl
theorem yy_X12_join : am_y m_X12_join = yX12_join := rfl
theorem dd_X12_join : am_d m_X12_join = 2 := rfl
theorem hl_X12_join : am_hl m_X12_join = [] := rfl
theorem hh_X12_join : am_h m_X12_join = [] := rfl
theorem bb_X12_keeps_ : am_b m_X12_keeps_ = cX12_keeps_ := rfl
theorem nn_X12_keeps_ : am_n m_X12_keeps_ = 4 := rfl
theorem oo_X12_keeps_ : am_o m_X12_keeps_ = RX12 := rfl
theorem yy_X12_keeps_ : am_y m_X12_keeps_ = yX12_keeps_ := rfl
theorem dd_X12_keeps_ : am_d m_X12_keeps_ = 2 := rfl
theorem hl_X12_keeps_ : am_hl m_X12_keeps_ = [] := rfl
theorem hh_X12_keeps_ : am_h m_X12_keeps_ = [] := rfl
theorem bb_X12_keptAt : am_b m_X12_keptAt = cX12_keptAt := rfl
theorem nn_X12_keptAt : am_n m_X12_keptAt = 2 := rfl
theorem oo_X12_keptAt : am_o m_X12_keptAt = RX12 := rfl
theorem yy_X12_keptAt : am_y m_X12_keptAt = yX12_keptAt := rfl
theorem dd_X12_keptAt : am_d m_X12_keptAt = 2 := rfl
theorem hl_X12_keptAt : am_hl m_X12_keptAt = [] := rfl
theorem hh_X12_keptAt : am_h m_X12_keptAt = [] := rfl
theorem bb_X12_leant : am_b m_X12_leant = cX12_leant := rfl
theorem nn_X12_leant : am_n m_X12_leant = 4 := rfl
theorem oo_X12_leant : am_o m_X12_leant = RX12 := rfl
theorem yy_X12_leant : am_y m_X12_leant = yX12_leant := rfl
theorem dd_X12_leant : am_d m_X12_leant = 2 := rfl
theorem hl_X12_leant : am_hl m_X12_leant = [] := rfl
theorem hh_X12_leant : am_h m_X12_leant = [] := rfl
theorem bb_X12_meets : am_b m_X12_meets = cX12_meets := rfl
theorem nn_X12_meets : am_n m_X12_meets = 5 := rfl
theorem oo_X12_meets : am_o m_X12_meets = RX12 := rfl
theorem yy_X12_meets : am_y m_X12_meets = yX12_meets := rfl
theorem dd_X12_meets : am_d m_X12_meets = 2 := rfl
theorem hl_X12_meets : am_hl m_X12_meets = [] := rfl
theorem hh_X12_meets : am_h m_X12_meets = [] := rfl
theorem bb_X12_move : am_b m_X12_move = cX12_move := rfl
theorem nn_X12_move : am_n m_X12_move = 7 := rfl
theorem oo_X12_move : am_o m_X12_move = RX12 := rfl
theorem yy_X12_move : am_y m_X12_move = yX12_move := rfl
theorem dd_X12_move : am_d m_X12_move = 2 := rfl
theorem hl_X12_move : am_hl m_X12_move = [] := rfl
theorem hh_X12_move : am_h m_X12_move = [] := rfl
theorem bb_X12_noPicture : am_b m_X12_noPicture = cX12_noPicture := rfl
theorem nn_X12_noPicture : am_n m_X12_noPicture = 2 := rfl
theorem oo_X12_noPicture : am_o m_X12_noPicture = RX12 := rfl
theorem yy_X12_noPicture : am_y m_X12_noPicture = yX12_noPicture := rfl
theorem dd_X12_noPicture : am_d m_X12_noPicture = 2 := rfl
theorem hl_X12_noPicture : am_hl m_X12_noPicture = [] := rfl
theorem hh_X12_noPicture : am_h m_X12_noPicture = [] := rfl
theorem bb_X12_noSlice : am_b m_X12_noSlice = cX12_noSlice := rfl
theorem nn_X12_noSlice : am_n m_X12_noSlice = 3 := rfl
theorem oo_X12_noSlice : am_o m_X12_noSlice = RX12 := rfl
theorem yy_X12_noSlice : am_y m_X12_noSlice = yX12_noSlice := rfl
theorem dd_X12_noSlice : am_d m_X12_noSlice = 2 := rfl
theorem hl_X12_noSlice : am_hl m_X12_noSlice = [] := rfl
theorem hh_X12_noSlice : am_h m_X12_noSlice = [] := rfl
theorem bb_X12_says : am_b m_X12_says = cX12_says := rfl
theorem nn_X12_says : am_n m_X12_says = 5 := rfl
theorem oo_X12_says : am_o m_X12_says = RX12 := rfl
theorem yy_X12_says : am_y m_X12_says = yX12_says := rfl
theorem dd_X12_says : am_d m_X12_says = 2 := rfl
theorem hl_X12_says : am_hl m_X12_says = [] := rfl
theorem hh_X12_says : am_h m_X12_says = [] := rfl
theorem bb_X12_saysPlain : am_b m_X12_saysPlain = cX12_saysPlain := rfl
theorem nn_X12_saysPlain : am_n m_X12_saysPlain = 2 := rfl
theorem oo_X12_saysPlain : am_o m_X12_saysPlain = RX12 := rfl
theorem yy_X12_saysPlain : am_y m_X12_saysPlain = yX12_saysPlain := rfl
theorem dd_X12_saysPlain : am_d m_X12_saysPlain = 2 := rfl
theorem hl_X12_saysPlain : am_hl m_X12_saysPlain = [] := rfl
theorem hh_X12_saysPlain : am_h m_X12_saysPlain = [] := rfl
theorem bb_X12_setBucket : am_b m_X12_setBucket = cX12_setBucket := rfl
theorem nn_X12_setBucket : am_n m_X12_setBucket = 4 := rfl
theorem oo_X12_setBucket : am_o m_X12_setBucket = RX12 := rfl
theorem yy_X12_setBucket : am_y m_X12_setBucket = yX12_setBucket := rfl
theorem dd_X12_setBucket : am_d m_X12_setBucket = 2 := rfl
theorem hl_X12_setBucket : am_hl m_X12_setBucket = [] := rfl
theorem hh_X12_setBucket : am_h m_X12_setBucket = [] := rfl
theorem bb_X12_setCoarseness : am_b m_X12_setCoarseness = cX12_setCoarseness := rfl
theorem nn_X12_setCoarseness : am_n m_X12_setCoarseness = 3 := rfl
theorem oo_X12_setCoarseness : am_o m_X12_setCoarseness = RX12 := rfl
theorem yy_X12_setCoarseness : am_y m_X12_setCoarseness = yX12_setCoarseness := rfl
theorem dd_X12_setCoarseness : am_d m_X12_setCoarseness = 2 := rfl
theorem hl_X12_setCoarseness : am_hl m_X12_setCoarseness = [] := rfl
theorem hh_X12_setCoarseness : am_h m_X12_setCoarseness = [] := rfl
theorem bb_X12_setSlices : am_b m_X12_setSlices = cX12_setSlices := rfl
theorem nn_X12_setSlices : am_n m_X12_setSlices = 3 := rfl
theorem oo_X12_setSlices : am_o m_X12_setSlices = RX12 := rfl
theorem yy_X12_setSlices : am_y m_X12_setSlices = yX12_setSlices := rfl
theorem dd_X12_setSlices : am_d m_X12_setSlices = 2 := rfl
theorem hl_X12_setSlices : am_hl m_X12_setSlices = [] := rfl
theorem hh_X12_setSlices : am_h m_X12_setSlices = [] := rfl
theorem bb_X12_setTools : am_b m_X12_setTools = cX12_setTools := rfl
theorem nn_X12_setTools : am_n m_X12_setTools = 3 := rfl
theorem oo_X12_setTools : am_o m_X12_setTools = RX12 := rfl
theorem yy_X12_setTools : am_y m_X12_setTools = yX12_setTools := rfl
theorem dd_X12_setTools : am_d m_X12_setTools = 2 := rfl
theorem hl_X12_setTools : am_hl m_X12_setTools = [] := rfl
theorem hh_X12_setTools : am_h m_X12_setTools = [] := rfl
theorem bb_X12_shown : am_b m_X12_shown = cX12_shown := rfl
theorem nn_X12_shown : am_n m_X12_shown = 1 := rfl
theorem oo_X12_shown : am_o m_X12_shown = RX12 := rfl
theorem yy_X12_shown : am_y m_X12_shown = yX12_shown := rfl
theorem dd_X12_shown : am_d m_X12_shown = 2 := rfl
theorem hl_X12_shown : am_hl m_X12_shown = [] := rfl
theorem hh_X12_shown : am_h m_X12_shown = [] := rfl
theorem bb_X12_slope : am_b m_X12_slope = cX12_slope := rfl
theorem nn_X12_slope : am_n m_X12_slope = 6 := rfl
theorem oo_X12_slope : am_o m_X12_slope = RX12 := rfl
theorem yy_X12_slope : am_y m_X12_slope = yX12_slope := rfl
theorem dd_X12_slope : am_d m_X12_slope = 2 := rfl
theorem hl_X12_slope : am_hl m_X12_slope = [] := rfl
theorem hh_X12_slope : am_h m_X12_slope = [] := rfl
theorem bb_X12_turned : am_b m_X12_turned = cX12_turned := rfl
theorem nn_X12_turned : am_n m_X12_turned = 5 := rfl
theorem oo_X12_turned : am_o m_X12_turned = RX12 := rfl
theorem yy_X12_turned : am_y m_X12_turned = yX12_turned := rfl
theorem dd_X12_turned : am_d m_X12_turned = 2 := rfl
theorem hl_X12_turned : am_hl m_X12_turned = [] := rfl
theorem hh_X12_turned : am_h m_X12_turned = [] := rfl
theorem bb_X1_bordering : am_b m_X1_bordering = cX1_bordering := rfl
theorem nn_X1_bordering : am_n m_X1_bordering = 4 := rfl
theorem oo_X1_bordering : am_o m_X1_bordering = RX1 := rfl
theorem yy_X1_bordering : am_y m_X1_bordering = yX1_bordering := rfl
theorem dd_X1_bordering : am_d m_X1_bordering = 2 := rfl
theorem hl_X1_bordering : am_hl m_X1_bordering = [] := rfl
theorem hh_X1_bordering : am_h m_X1_bordering = [] := rfl
theorem bb_X1_fromBorder : am_b m_X1_fromBorder = cX1_fromBorder := rfl
theorem nn_X1_fromBorder : am_n m_X1_fromBorder = 4 := rfl
theorem oo_X1_fromBorder : am_o m_X1_fromBorder = RX1 := rfl
theorem yy_X1_fromBorder : am_y m_X1_fromBorder = yX1_fromBorder := rfl
theorem dd_X1_fromBorder : am_d m_X1_fromBorder = 2 := rfl
theorem hl_X1_fromBorder : am_hl m_X1_fromBorder = [] := rfl
theorem hh_X1_fromBorder : am_h m_X1_fromBorder = [] := rfl
theorem bb_X1_guessError : am_b m_X1_guessError = cX1_guessError := rfl
theorem nn_X1_guessError : am_n m_X1_guessError = 7 := rfl
theorem oo_X1_guessError : am_o m_X1_guessError = RX1 := rfl
theorem yy_X1_guessError : am_y m_X1_guessError = yX1_guessError := rfl
theorem dd_X1_guessError : am_d m_X1_guessError = 2 := rfl
theorem hl_X1_guessError : am_hl m_X1_guessError = [] := rfl
theorem hh_X1_guessError : am_h m_X1_guessError = [] := rfl
theorem bb_X1_levelOf : am_b m_X1_levelOf = cX1_levelOf := rfl
theorem nn_X1_levelOf : am_n m_X1_levelOf = 3 := rfl
theorem oo_X1_levelOf : am_o m_X1_levelOf = RX1 := rfl
theorem yy_X1_levelOf : am_y m_X1_levelOf = yX1_levelOf := rfl
theorem dd_X1_levelOf : am_d m_X1_levelOf = 2 := rfl
theorem hl_X1_levelOf : am_hl m_X1_levelOf = [] := rfl
theorem hh_X1_levelOf : am_h m_X1_levelOf = [] := rfl
theorem bb_X1_smoothPair : am_b m_X1_smoothPair = cX1_smoothPair := rfl
theorem nn_X1_smoothPair : am_n m_X1_smoothPair = 7 := rfl
theorem oo_X1_smoothPair : am_o m_X1_smoothPair = RX1 := rfl
theorem yy_X1_smoothPair : am_y m_X1_smoothPair = yX1_smoothPair := rfl
theorem dd_X1_smoothPair : am_d m_X1_smoothPair = 2 := rfl
theorem hl_X1_smoothPair : am_hl m_X1_smoothPair = [] := rfl
theorem hh_X1_smoothPair : am_h m_X1_smoothPair = [] := rfl
theorem bb_X1_transformLine : am_b m_X1_transformLine = cX1_transformLine := rfl
theorem nn_X1_transformLine : am_n m_X1_transformLine = 7 := rfl
theorem oo_X1_transformLine : am_o m_X1_transformLine = RX1 := rfl
theorem yy_X1_transformLine : am_y m_X1_transformLine = yX1_transformLine := rfl
theorem dd_X1_transformLine : am_d m_X1_transformLine = 2 := rfl
theorem hl_X1_transformLine : am_hl m_X1_transformLine = [] := rfl
theorem hh_X1_transformLine : am_h m_X1_transformLine = [] := rfl
theorem bb_X2_isToSplit : am_b m_X2_isToSplit = cX2_isToSplit := rfl
theorem nn_X2_isToSplit : am_n m_X2_isToSplit = 9 := rfl
theorem oo_X2_isToSplit : am_o m_X2_isToSplit = RX2 := rfl
theorem yy_X2_isToSplit : am_y m_X2_isToSplit = yX2_isToSplit := rfl
theorem dd_X2_isToSplit : am_d m_X2_isToSplit = 2 := rfl
theorem hl_X2_isToSplit : am_hl m_X2_isToSplit = [] := rfl
theorem hh_X2_isToSplit : am_h m_X2_isToSplit = [] := rfl
theorem bb_X3_conceal : am_b m_X3_conceal = cX3_conceal := rfl
theorem nn_X3_conceal : am_n m_X3_conceal = 4 := rfl
theorem oo_X3_conceal : am_o m_X3_conceal = RX3 := rfl
theorem yy_X3_conceal : am_y m_X3_conceal = yX3_conceal := rfl
theorem dd_X3_conceal : am_d m_X3_conceal = 2 := rfl
theorem hl_X3_conceal : am_hl m_X3_conceal = [] := rfl
theorem hh_X3_conceal : am_h m_X3_conceal = [] := rfl
theorem bb_X3_keep : am_b m_X3_keep = cX3_keep := rfl
theorem nn_X3_keep : am_n m_X3_keep = 1 := rfl
theorem oo_X3_keep : am_o m_X3_keep = RX3 := rfl
theorem yy_X3_keep : am_y m_X3_keep = yX3_keep := rfl
theorem dd_X3_keep : am_d m_X3_keep = 2 := rfl
theorem hl_X3_keep : am_hl m_X3_keep = [] := rfl
theorem hh_X3_keep : am_h m_X3_keep = [] := rfl
theorem bb_X3_leansOnClean : am_b m_X3_leansOnClean = cX3_leansOnClean := rfl
theorem nn_X3_leansOnClean : am_n m_X3_leansOnClean = 2 := rfl
theorem oo_X3_leansOnClean : am_o m_X3_leansOnClean = RX3 := rfl
theorem yy_X3_leansOnClean : am_y m_X3_leansOnClean = yX3_leansOnClean := rfl
theorem dd_X3_leansOnClean : am_d m_X3_leansOnClean = 2 := rfl
theorem hl_X3_leansOnClean : am_hl m_X3_leansOnClean = [] := rfl
theorem hh_X3_leansOnClean : am_h m_X3_leansOnClean = [] := rfl
theorem bb_X3_startAt : am_b m_X3_startAt = cX3_startAt := rfl
theorem nn_X3_startAt : am_n m_X3_startAt = 2 := rfl
theorem oo_X3_startAt : am_o m_X3_startAt = RX3 := rfl
theorem yy_X3_startAt : am_y m_X3_startAt = yX3_startAt := rfl
theorem dd_X3_startAt : am_d m_X3_startAt = 2 := rfl
theorem hl_X3_startAt : am_hl m_X3_startAt = [] := rfl
theorem hh_X3_startAt : am_h m_X3_startAt = [] := rfl
theorem bb_X4_between : am_b m_X4_between = cX4_between := rfl
theorem nn_X4_between : am_n m_X4_between = 9 := rfl
theorem oo_X4_between : am_o m_X4_between = RX4 := rfl
theorem yy_X4_between : am_y m_X4_between = yX4_between := rfl
theorem dd_X4_between : am_d m_X4_between = 2 := rfl
theorem hl_X4_between : am_hl m_X4_between = [] := rfl
theorem hh_X4_between : am_h m_X4_between = [] := rfl
theorem bb_X4_guessed : am_b m_X4_guessed = cX4_guessed := rfl
theorem nn_X4_guessed : am_n m_X4_guessed = 4 := rfl
theorem oo_X4_guessed : am_o m_X4_guessed = RX4 := rfl
theorem yy_X4_guessed : am_y m_X4_guessed = yX4_guessed := rfl
theorem dd_X4_guessed : am_d m_X4_guessed = 2 := rfl
theorem hl_X4_guessed : am_hl m_X4_guessed = [] := rfl
theorem hh_X4_guessed : am_h m_X4_guessed = [] := rfl
theorem bb_X4_init : am_b m_X4_init = cX4_init := rfl
theorem nn_X4_init : am_n m_X4_init = 1 := rfl
theorem oo_X4_init : am_o m_X4_init = RX4 := rfl
theorem yy_X4_init : am_y m_X4_init = yX4_init := rfl
theorem dd_X4_init : am_d m_X4_init = 2 := rfl
theorem hl_X4_init : am_hl m_X4_init = [] := rfl
theorem hh_X4_init : am_h m_X4_init = [] := rfl
theorem bb_X4_rowDifference : am_b m_X4_rowDifference = cX4_rowDifference := rfl
theorem nn_X4_rowDifference : am_n m_X4_rowDifference = 7 := rfl
theorem oo_X4_rowDifference : am_o m_X4_rowDifference = RX4 := rfl
theorem yy_X4_rowDifference : am_y m_X4_rowDifference = yX4_rowDifference := rfl
theorem dd_X4_rowDifference : am_d m_X4_rowDifference = 2 := rfl
theorem hl_X4_rowDifference : am_hl m_X4_rowDifference = [] := rfl
theorem hh_X4_rowDifference : am_h m_X4_rowDifference = [] := rfl
theorem bb_X5_init : am_b m_X5_init = cX5_init := rfl
theorem nn_X5_init : am_n m_X5_init = 1 := rfl
theorem oo_X5_init : am_o m_X5_init = RX5 := rfl
theorem yy_X5_init : am_y m_X5_init = yX5_init := rfl
theorem dd_X5_init : am_d m_X5_init = 2 := rfl
theorem hl_X5_init : am_hl m_X5_init = [] := rfl
theorem hh_X5_init : am_h m_X5_init = [] := rfl
theorem bb_X6_finish : am_b m_X6_finish = cX6_finish := rfl
theorem nn_X6_finish : am_n m_X6_finish = 6 := rfl
theorem oo_X6_finish : am_o m_X6_finish = RX6 := rfl
theorem yy_X6_finish : am_y m_X6_finish = yX6_finish := rfl
theorem dd_X6_finish : am_d m_X6_finish = 2 := rfl
theorem hl_X6_finish : am_hl m_X6_finish = [] := rfl
theorem hh_X6_finish : am_h m_X6_finish = [] := rfl
theorem bb_X6_init : am_b m_X6_init = cX6_init := rfl
theorem nn_X6_init : am_n m_X6_init = 1 := rfl
theorem oo_X6_init : am_o m_X6_init = RX6 := rfl
theorem yy_X6_init : am_y m_X6_init = yX6_init := rfl
theorem dd_X6_init : am_d m_X6_init = 2 := rfl
theorem hl_X6_init : am_hl m_X6_init = [] := rfl
theorem hh_X6_init : am_h m_X6_init = [] := rfl
theorem bb_X6_isSplitAt : am_b m_X6_isSplitAt = cX6_isSplitAt := rfl
theorem nn_X6_isSplitAt : am_n m_X6_isSplitAt = 2 := rfl
theorem oo_X6_isSplitAt : am_o m_X6_isSplitAt = RX6 := rfl
theorem yy_X6_isSplitAt : am_y m_X6_isSplitAt = yX6_isSplitAt := rfl
theorem dd_X6_isSplitAt : am_d m_X6_isSplitAt = 2 := rfl
theorem hl_X6_isSplitAt : am_hl m_X6_isSplitAt = [] := rfl
theorem hh_X6_isSplitAt : am_h m_X6_isSplitAt = [] := rfl
theorem bb_X6_modeCount : am_b m_X6_modeCount = cX6_modeCount := rfl
theorem nn_X6_modeCount : am_n m_X6_modeCount = 1 := rfl
theorem oo_X6_modeCount : am_o m_X6_modeCount = RX6 := rfl
theorem yy_X6_modeCount : am_y m_X6_modeCount = yX6_modeCount := rfl
theorem dd_X6_modeCount : am_d m_X6_modeCount = 2 := rfl
theorem hl_X6_modeCount : am_hl m_X6_modeCount = [] := rfl
theorem hh_X6_modeCount : am_h m_X6_modeCount = [] := rfl
theorem bb_X6_note : am_b m_X6_note = cX6_note := rfl
theorem nn_X6_note : am_n m_X6_note = 5 := rfl
theorem oo_X6_note : am_o m_X6_note = RX6 := rfl
theorem yy_X6_note : am_y m_X6_note = yX6_note := rfl
theorem dd_X6_note : am_d m_X6_note = 2 := rfl
theorem hl_X6_note : am_hl m_X6_note = [] := rfl
theorem hh_X6_note : am_h m_X6_note = [] := rfl
theorem bb_X6_topOf : am_b m_X6_topOf = cX6_topOf := rfl
theorem nn_X6_topOf : am_n m_X6_topOf = 2 := rfl
theorem oo_X6_topOf : am_o m_X6_topOf = RX6 := rfl
theorem yy_X6_topOf : am_y m_X6_topOf = yX6_topOf := rfl
theorem dd_X6_topOf : am_d m_X6_topOf = 2 := rfl
theorem hl_X6_topOf : am_hl m_X6_topOf = [] := rfl
theorem hh_X6_topOf : am_h m_X6_topOf = [] := rfl
theorem bb_X9_length : am_b m_X9_length = cX9_length := rfl
theorem nn_X9_length : am_n m_X9_length = 1 := rfl
theorem oo_X9_length : am_o m_X9_length = RX9 := rfl
theorem yy_X9_length : am_y m_X9_length = yX9_length := rfl
theorem dd_X9_length : am_d m_X9_length = 2 := rfl
theorem hl_X9_length : am_hl m_X9_length = [] := rfl
theorem hh_X9_length : am_h m_X9_length = [] := rfl
theorem bb_X10_bit : am_b m_X10_bit = cX10_bit := rfl
theorem nn_X10_bit : am_n m_X10_bit = 6 := rfl
theorem oo_X10_bit : am_o m_X10_bit = RX10 := rfl
theorem yy_X10_bit : am_y m_X10_bit = yX10_bit := rfl
theorem dd_X10_bit : am_d m_X10_bit = 3 := rfl
theorem hl_X10_bit : am_hl m_X10_bit = [] := rfl
theorem hh_X10_bit : am_h m_X10_bit = [] := rfl
theorem bb_X10_plain : am_b m_X10_plain = cX10_plain := rfl
theorem nn_X10_plain : am_n m_X10_plain = 4 := rfl
theorem oo_X10_plain : am_o m_X10_plain = RX10 := rfl
theorem yy_X10_plain : am_y m_X10_plain = yX10_plain := rfl
theorem dd_X10_plain : am_d m_X10_plain = 3 := rfl
theorem hl_X10_plain : am_hl m_X10_plain = [] := rfl
theorem hh_X10_plain : am_h m_X10_plain = [] := rfl
theorem bb_X11_takeDraft : am_b m_X11_takeDraft = cX11_takeDraft := rfl
theorem nn_X11_takeDraft : am_n m_X11_takeDraft = 1 := rfl
theorem oo_X11_takeDraft : am_o m_X11_takeDraft = RX11 := rfl
theorem yy_X11_takeDraft : am_y m_X11_takeDraft = yX11_takeDraft := rfl
theorem dd_X11_takeDraft : am_d m_X11_takeDraft = 3 := rfl
theorem hl_X11_takeDraft : am_hl m_X11_takeDraft = [] := rfl
theorem hh_X11_takeDraft : am_h m_X11_takeDraft = [] := rfl
theorem bb_X12_at : am_b m_X12_at = cX12_at := rfl
theorem nn_X12_at : am_n m_X12_at = 3 := rfl
theorem oo_X12_at : am_o m_X12_at = RX12 := rfl
theorem yy_X12_at : am_y m_X12_at = yX12_at := rfl
theorem dd_X12_at : am_d m_X12_at = 3 := rfl
theorem hl_X12_at : am_hl m_X12_at = [] := rfl
theorem hh_X12_at : am_h m_X12_at = [] := rfl
theorem bb_X12_back : am_b m_X12_back = cX12_back := rfl
theorem nn_X12_back : am_n m_X12_back = 7 := rfl
theorem oo_X12_back : am_o m_X12_back = RX12 := rfl
theorem yy_X12_back : am_y m_X12_back = yX12_back := rfl
theorem dd_X12_back : am_d m_X12_back = 3 := rfl
theorem hl_X12_back : am_hl m_X12_back = [] := rfl
theorem hh_X12_back : am_h m_X12_back = [] := rfl
theorem bb_X12_byBorder : am_b m_X12_byBorder = cX12_byBorder := rfl
theorem nn_X12_byBorder : am_n m_X12_byBorder = 13 := rfl
theorem oo_X12_byBorder : am_o m_X12_byBorder = RX12 := rfl
theorem yy_X12_byBorder : am_y m_X12_byBorder = yX12_byBorder := rfl
theorem dd_X12_byBorder : am_d m_X12_byBorder = 3 := rfl
theorem hl_X12_byBorder : am_hl m_X12_byBorder = [] := rfl
theorem hh_X12_byBorder : am_h m_X12_byBorder = [] := rfl
theorem bb_X12_byteAt : am_b m_X12_byteAt = cX12_byteAt := rfl
theorem nn_X12_byteAt : am_n m_X12_byteAt = 5 := rfl
theorem oo_X12_byteAt : am_o m_X12_byteAt = RX12 := rfl
theorem yy_X12_byteAt : am_y m_X12_byteAt = yX12_byteAt := rfl
theorem dd_X12_byteAt : am_d m_X12_byteAt = 3 := rfl
theorem hl_X12_byteAt : am_hl m_X12_byteAt = [] := rfl
theorem hh_X12_byteAt : am_h m_X12_byteAt = [] := rfl
theorem bb_X12_bytes : am_b m_X12_bytes = cX12_bytes := rfl
theorem nn_X12_bytes : am_n m_X12_bytes = 3 := rfl
theorem oo_X12_bytes : am_o m_X12_bytes = RX12 := rfl
theorem yy_X12_bytes : am_y m_X12_bytes = yX12_bytes := rfl
theorem dd_X12_bytes : am_d m_X12_bytes = 3 := rfl
theorem hl_X12_bytes : am_hl m_X12_bytes = [] := rfl
theorem hh_X12_bytes : am_h m_X12_bytes = [] := rfl
theorem bb_X12_coarsenessOf : am_b m_X12_coarsenessOf = cX12_coarsenessOf := rfl
theorem nn_X12_coarsenessOf : am_n m_X12_coarsenessOf = 2 := rfl
theorem oo_X12_coarsenessOf : am_o m_X12_coarsenessOf = RX12 := rfl
theorem yy_X12_coarsenessOf : am_y m_X12_coarsenessOf = yX12_coarsenessOf := rfl
theorem dd_X12_coarsenessOf : am_d m_X12_coarsenessOf = 3 := rfl
theorem hl_X12_coarsenessOf : am_hl m_X12_coarsenessOf = [] := rfl
theorem hh_X12_coarsenessOf : am_h m_X12_coarsenessOf = [] := rfl
theorem bb_X12_codesSquare : am_b m_X12_codesSquare = cX12_codesSquare := rfl
theorem nn_X12_codesSquare : am_n m_X12_codesSquare = 8 := rfl
theorem oo_X12_codesSquare : am_o m_X12_codesSquare = RX12 := rfl
theorem yy_X12_codesSquare : am_y m_X12_codesSquare = yX12_codesSquare := rfl
theorem dd_X12_codesSquare : am_d m_X12_codesSquare = 3 := rfl
theorem hl_X12_codesSquare : am_hl m_X12_codesSquare = [] := rfl
theorem hh_X12_codesSquare : am_h m_X12_codesSquare = [] := rfl
theorem bb_X12_errorOf : am_b m_X12_errorOf = cX12_errorOf := rfl
theorem nn_X12_errorOf : am_n m_X12_errorOf = 2 := rfl
theorem oo_X12_errorOf : am_o m_X12_errorOf = RX12 := rfl
theorem yy_X12_errorOf : am_y m_X12_errorOf = yX12_errorOf := rfl
theorem dd_X12_errorOf : am_d m_X12_errorOf = 3 := rfl
theorem hl_X12_errorOf : am_hl m_X12_errorOf = [] := rfl
theorem hh_X12_errorOf : am_h m_X12_errorOf = [] := rfl
theorem bb_X12_grain : am_b m_X12_grain = cX12_grain := rfl
theorem nn_X12_grain : am_n m_X12_grain = 5 := rfl
theorem oo_X12_grain : am_o m_X12_grain = RX12 := rfl
theorem yy_X12_grain : am_y m_X12_grain = yX12_grain := rfl
theorem dd_X12_grain : am_d m_X12_grain = 3 := rfl
theorem hl_X12_grain : am_hl m_X12_grain = [] := rfl
theorem hh_X12_grain : am_h m_X12_grain = [] := rfl
theorem bb_X12_keeps : am_b m_X12_keeps = cX12_keeps := rfl
theorem nn_X12_keeps : am_n m_X12_keeps = 7 := rfl
theorem oo_X12_keeps : am_o m_X12_keeps = RX12 := rfl
theorem yy_X12_keeps : am_y m_X12_keeps = yX12_keeps := rfl
theorem dd_X12_keeps : am_d m_X12_keeps = 3 := rfl
theorem hl_X12_keeps : am_hl m_X12_keeps = [] := rfl
theorem hh_X12_keeps : am_h m_X12_keeps = [] := rfl
theorem bb_X12_kindOf : am_b m_X12_kindOf = cX12_kindOf := rfl
theorem nn_X12_kindOf : am_n m_X12_kindOf = 2 := rfl
theorem oo_X12_kindOf : am_o m_X12_kindOf = RX12 := rfl
theorem yy_X12_kindOf : am_y m_X12_kindOf = yX12_kindOf := rfl
theorem dd_X12_kindOf : am_d m_X12_kindOf = 3 := rfl
theorem hl_X12_kindOf : am_hl m_X12_kindOf = [] := rfl
theorem hh_X12_kindOf : am_h m_X12_kindOf = [] := rfl
theorem bb_X12_noPlace : am_b m_X12_noPlace = cX12_noPlace := rfl
theorem nn_X12_noPlace : am_n m_X12_noPlace = 4 := rfl
theorem oo_X12_noPlace : am_o m_X12_noPlace = RX12 := rfl
theorem yy_X12_noPlace : am_y m_X12_noPlace = yX12_noPlace := rfl
theorem dd_X12_noPlace : am_d m_X12_noPlace = 3 := rfl
theorem hl_X12_noPlace : am_hl m_X12_noPlace = [] := rfl
theorem hh_X12_noPlace : am_h m_X12_noPlace = [] := rfl
theorem bb_X12_pixel : am_b m_X12_pixel = cX12_pixel := rfl
theorem nn_X12_pixel : am_n m_X12_pixel = 3 := rfl
theorem oo_X12_pixel : am_o m_X12_pixel = RX12 := rfl
theorem yy_X12_pixel : am_y m_X12_pixel = yX12_pixel := rfl
theorem dd_X12_pixel : am_d m_X12_pixel = 3 := rfl
theorem hl_X12_pixel : am_hl m_X12_pixel = [] := rfl
theorem hh_X12_pixel : am_h m_X12_pixel = [] := rfl
theorem bb_X12_saysNumber : am_b m_X12_saysNumber = cX12_saysNumber := rfl
theorem nn_X12_saysNumber : am_n m_X12_saysNumber = 6 := rfl
theorem oo_X12_saysNumber : am_o m_X12_saysNumber = RX12 := rfl
theorem yy_X12_saysNumber : am_y m_X12_saysNumber = yX12_saysNumber := rfl
theorem dd_X12_saysNumber : am_d m_X12_saysNumber = 3 := rfl
theorem hl_X12_saysNumber : am_hl m_X12_saysNumber = [] := rfl
theorem hh_X12_saysNumber : am_h m_X12_saysNumber = [] := rfl
theorem bb_X12_shownAt : am_b m_X12_shownAt = cX12_shownAt := rfl
theorem nn_X12_shownAt : am_n m_X12_shownAt = 3 := rfl
theorem oo_X12_shownAt : am_o m_X12_shownAt = RX12 := rfl
theorem yy_X12_shownAt : am_y m_X12_shownAt = yX12_shownAt := rfl
theorem dd_X12_shownAt : am_d m_X12_shownAt = 3 := rfl
theorem hl_X12_shownAt : am_hl m_X12_shownAt = [] := rfl
theorem hh_X12_shownAt : am_h m_X12_shownAt = [] := rfl
theorem bb_X12_smooths : am_b m_X12_smooths = cX12_smooths := rfl
theorem nn_X12_smooths : am_n m_X12_smooths = 6 := rfl
theorem oo_X12_smooths : am_o m_X12_smooths = RX12 := rfl
theorem yy_X12_smooths : am_y m_X12_smooths = yX12_smooths := rfl
theorem dd_X12_smooths : am_d m_X12_smooths = 3 := rfl
theorem hl_X12_smooths : am_hl m_X12_smooths = [] := rfl
theorem hh_X12_smooths : am_h m_X12_smooths = [] := rfl
theorem bb_X1_fromKept : am_b m_X1_fromKept = cX1_fromKept := rfl
theorem nn_X1_fromKept : am_n m_X1_fromKept = 5 := rfl
theorem oo_X1_fromKept : am_o m_X1_fromKept = RX1 := rfl
theorem yy_X1_fromKept : am_y m_X1_fromKept = yX1_fromKept := rfl
theorem dd_X1_fromKept : am_d m_X1_fromKept = 3 := rfl
theorem hl_X1_fromKept : am_hl m_X1_fromKept = [] := rfl
theorem hh_X1_fromKept : am_h m_X1_fromKept = [] := rfl
theorem bb_X1_init : am_b m_X1_init = cX1_init := rfl
theorem nn_X1_init : am_n m_X1_init = 1 := rfl
theorem oo_X1_init : am_o m_X1_init = RX1 := rfl
theorem yy_X1_init : am_y m_X1_init = yX1_init := rfl
theorem dd_X1_init : am_d m_X1_init = 3 := rfl
theorem hl_X1_init : am_hl m_X1_init = [] := rfl
theorem hh_X1_init : am_h m_X1_init = [] := rfl
theorem bb_X1_smooth : am_b m_X1_smooth = cX1_smooth := rfl
theorem nn_X1_smooth : am_n m_X1_smooth = 6 := rfl
theorem oo_X1_smooth : am_o m_X1_smooth = RX1 := rfl
theorem yy_X1_smooth : am_y m_X1_smooth = yX1_smooth := rfl
theorem dd_X1_smooth : am_d m_X1_smooth = 3 := rfl
theorem hl_X1_smooth : am_hl m_X1_smooth = [] := rfl
theorem hh_X1_smooth : am_h m_X1_smooth = [] := rfl
theorem bb_X1_takeBorder : am_b m_X1_takeBorder = cX1_takeBorder := rfl
theorem nn_X1_takeBorder : am_n m_X1_takeBorder = 7 := rfl
theorem oo_X1_takeBorder : am_o m_X1_takeBorder = RX1 := rfl
theorem yy_X1_takeBorder : am_y m_X1_takeBorder = yX1_takeBorder := rfl
theorem dd_X1_takeBorder : am_d m_X1_takeBorder = 3 := rfl
theorem hl_X1_takeBorder : am_hl m_X1_takeBorder = [] := rfl
theorem hh_X1_takeBorder : am_h m_X1_takeBorder = [] := rfl
theorem bb_X1_transform : am_b m_X1_transform = cX1_transform := rfl
theorem nn_X1_transform : am_n m_X1_transform = 2 := rfl
theorem oo_X1_transform : am_o m_X1_transform = RX1 := rfl
theorem yy_X1_transform : am_y m_X1_transform = yX1_transform := rfl
theorem dd_X1_transform : am_d m_X1_transform = 3 := rfl
theorem hl_X1_transform : am_hl m_X1_transform = [] := rfl
theorem hh_X1_transform : am_h m_X1_transform = [] := rfl
theorem bb_X4_costOf : am_b m_X4_costOf = cX4_costOf := rfl
theorem nn_X4_costOf : am_n m_X4_costOf = 9 := rfl
theorem oo_X4_costOf : am_o m_X4_costOf = RX4 := rfl
theorem yy_X4_costOf : am_y m_X4_costOf = yX4_costOf := rfl
theorem dd_X4_costOf : am_d m_X4_costOf = 3 := rfl
theorem hl_X4_costOf : am_hl m_X4_costOf = [] := rfl
theorem hh_X4_costOf : am_h m_X4_costOf = [] := rfl
theorem bb_X4_take : am_b m_X4_take = cX4_take := rfl
theorem nn_X4_take : am_n m_X4_take = 5 := rfl
theorem oo_X4_take : am_o m_X4_take = RX4 := rfl
theorem yy_X4_take : am_y m_X4_take = yX4_take := rfl
theorem dd_X4_take : am_d m_X4_take = 3 := rfl
theorem hl_X4_take : am_hl m_X4_take = [] := rfl
theorem hh_X4_take : am_h m_X4_take = [] := rfl
theorem bb_X5_extraCost : am_b m_X5_extraCost = cX5_extraCost := rfl
theorem nn_X5_extraCost : am_n m_X5_extraCost = 2 := rfl
theorem oo_X5_extraCost : am_o m_X5_extraCost = RX5 := rfl
theorem yy_X5_extraCost : am_y m_X5_extraCost = yX5_extraCost := rfl
theorem dd_X5_extraCost : am_d m_X5_extraCost = 3 := rfl
theorem hl_X5_extraCost : am_hl m_X5_extraCost = [] := rfl
theorem hh_X5_extraCost : am_h m_X5_extraCost = [] := rfl
theorem bb_X6_recall : am_b m_X6_recall = cX6_recall := rfl
theorem nn_X6_recall : am_n m_X6_recall = 4 := rfl
theorem oo_X6_recall : am_o m_X6_recall = RX6 := rfl
theorem yy_X6_recall : am_y m_X6_recall = yX6_recall := rfl
theorem dd_X6_recall : am_d m_X6_recall = 3 := rfl
theorem hl_X6_recall : am_hl m_X6_recall = [] := rfl
theorem hh_X6_recall : am_h m_X6_recall = [] := rfl
theorem bb_X6_startsPart : am_b m_X6_startsPart = cX6_startsPart := rfl
theorem nn_X6_startsPart : am_n m_X6_startsPart = 2 := rfl
theorem oo_X6_startsPart : am_o m_X6_startsPart = RX6 := rfl
theorem yy_X6_startsPart : am_y m_X6_startsPart = yX6_startsPart := rfl
theorem dd_X6_startsPart : am_d m_X6_startsPart = 3 := rfl
theorem hl_X6_startsPart : am_hl m_X6_startsPart = [] := rfl
theorem hh_X6_startsPart : am_h m_X6_startsPart = [] := rfl
theorem bb_X8_init : am_b m_X8_init = cX8_init := rfl
theorem nn_X8_init : am_n m_X8_init = 1 := rfl
theorem oo_X8_init : am_o m_X8_init = RX8 := rfl
theorem yy_X8_init : am_y m_X8_init = yX8_init := rfl
theorem dd_X8_init : am_d m_X8_init = 3 := rfl
theorem hl_X8_init : am_hl m_X8_init = [] := rfl
theorem hh_X8_init : am_h m_X8_init = [] := rfl
theorem bb_X8_slice : am_b m_X8_slice = cX8_slice := rfl
theorem nn_X8_slice : am_n m_X8_slice = 2 := rfl
theorem oo_X8_slice : am_o m_X8_slice = RX8 := rfl
theorem yy_X8_slice : am_y m_X8_slice = yX8_slice := rfl
theorem dd_X8_slice : am_d m_X8_slice = 3 := rfl
theorem hl_X8_slice : am_hl m_X8_slice = [] := rfl
theorem hh_X8_slice : am_h m_X8_slice = [] := rfl
theorem bb_X10_number : am_b m_X10_number = cX10_number := rfl
theorem nn_X10_number : am_n m_X10_number = 7 := rfl
theorem oo_X10_number : am_o m_X10_number = RX10 := rfl
theorem yy_X10_number : am_y m_X10_number = yX10_number := rfl
theorem dd_X10_number : am_d m_X10_number = 4 := rfl
theorem hl_X10_number : am_hl m_X10_number = [] := rfl
theorem hh_X10_number : am_h m_X10_number = [] := rfl
theorem bb_X12_built : am_b m_X12_built = cX12_built := rfl
theorem nn_X12_built : am_n m_X12_built = 4 := rfl
theorem oo_X12_built : am_o m_X12_built = RX12 := rfl
theorem yy_X12_built : am_y m_X12_built = yX12_built := rfl
theorem dd_X12_built : am_d m_X12_built = 4 := rfl
theorem hl_X12_built : am_hl m_X12_built = [] := rfl
theorem hh_X12_built : am_h m_X12_built = [] := rfl
theorem bb_X12_byVector : am_b m_X12_byVector = cX12_byVector := rfl
theorem nn_X12_byVector : am_n m_X12_byVector = 10 := rfl
theorem oo_X12_byVector : am_o m_X12_byVector = RX12 := rfl
theorem yy_X12_byVector : am_y m_X12_byVector = yX12_byVector := rfl
theorem dd_X12_byVector : am_d m_X12_byVector = 4 := rfl
theorem hl_X12_byVector : am_hl m_X12_byVector = [] := rfl
theorem hh_X12_byVector : am_h m_X12_byVector = [] := rfl
theorem bb_X12_levelAt : am_b m_X12_levelAt = cX12_levelAt := rfl
theorem nn_X12_levelAt : am_n m_X12_levelAt = 4 := rfl
theorem oo_X12_levelAt : am_o m_X12_levelAt = RX12 := rfl
theorem yy_X12_levelAt : am_y m_X12_levelAt = yX12_levelAt := rfl
theorem dd_X12_levelAt : am_d m_X12_levelAt = 4 := rfl
theorem hl_X12_levelAt : am_hl m_X12_levelAt = [] := rfl
theorem hh_X12_levelAt : am_h m_X12_levelAt = [] := rfl
theorem bb_X12_modeAt : am_b m_X12_modeAt = cX12_modeAt := rfl
theorem nn_X12_modeAt : am_n m_X12_modeAt = 4 := rfl
theorem oo_X12_modeAt : am_o m_X12_modeAt = RX12 := rfl
theorem yy_X12_modeAt : am_y m_X12_modeAt = yX12_modeAt := rfl
theorem dd_X12_modeAt : am_d m_X12_modeAt = 4 := rfl
theorem hl_X12_modeAt : am_hl m_X12_modeAt = [] := rfl
theorem hh_X12_modeAt : am_h m_X12_modeAt = [] := rfl
theorem bb_X12_partAt : am_b m_X12_partAt = cX12_partAt := rfl
theorem nn_X12_partAt : am_n m_X12_partAt = 4 := rfl
theorem oo_X12_partAt : am_o m_X12_partAt = RX12 := rfl
theorem yy_X12_partAt : am_y m_X12_partAt = yX12_partAt := rfl
theorem dd_X12_partAt : am_d m_X12_partAt = 4 := rfl
theorem hl_X12_partAt : am_hl m_X12_partAt = [] := rfl
theorem hh_X12_partAt : am_h m_X12_partAt = [] := rfl
theorem bb_X12_saysSquare : am_b m_X12_saysSquare = cX12_saysSquare := rfl
theorem nn_X12_saysSquare : am_n m_X12_saysSquare = 7 := rfl
theorem oo_X12_saysSquare : am_o m_X12_saysSquare = RX12 := rfl
theorem yy_X12_saysSquare : am_y m_X12_saysSquare = yX12_saysSquare := rfl
theorem dd_X12_saysSquare : am_d m_X12_saysSquare = 4 := rfl
theorem hl_X12_saysSquare : am_hl m_X12_saysSquare = [] := rfl
theorem hh_X12_saysSquare : am_h m_X12_saysSquare = [] := rfl
theorem bb_X12_saysVector : am_b m_X12_saysVector = cX12_saysVector := rfl
theorem nn_X12_saysVector : am_n m_X12_saysVector = 5 := rfl
theorem oo_X12_saysVector : am_o m_X12_saysVector = RX12 := rfl
theorem yy_X12_saysVector : am_y m_X12_saysVector = yX12_saysVector := rfl
theorem dd_X12_saysVector : am_d m_X12_saysVector = 4 := rfl
theorem hl_X12_saysVector : am_hl m_X12_saysVector = [] := rfl
theorem hh_X12_saysVector : am_h m_X12_saysVector = [] := rfl
theorem bb_X12_vectorAt : am_b m_X12_vectorAt = cX12_vectorAt := rfl
theorem nn_X12_vectorAt : am_n m_X12_vectorAt = 7 := rfl
theorem oo_X12_vectorAt : am_o m_X12_vectorAt = RX12 := rfl
theorem yy_X12_vectorAt : am_y m_X12_vectorAt = yX12_vectorAt := rfl
theorem dd_X12_vectorAt : am_d m_X12_vectorAt = 4 := rfl
theorem hl_X12_vectorAt : am_hl m_X12_vectorAt = [] := rfl
theorem hh_X12_vectorAt : am_h m_X12_vectorAt = [] := rfl
theorem bb_X1_buildSquare : am_b m_X1_buildSquare = cX1_buildSquare := rfl
theorem nn_X1_buildSquare : am_n m_X1_buildSquare = 7 := rfl
theorem oo_X1_buildSquare : am_o m_X1_buildSquare = RX1 := rfl
theorem yy_X1_buildSquare : am_y m_X1_buildSquare = yX1_buildSquare := rfl
theorem dd_X1_buildSquare : am_d m_X1_buildSquare = 4 := rfl
theorem hl_X1_buildSquare : am_hl m_X1_buildSquare = [] := rfl
theorem hh_X1_buildSquare : am_h m_X1_buildSquare = [] := rfl
theorem bb_X1_guessPart : am_b m_X1_guessPart = cX1_guessPart := rfl
theorem nn_X1_guessPart : am_n m_X1_guessPart = 5 := rfl
theorem oo_X1_guessPart : am_o m_X1_guessPart = RX1 := rfl
theorem yy_X1_guessPart : am_y m_X1_guessPart = yX1_guessPart := rfl
theorem dd_X1_guessPart : am_d m_X1_guessPart = 4 := rfl
theorem hl_X1_guessPart : am_hl m_X1_guessPart = [] := rfl
theorem hh_X1_guessPart : am_h m_X1_guessPart = [] := rfl
theorem bb_X1_levelSquare : am_b m_X1_levelSquare = cX1_levelSquare := rfl
theorem nn_X1_levelSquare : am_n m_X1_levelSquare = 6 := rfl
theorem oo_X1_levelSquare : am_o m_X1_levelSquare = RX1 := rfl
theorem yy_X1_levelSquare : am_y m_X1_levelSquare = yX1_levelSquare := rfl
theorem dd_X1_levelSquare : am_d m_X1_levelSquare = 4 := rfl
theorem hl_X1_levelSquare : am_hl m_X1_levelSquare = [] := rfl
theorem hh_X1_levelSquare : am_h m_X1_levelSquare = [] := rfl
theorem bb_X2_init : am_b m_X2_init = cX2_init := rfl
theorem nn_X2_init : am_n m_X2_init = 1 := rfl
theorem oo_X2_init : am_o m_X2_init = RX2 := rfl
theorem yy_X2_init : am_y m_X2_init = yX2_init := rfl
theorem dd_X2_init : am_d m_X2_init = 4 := rfl
theorem hl_X2_init : am_hl m_X2_init = [] := rfl
theorem hh_X2_init : am_h m_X2_init = [] := rfl
theorem bb_X2_lean : am_b m_X2_lean = cX2_lean := rfl
theorem nn_X2_lean : am_n m_X2_lean = 4 := rfl
theorem oo_X2_lean : am_o m_X2_lean = RX2 := rfl
theorem yy_X2_lean : am_y m_X2_lean = yX2_lean := rfl
theorem dd_X2_lean : am_d m_X2_lean = 4 := rfl
theorem hl_X2_lean : am_hl m_X2_lean = [] := rfl
theorem hh_X2_lean : am_h m_X2_lean = [] := rfl
theorem bb_X2_search : am_b m_X2_search = cX2_search := rfl
theorem nn_X2_search : am_n m_X2_search = 11 := rfl
theorem oo_X2_search : am_o m_X2_search = RX2 := rfl
theorem yy_X2_search : am_y m_X2_search = yX2_search := rfl
theorem dd_X2_search : am_d m_X2_search = 4 := rfl
theorem hl_X2_search : am_hl m_X2_search = [] := rfl
theorem hh_X2_search : am_h m_X2_search = [] := rfl
theorem bb_X3_init : am_b m_X3_init = cX3_init := rfl
theorem nn_X3_init : am_n m_X3_init = 1 := rfl
theorem oo_X3_init : am_o m_X3_init = RX3 := rfl
theorem yy_X3_init : am_y m_X3_init = yX3_init := rfl
theorem dd_X3_init : am_d m_X3_init = 4 := rfl
theorem hl_X3_init : am_hl m_X3_init = [] := rfl
theorem hh_X3_init : am_h m_X3_init = [] := rfl
theorem bb_X6_partsInMode : am_b m_X6_partsInMode = cX6_partsInMode := rfl
theorem nn_X6_partsInMode : am_n m_X6_partsInMode = 4 := rfl
theorem oo_X6_partsInMode : am_o m_X6_partsInMode = RX6 := rfl
theorem yy_X6_partsInMode : am_y m_X6_partsInMode = yX6_partsInMode := rfl
theorem dd_X6_partsInMode : am_d m_X6_partsInMode = 4 := rfl
theorem hl_X6_partsInMode : am_hl m_X6_partsInMode = [] := rfl
theorem hh_X6_partsInMode : am_h m_X6_partsInMode = [] := rfl
theorem bb_X8_writeLastPlace : am_b m_X8_writeLastPlace = cX8_writeLastPlace := rfl
theorem nn_X8_writeLastPlace : am_n m_X8_writeLastPlace = 5 := rfl
theorem oo_X8_writeLastPlace : am_o m_X8_writeLastPlace = RX8 := rfl
theorem yy_X8_writeLastPlace : am_y m_X8_writeLastPlace = yX8_writeLastPlace := rfl
theorem dd_X8_writeLastPlace : am_d m_X8_writeLastPlace = 4 := rfl
theorem hl_X8_writeLastPlace : am_hl m_X8_writeLastPlace = [] := rfl
theorem hh_X8_writeLastPlace : am_h m_X8_writeLastPlace = [] := rfl
theorem bb_X8_writeMode : am_b m_X8_writeMode = cX8_writeMode := rfl
theorem nn_X8_writeMode : am_n m_X8_writeMode = 2 := rfl
theorem oo_X8_writeMode : am_o m_X8_writeMode = RX8 := rfl
theorem yy_X8_writeMode : am_y m_X8_writeMode = yX8_writeMode := rfl
theorem dd_X8_writeMode : am_d m_X8_writeMode = 4 := rfl
theorem hl_X8_writeMode : am_hl m_X8_writeMode = [] := rfl
theorem hh_X8_writeMode : am_h m_X8_writeMode = [] := rfl
theorem bb_X11_init : am_b m_X11_init = cX11_init := rfl
theorem nn_X11_init : am_n m_X11_init = 1 := rfl
theorem oo_X11_init : am_o m_X11_init = RX11 := rfl
theorem yy_X11_init : am_y m_X11_init = yX11_init := rfl
theorem dd_X11_init : am_d m_X11_init = 5 := rfl
theorem hl_X11_init : am_hl m_X11_init = [] := rfl
theorem hh_X11_init : am_h m_X11_init = [] := rfl
theorem bb_X12_byPictures : am_b m_X12_byPictures = cX12_byPictures := rfl
theorem nn_X12_byPictures : am_n m_X12_byPictures = 9 := rfl
theorem oo_X12_byPictures : am_o m_X12_byPictures = RX12 := rfl
theorem yy_X12_byPictures : am_y m_X12_byPictures = yX12_byPictures := rfl
theorem dd_X12_byPictures : am_d m_X12_byPictures = 5 := rfl
theorem hl_X12_byPictures : am_hl m_X12_byPictures = [] := rfl
theorem hh_X12_byPictures : am_h m_X12_byPictures = [] := rfl
theorem bb_X12_saysMode : am_b m_X12_saysMode = cX12_saysMode := rfl
theorem nn_X12_saysMode : am_n m_X12_saysMode = 3 := rfl
theorem oo_X12_saysMode : am_o m_X12_saysMode = RX12 := rfl
theorem yy_X12_saysMode : am_y m_X12_saysMode = yX12_saysMode := rfl
theorem dd_X12_saysMode : am_d m_X12_saysMode = 5 := rfl
theorem hl_X12_saysMode : am_hl m_X12_saysMode = [] := rfl
theorem hh_X12_saysMode : am_h m_X12_saysMode = [] := rfl
theorem bb_X2_choosePart : am_b m_X2_choosePart = cX2_choosePart := rfl
theorem nn_X2_choosePart : am_n m_X2_choosePart = 8 := rfl
theorem oo_X2_choosePart : am_o m_X2_choosePart = RX2 := rfl
theorem yy_X2_choosePart : am_y m_X2_choosePart = yX2_choosePart := rfl
theorem dd_X2_choosePart : am_d m_X2_choosePart = 5 := rfl
theorem hl_X2_choosePart : am_hl m_X2_choosePart = [] := rfl
theorem hh_X2_choosePart : am_h m_X2_choosePart = [] := rfl
theorem bb_X3_build : am_b m_X3_build = cX3_build := rfl
theorem nn_X3_build : am_n m_X3_build = 6 := rfl
theorem oo_X3_build : am_o m_X3_build = RX3 := rfl
theorem yy_X3_build : am_y m_X3_build = yX3_build := rfl
theorem dd_X3_build : am_d m_X3_build = 5 := rfl
theorem hl_X3_build : am_hl m_X3_build = [] := rfl
theorem hh_X3_build : am_h m_X3_build = [] := rfl
theorem bb_X8_writeSquare : am_b m_X8_writeSquare = cX8_writeSquare := rfl
theorem nn_X8_writeSquare : am_n m_X8_writeSquare = 6 := rfl
theorem oo_X8_writeSquare : am_o m_X8_writeSquare = RX8 := rfl
theorem yy_X8_writeSquare : am_y m_X8_writeSquare = yX8_writeSquare := rfl
theorem dd_X8_writeSquare : am_d m_X8_writeSquare = 5 := rfl
theorem hl_X8_writeSquare : am_hl m_X8_writeSquare = [] := rfl
theorem hh_X8_writeSquare : am_h m_X8_writeSquare = [] := rfl
theorem bb_X8_writeVector : am_b m_X8_writeVector = cX8_writeVector := rfl
theorem nn_X8_writeVector : am_n m_X8_writeVector = 6 := rfl
theorem oo_X8_writeVector : am_o m_X8_writeVector = RX8 := rfl
theorem yy_X8_writeVector : am_y m_X8_writeVector = yX8_writeVector := rfl
theorem dd_X8_writeVector : am_d m_X8_writeVector = 5 := rfl
theorem hl_X8_writeVector : am_hl m_X8_writeVector = [] := rfl
theorem hh_X8_writeVector : am_h m_X8_writeVector = [] := rfl
theorem bb_X12_costOf : am_b m_X12_costOf = cX12_costOf := rfl
theorem nn_X12_costOf : am_n m_X12_costOf = 10 := rfl
theorem oo_X12_costOf : am_o m_X12_costOf = RX12 := rfl
theorem yy_X12_costOf : am_y m_X12_costOf = yX12_costOf := rfl
theorem dd_X12_costOf : am_d m_X12_costOf = 6 := rfl
theorem hl_X12_costOf : am_hl m_X12_costOf = [] := rfl
theorem hh_X12_costOf : am_h m_X12_costOf = [] := rfl
theorem bb_X12_guesses : am_b m_X12_guesses = cX12_guesses := rfl
theorem nn_X12_guesses : am_n m_X12_guesses = 13 := rfl
theorem oo_X12_guesses : am_o m_X12_guesses = RX12 := rfl
theorem yy_X12_guesses : am_y m_X12_guesses = yX12_guesses := rfl
theorem dd_X12_guesses : am_d m_X12_guesses = 6 := rfl
theorem hl_X12_guesses : am_hl m_X12_guesses = [] := rfl
theorem hh_X12_guesses : am_h m_X12_guesses = [] := rfl
theorem bb_X12_saysPart : am_b m_X12_saysPart = cX12_saysPart := rfl
theorem nn_X12_saysPart : am_n m_X12_saysPart = 5 := rfl
theorem oo_X12_saysPart : am_o m_X12_saysPart = RX12 := rfl
theorem yy_X12_saysPart : am_y m_X12_saysPart = yX12_saysPart := rfl
theorem dd_X12_saysPart : am_d m_X12_saysPart = 6 := rfl
theorem hl_X12_saysPart : am_hl m_X12_saysPart = [] := rfl
theorem hh_X12_saysPart : am_h m_X12_saysPart = [] := rfl
theorem bb_X2_choose : am_b m_X2_choose = cX2_choose := rfl
theorem nn_X2_choose : am_n m_X2_choose = 7 := rfl
theorem oo_X2_choose : am_o m_X2_choose = RX2 := rfl
theorem yy_X2_choose : am_y m_X2_choose = yX2_choose := rfl
theorem dd_X2_choose : am_d m_X2_choose = 6 := rfl
theorem hl_X2_choose : am_hl m_X2_choose = [] := rfl
theorem hh_X2_choose : am_h m_X2_choose = [] := rfl
theorem bb_X3_receive : am_b m_X3_receive = cX3_receive := rfl
theorem nn_X3_receive : am_n m_X3_receive = 3 := rfl
theorem oo_X3_receive : am_o m_X3_receive = RX3 := rfl
theorem yy_X3_receive : am_y m_X3_receive = yX3_receive := rfl
theorem dd_X3_receive : am_d m_X3_receive = 6 := rfl
theorem hl_X3_receive : am_hl m_X3_receive = [] := rfl
theorem hh_X3_receive : am_h m_X3_receive = [] := rfl
theorem bb_X8_writeSlice : am_b m_X8_writeSlice = cX8_writeSlice := rfl
theorem nn_X8_writeSlice : am_n m_X8_writeSlice = 6 := rfl
theorem oo_X8_writeSlice : am_o m_X8_writeSlice = RX8 := rfl
theorem yy_X8_writeSlice : am_y m_X8_writeSlice = yX8_writeSlice := rfl
theorem dd_X8_writeSlice : am_d m_X8_writeSlice = 6 := rfl
theorem hl_X8_writeSlice : am_hl m_X8_writeSlice = [] := rfl
theorem hh_X8_writeSlice : am_h m_X8_writeSlice = [] := rfl
theorem bb_X12_builds : am_b m_X12_builds = cX12_builds := rfl
theorem nn_X12_builds : am_n m_X12_builds = 18 := rfl
theorem oo_X12_builds : am_o m_X12_builds = RX12 := rfl
theorem yy_X12_builds : am_y m_X12_builds = yX12_builds := rfl
theorem dd_X12_builds : am_d m_X12_builds = 7 := rfl
theorem hl_X12_builds : am_hl m_X12_builds = [] := rfl
theorem hh_X12_builds : am_h m_X12_builds = [] := rfl
theorem bb_X12_findsVector : am_b m_X12_findsVector = cX12_findsVector := rfl
theorem nn_X12_findsVector : am_n m_X12_findsVector = 12 := rfl
theorem oo_X12_findsVector : am_o m_X12_findsVector = RX12 := rfl
theorem yy_X12_findsVector : am_y m_X12_findsVector = yX12_findsVector := rfl
theorem dd_X12_findsVector : am_d m_X12_findsVector = 7 := rfl
theorem hl_X12_findsVector : am_hl m_X12_findsVector = [] := rfl
theorem hh_X12_findsVector : am_h m_X12_findsVector = [] := rfl
theorem bb_X12_slice : am_b m_X12_slice = cX12_slice := rfl
theorem nn_X12_slice : am_n m_X12_slice = 8 := rfl
theorem oo_X12_slice : am_o m_X12_slice = RX12 := rfl
theorem yy_X12_slice : am_y m_X12_slice = yX12_slice := rfl
theorem dd_X12_slice : am_d m_X12_slice = 7 := rfl
theorem hl_X12_slice : am_hl m_X12_slice = [] := rfl
theorem hh_X12_slice : am_h m_X12_slice = [] := rfl
theorem bb_X11_bucket : am_b m_X11_bucket = cX11_bucket := rfl
theorem nn_X11_bucket : am_n m_X11_bucket = 1 := rfl
theorem oo_X11_bucket : am_o m_X11_bucket = RX11 := rfl
theorem yy_X11_bucket : am_y m_X11_bucket = yX11_bucket := rfl
theorem dd_X11_bucket : am_d m_X11_bucket = 8 := rfl
theorem hl_X11_bucket : am_hl m_X11_bucket = [] := rfl
theorem hh_X11_bucket : am_h m_X11_bucket = [] := rfl
theorem bb_X11_cleanShare : am_b m_X11_cleanShare = cX11_cleanShare := rfl
theorem nn_X11_cleanShare : am_n m_X11_cleanShare = 1 := rfl
theorem oo_X11_cleanShare : am_o m_X11_cleanShare = RX11 := rfl
theorem yy_X11_cleanShare : am_y m_X11_cleanShare = yX11_cleanShare := rfl
theorem dd_X11_cleanShare : am_d m_X11_cleanShare = 8 := rfl
theorem hl_X11_cleanShare : am_hl m_X11_cleanShare = [] := rfl
theorem hh_X11_cleanShare : am_h m_X11_cleanShare = [] := rfl
theorem bb_X11_fill : am_b m_X11_fill = cX11_fill := rfl
theorem nn_X11_fill : am_n m_X11_fill = 10 := rfl
theorem oo_X11_fill : am_o m_X11_fill = RX11 := rfl
theorem yy_X11_fill : am_y m_X11_fill = yX11_fill := rfl
theorem dd_X11_fill : am_d m_X11_fill = 8 := rfl
theorem hl_X11_fill : am_hl m_X11_fill = [] := rfl
theorem hh_X11_fill : am_h m_X11_fill = [] := rfl
theorem bb_X11_grain : am_b m_X11_grain = cX11_grain := rfl
theorem nn_X11_grain : am_n m_X11_grain = 6 := rfl
theorem oo_X11_grain : am_o m_X11_grain = RX11 := rfl
theorem yy_X11_grain : am_y m_X11_grain = yX11_grain := rfl
theorem dd_X11_grain : am_d m_X11_grain = 8 := rfl
theorem hl_X11_grain : am_hl m_X11_grain = [] := rfl
theorem hh_X11_grain : am_h m_X11_grain = [] := rfl
theorem bb_X11_join : am_b m_X11_join = cX11_join := rfl
theorem nn_X11_join : am_n m_X11_join = 3 := rfl
theorem oo_X11_join : am_o m_X11_join = RX11 := rfl
theorem yy_X11_join : am_y m_X11_join = yX11_join := rfl
theorem dd_X11_join : am_d m_X11_join = 8 := rfl
theorem hl_X11_join : am_hl m_X11_join = [] := rfl
theorem hh_X11_join : am_h m_X11_join = [] := rfl
theorem bb_X11_keptAt : am_b m_X11_keptAt = cX11_keptAt := rfl
theorem nn_X11_keptAt : am_n m_X11_keptAt = 2 := rfl
theorem oo_X11_keptAt : am_o m_X11_keptAt = RX11 := rfl
theorem yy_X11_keptAt : am_y m_X11_keptAt = yX11_keptAt := rfl
theorem dd_X11_keptAt : am_d m_X11_keptAt = 8 := rfl
theorem hl_X11_keptAt : am_hl m_X11_keptAt = [] := rfl
theorem hh_X11_keptAt : am_h m_X11_keptAt = [] := rfl
theorem bb_X11_move : am_b m_X11_move = cX11_move := rfl
theorem nn_X11_move : am_n m_X11_move = 6 := rfl
theorem oo_X11_move : am_o m_X11_move = RX11 := rfl
theorem yy_X11_move : am_y m_X11_move = yX11_move := rfl
theorem dd_X11_move : am_d m_X11_move = 8 := rfl
theorem hl_X11_move : am_hl m_X11_move = [] := rfl
theorem hh_X11_move : am_h m_X11_move = [] := rfl
theorem bb_X11_pictureAt : am_b m_X11_pictureAt = cX11_pictureAt := rfl
theorem nn_X11_pictureAt : am_n m_X11_pictureAt = 3 := rfl
theorem oo_X11_pictureAt : am_o m_X11_pictureAt = RX11 := rfl
theorem yy_X11_pictureAt : am_y m_X11_pictureAt = yX11_pictureAt := rfl
theorem dd_X11_pictureAt : am_d m_X11_pictureAt = 8 := rfl
theorem hl_X11_pictureAt : am_hl m_X11_pictureAt = [] := rfl
theorem hh_X11_pictureAt : am_h m_X11_pictureAt = [] := rfl
theorem bb_X11_refuseNoPixel : am_b m_X11_refuseNoPixel = cX11_refuseNoPixel := rfl
theorem nn_X11_refuseNoPixel : am_n m_X11_refuseNoPixel = 2 := rfl
theorem oo_X11_refuseNoPixel : am_o m_X11_refuseNoPixel = RX11 := rfl
theorem yy_X11_refuseNoPixel : am_y m_X11_refuseNoPixel = yX11_refuseNoPixel := rfl
theorem dd_X11_refuseNoPixel : am_d m_X11_refuseNoPixel = 8 := rfl
theorem hl_X11_refuseNoPixel : am_hl m_X11_refuseNoPixel = [] := rfl
theorem hh_X11_refuseNoPixel : am_h m_X11_refuseNoPixel = [] := rfl
theorem bb_X11_refuseNothingShown : am_b m_X11_refuseNothingShown = cX11_refuseNothingShown := rfl
theorem nn_X11_refuseNothingShown : am_n m_X11_refuseNothingShown = 1 := rfl
theorem oo_X11_refuseNothingShown : am_o m_X11_refuseNothingShown = RX11 := rfl
theorem yy_X11_refuseNothingShown : am_y m_X11_refuseNothingShown = yX11_refuseNothingShown := rfl
theorem dd_X11_refuseNothingShown : am_d m_X11_refuseNothingShown = 8 := rfl
theorem hl_X11_refuseNothingShown : am_hl m_X11_refuseNothingShown = [] := rfl
theorem hh_X11_refuseNothingShown : am_h m_X11_refuseNothingShown = [] := rfl
theorem bb_X11_setBucket : am_b m_X11_setBucket = cX11_setBucket := rfl
theorem nn_X11_setBucket : am_n m_X11_setBucket = 4 := rfl
theorem oo_X11_setBucket : am_o m_X11_setBucket = RX11 := rfl
theorem yy_X11_setBucket : am_y m_X11_setBucket = yX11_setBucket := rfl
theorem dd_X11_setBucket : am_d m_X11_setBucket = 8 := rfl
theorem hl_X11_setBucket : am_hl m_X11_setBucket = [] := rfl
theorem hh_X11_setBucket : am_h m_X11_setBucket = [] := rfl
theorem bb_X11_setCoarseness : am_b m_X11_setCoarseness = cX11_setCoarseness := rfl
theorem nn_X11_setCoarseness : am_n m_X11_setCoarseness = 3 := rfl
theorem oo_X11_setCoarseness : am_o m_X11_setCoarseness = RX11 := rfl
theorem yy_X11_setCoarseness : am_y m_X11_setCoarseness = yX11_setCoarseness := rfl
theorem dd_X11_setCoarseness : am_d m_X11_setCoarseness = 8 := rfl
theorem hl_X11_setCoarseness : am_hl m_X11_setCoarseness = [] := rfl
theorem hh_X11_setCoarseness : am_h m_X11_setCoarseness = [] := rfl
theorem bb_X11_setSlices : am_b m_X11_setSlices = cX11_setSlices := rfl
theorem nn_X11_setSlices : am_n m_X11_setSlices = 3 := rfl
theorem oo_X11_setSlices : am_o m_X11_setSlices = RX11 := rfl
theorem yy_X11_setSlices : am_y m_X11_setSlices = yX11_setSlices := rfl
theorem dd_X11_setSlices : am_d m_X11_setSlices = 8 := rfl
theorem hl_X11_setSlices : am_hl m_X11_setSlices = [] := rfl
theorem hh_X11_setSlices : am_h m_X11_setSlices = [] := rfl
theorem bb_X11_setTools : am_b m_X11_setTools = cX11_setTools := rfl
theorem nn_X11_setTools : am_n m_X11_setTools = 3 := rfl
theorem oo_X11_setTools : am_o m_X11_setTools = RX11 := rfl
theorem yy_X11_setTools : am_y m_X11_setTools = yX11_setTools := rfl
theorem dd_X11_setTools : am_d m_X11_setTools = 8 := rfl
theorem hl_X11_setTools : am_hl m_X11_setTools = [] := rfl
theorem hh_X11_setTools : am_h m_X11_setTools = [] := rfl
theorem bb_X11_slope : am_b m_X11_slope = cX11_slope := rfl
theorem nn_X11_slope : am_n m_X11_slope = 6 := rfl
theorem oo_X11_slope : am_o m_X11_slope = RX11 := rfl
theorem yy_X11_slope : am_y m_X11_slope = yX11_slope := rfl
theorem dd_X11_slope : am_d m_X11_slope = 8 := rfl
theorem hl_X11_slope : am_hl m_X11_slope = [] := rfl
theorem hh_X11_slope : am_h m_X11_slope = [] := rfl
theorem bb_X12_decodes : am_b m_X12_decodes = cX12_decodes := rfl
theorem nn_X12_decodes : am_n m_X12_decodes = 14 := rfl
theorem oo_X12_decodes : am_o m_X12_decodes = RX12 := rfl
theorem yy_X12_decodes : am_y m_X12_decodes = yX12_decodes := rfl
theorem dd_X12_decodes : am_d m_X12_decodes = 8 := rfl
theorem hl_X12_decodes : am_hl m_X12_decodes = [] := rfl
theorem hh_X12_decodes : am_h m_X12_decodes = [] := rfl
theorem bb_X12_modeFor : am_b m_X12_modeFor = cX12_modeFor := rfl
theorem nn_X12_modeFor : am_n m_X12_modeFor = 9 := rfl
theorem oo_X12_modeFor : am_o m_X12_modeFor = RX12 := rfl
theorem yy_X12_modeFor : am_y m_X12_modeFor = yX12_modeFor := rfl
theorem dd_X12_modeFor : am_d m_X12_modeFor = 8 := rfl
theorem hl_X12_modeFor : am_hl m_X12_modeFor = [] := rfl
theorem hh_X12_modeFor : am_h m_X12_modeFor = [] := rfl
theorem bb_L_bucket : am_b m_L_bucket = cL_bucket := rfl
theorem nn_L_bucket : am_n m_L_bucket = 3 := rfl
theorem oo_L_bucket : am_o m_L_bucket = RL := rfl
theorem yy_L_bucket : am_y m_L_bucket = yL_bucket := rfl
theorem dd_L_bucket : am_d m_L_bucket = 9 := rfl
theorem hl_L_bucket : am_hl m_L_bucket = [(4, 12, 2)] := rfl
theorem bb_L_cleanShare : am_b m_L_cleanShare = cL_cleanShare := rfl
theorem nn_L_cleanShare : am_n m_L_cleanShare = 3 := rfl
theorem oo_L_cleanShare : am_o m_L_cleanShare = RL := rfl
theorem yy_L_cleanShare : am_y m_L_cleanShare = yL_cleanShare := rfl
theorem dd_L_cleanShare : am_d m_L_cleanShare = 9 := rfl
theorem hl_L_cleanShare : am_hl m_L_cleanShare = [(5, 12, 2)] := rfl
theorem bb_L_fill : am_b m_L_fill = cL_fill := rfl
theorem nn_L_fill : am_n m_L_fill = 8 := rfl
theorem oo_L_fill : am_o m_L_fill = RL := rfl
theorem yy_L_fill : am_y m_L_fill = yL_fill := rfl
theorem dd_L_fill : am_d m_L_fill = 9 := rfl
theorem hl_L_fill : am_hl m_L_fill = [(0, 21, 7)] := rfl
theorem bb_L_grain : am_b m_L_grain = cL_grain := rfl
theorem nn_L_grain : am_n m_L_grain = 5 := rfl
theorem oo_L_grain : am_o m_L_grain = RL := rfl
theorem yy_L_grain : am_y m_L_grain = yL_grain := rfl
theorem dd_L_grain : am_d m_L_grain = 9 := rfl
theorem hl_L_grain : am_hl m_L_grain = [(0, 15, 4)] := rfl
theorem bb_L_join : am_b m_L_join = cL_join := rfl
theorem nn_L_join : am_n m_L_join = 4 := rfl
theorem oo_L_join : am_o m_L_join = RL := rfl
theorem yy_L_join : am_y m_L_join = yL_join := rfl
theorem dd_L_join : am_d m_L_join = 9 := rfl
theorem hl_L_join : am_hl m_L_join = [(1, 13, 3)] := rfl
theorem bb_L_keptAt : am_b m_L_keptAt = cL_keptAt := rfl
theorem nn_L_keptAt : am_n m_L_keptAt = 4 := rfl
theorem oo_L_keptAt : am_o m_L_keptAt = RL := rfl
theorem yy_L_keptAt : am_y m_L_keptAt = yL_keptAt := rfl
theorem dd_L_keptAt : am_d m_L_keptAt = 9 := rfl
theorem hl_L_keptAt : am_hl m_L_keptAt = [(1, 13, 3)] := rfl
theorem bb_L_move : am_b m_L_move = cL_move := rfl
theorem nn_L_move : am_n m_L_move = 5 := rfl
theorem oo_L_move : am_o m_L_move = RL := rfl
theorem yy_L_move : am_y m_L_move = yL_move := rfl
theorem dd_L_move : am_d m_L_move = 9 := rfl
theorem hl_L_move : am_hl m_L_move = [(0, 15, 4)] := rfl
theorem bb_L_setBucket : am_b m_L_setBucket = cL_setBucket := rfl
theorem nn_L_setBucket : am_n m_L_setBucket = 5 := rfl
theorem oo_L_setBucket : am_o m_L_setBucket = RL := rfl
theorem yy_L_setBucket : am_y m_L_setBucket = yL_setBucket := rfl
theorem dd_L_setBucket : am_d m_L_setBucket = 9 := rfl
theorem hl_L_setBucket : am_hl m_L_setBucket = [(0, 15, 4)] := rfl
theorem bb_L_setCoarseness : am_b m_L_setCoarseness = cL_setCoarseness := rfl
theorem nn_L_setCoarseness : am_n m_L_setCoarseness = 4 := rfl
theorem oo_L_setCoarseness : am_o m_L_setCoarseness = RL := rfl
theorem yy_L_setCoarseness : am_y m_L_setCoarseness = yL_setCoarseness := rfl
theorem dd_L_setCoarseness : am_d m_L_setCoarseness = 9 := rfl
theorem hl_L_setCoarseness : am_hl m_L_setCoarseness = [(0, 13, 3)] := rfl
theorem bb_L_setSlices : am_b m_L_setSlices = cL_setSlices := rfl
theorem nn_L_setSlices : am_n m_L_setSlices = 4 := rfl
theorem oo_L_setSlices : am_o m_L_setSlices = RL := rfl
theorem yy_L_setSlices : am_y m_L_setSlices = yL_setSlices := rfl
theorem dd_L_setSlices : am_d m_L_setSlices = 9 := rfl
theorem hl_L_setSlices : am_hl m_L_setSlices = [(0, 13, 3)] := rfl
theorem bb_L_setTools : am_b m_L_setTools = cL_setTools := rfl
theorem nn_L_setTools : am_n m_L_setTools = 4 := rfl
theorem oo_L_setTools : am_o m_L_setTools = RL := rfl
theorem yy_L_setTools : am_y m_L_setTools = yL_setTools := rfl
theorem dd_L_setTools : am_d m_L_setTools = 9 := rfl
theorem hl_L_setTools : am_hl m_L_setTools = [(0, 13, 3)] := rfl
theorem bb_L_slope : am_b m_L_slope = cL_slope := rfl
theorem nn_L_slope : am_n m_L_slope = 6 := rfl
theorem oo_L_slope : am_o m_L_slope = RL := rfl
theorem yy_L_slope : am_y m_L_slope = yL_slope := rfl
theorem dd_L_slope : am_d m_L_slope = 9 := rfl
theorem hl_L_slope : am_hl m_L_slope = [(0, 17, 5)] := rfl
theorem bb_X11_built : am_b m_X11_built = cX11_built := rfl
theorem nn_X11_built : am_n m_X11_built = 5 := rfl
theorem oo_X11_built : am_o m_X11_built = RX11 := rfl
theorem yy_X11_built : am_y m_X11_built = yX11_built := rfl
theorem dd_X11_built : am_d m_X11_built = 9 := rfl
theorem hl_X11_built : am_hl m_X11_built = [] := rfl
theorem hh_X11_built : am_h m_X11_built = [] := rfl
theorem bb_X11_coarsenessOf : am_b m_X11_coarsenessOf = cX11_coarsenessOf := rfl
theorem nn_X11_coarsenessOf : am_n m_X11_coarsenessOf = 2 := rfl
theorem oo_X11_coarsenessOf : am_o m_X11_coarsenessOf = RX11 := rfl
theorem yy_X11_coarsenessOf : am_y m_X11_coarsenessOf = yX11_coarsenessOf := rfl
theorem dd_X11_coarsenessOf : am_d m_X11_coarsenessOf = 9 := rfl
theorem hl_X11_coarsenessOf : am_hl m_X11_coarsenessOf = [] := rfl
theorem hh_X11_coarsenessOf : am_h m_X11_coarsenessOf = [] := rfl
theorem bb_X11_commonest : am_b m_X11_commonest = cX11_commonest := rfl
theorem nn_X11_commonest : am_n m_X11_commonest = 6 := rfl
theorem oo_X11_commonest : am_o m_X11_commonest = RX11 := rfl
theorem yy_X11_commonest : am_y m_X11_commonest = yX11_commonest := rfl
theorem dd_X11_commonest : am_d m_X11_commonest = 9 := rfl
theorem hl_X11_commonest : am_hl m_X11_commonest = [] := rfl
theorem hh_X11_commonest : am_h m_X11_commonest = [] := rfl
theorem bb_X11_drift : am_b m_X11_drift = cX11_drift := rfl
theorem nn_X11_drift : am_n m_X11_drift = 4 := rfl
theorem oo_X11_drift : am_o m_X11_drift = RX11 := rfl
theorem yy_X11_drift : am_y m_X11_drift = yX11_drift := rfl
theorem dd_X11_drift : am_d m_X11_drift = 9 := rfl
theorem hl_X11_drift : am_hl m_X11_drift = [] := rfl
theorem hh_X11_drift : am_h m_X11_drift = [] := rfl
theorem bb_X11_errorOf : am_b m_X11_errorOf = cX11_errorOf := rfl
theorem nn_X11_errorOf : am_n m_X11_errorOf = 2 := rfl
theorem oo_X11_errorOf : am_o m_X11_errorOf = RX11 := rfl
theorem yy_X11_errorOf : am_y m_X11_errorOf = yX11_errorOf := rfl
theorem dd_X11_errorOf : am_d m_X11_errorOf = 9 := rfl
theorem hl_X11_errorOf : am_hl m_X11_errorOf = [] := rfl
theorem hh_X11_errorOf : am_h m_X11_errorOf = [] := rfl
theorem bb_X11_heavierThan : am_b m_X11_heavierThan = cX11_heavierThan := rfl
theorem nn_X11_heavierThan : am_n m_X11_heavierThan = 6 := rfl
theorem oo_X11_heavierThan : am_o m_X11_heavierThan = RX11 := rfl
theorem yy_X11_heavierThan : am_y m_X11_heavierThan = yX11_heavierThan := rfl
theorem dd_X11_heavierThan : am_d m_X11_heavierThan = 9 := rfl
theorem hl_X11_heavierThan : am_hl m_X11_heavierThan = [] := rfl
theorem hh_X11_heavierThan : am_h m_X11_heavierThan = [] := rfl
theorem bb_X11_isClean : am_b m_X11_isClean = cX11_isClean := rfl
theorem nn_X11_isClean : am_n m_X11_isClean = 1 := rfl
theorem oo_X11_isClean : am_o m_X11_isClean = RX11 := rfl
theorem yy_X11_isClean : am_y m_X11_isClean = yX11_isClean := rfl
theorem dd_X11_isClean : am_d m_X11_isClean = 9 := rfl
theorem hl_X11_isClean : am_hl m_X11_isClean = [] := rfl
theorem hh_X11_isClean : am_h m_X11_isClean = [] := rfl
theorem bb_X11_keptPixels : am_b m_X11_keptPixels = cX11_keptPixels := rfl
theorem nn_X11_keptPixels : am_n m_X11_keptPixels = 2 := rfl
theorem oo_X11_keptPixels : am_o m_X11_keptPixels = RX11 := rfl
theorem yy_X11_keptPixels : am_y m_X11_keptPixels = yX11_keptPixels := rfl
theorem dd_X11_keptPixels : am_d m_X11_keptPixels = 9 := rfl
theorem hl_X11_keptPixels : am_hl m_X11_keptPixels = [] := rfl
theorem hh_X11_keptPixels : am_h m_X11_keptPixels = [] := rfl
theorem bb_X11_kindOf : am_b m_X11_kindOf = cX11_kindOf := rfl
theorem nn_X11_kindOf : am_n m_X11_kindOf = 2 := rfl
theorem oo_X11_kindOf : am_o m_X11_kindOf = RX11 := rfl
theorem yy_X11_kindOf : am_y m_X11_kindOf = yX11_kindOf := rfl
theorem dd_X11_kindOf : am_d m_X11_kindOf = 9 := rfl
theorem hl_X11_kindOf : am_hl m_X11_kindOf = [] := rfl
theorem hh_X11_kindOf : am_h m_X11_kindOf = [] := rfl
theorem bb_X11_levelAt : am_b m_X11_levelAt = cX11_levelAt := rfl
theorem nn_X11_levelAt : am_n m_X11_levelAt = 5 := rfl
theorem oo_X11_levelAt : am_o m_X11_levelAt = RX11 := rfl
theorem yy_X11_levelAt : am_y m_X11_levelAt = yX11_levelAt := rfl
theorem dd_X11_levelAt : am_d m_X11_levelAt = 9 := rfl
theorem hl_X11_levelAt : am_hl m_X11_levelAt = [] := rfl
theorem hh_X11_levelAt : am_h m_X11_levelAt = [] := rfl
theorem bb_X11_meanBits : am_b m_X11_meanBits = cX11_meanBits := rfl
theorem nn_X11_meanBits : am_n m_X11_meanBits = 3 := rfl
theorem oo_X11_meanBits : am_o m_X11_meanBits = RX11 := rfl
theorem yy_X11_meanBits : am_y m_X11_meanBits = yX11_meanBits := rfl
theorem dd_X11_meanBits : am_d m_X11_meanBits = 9 := rfl
theorem hl_X11_meanBits : am_hl m_X11_meanBits = [] := rfl
theorem hh_X11_meanBits : am_h m_X11_meanBits = [] := rfl
theorem bb_X11_modeAt : am_b m_X11_modeAt = cX11_modeAt := rfl
theorem nn_X11_modeAt : am_n m_X11_modeAt = 5 := rfl
theorem oo_X11_modeAt : am_o m_X11_modeAt = RX11 := rfl
theorem yy_X11_modeAt : am_y m_X11_modeAt = yX11_modeAt := rfl
theorem dd_X11_modeAt : am_d m_X11_modeAt = 9 := rfl
theorem hl_X11_modeAt : am_hl m_X11_modeAt = [] := rfl
theorem hh_X11_modeAt : am_h m_X11_modeAt = [] := rfl
theorem bb_X11_partAt : am_b m_X11_partAt = cX11_partAt := rfl
theorem nn_X11_partAt : am_n m_X11_partAt = 5 := rfl
theorem oo_X11_partAt : am_o m_X11_partAt = RX11 := rfl
theorem yy_X11_partAt : am_y m_X11_partAt = yX11_partAt := rfl
theorem dd_X11_partAt : am_d m_X11_partAt = 9 := rfl
theorem hl_X11_partAt : am_hl m_X11_partAt = [] := rfl
theorem hh_X11_partAt : am_h m_X11_partAt = [] := rfl
theorem bb_X11_pixel : am_b m_X11_pixel = cX11_pixel := rfl
theorem nn_X11_pixel : am_n m_X11_pixel = 3 := rfl
theorem oo_X11_pixel : am_o m_X11_pixel = RX11 := rfl
theorem yy_X11_pixel : am_y m_X11_pixel = yX11_pixel := rfl
theorem dd_X11_pixel : am_d m_X11_pixel = 9 := rfl
theorem hl_X11_pixel : am_hl m_X11_pixel = [] := rfl
theorem hh_X11_pixel : am_h m_X11_pixel = [] := rfl
theorem bb_X11_send : am_b m_X11_send = cX11_send := rfl
theorem nn_X11_send : am_n m_X11_send = 3 := rfl
theorem oo_X11_send : am_o m_X11_send = RX11 := rfl
theorem yy_X11_send : am_y m_X11_send = yX11_send := rfl
theorem dd_X11_send : am_d m_X11_send = 9 := rfl
theorem hl_X11_send : am_hl m_X11_send = [] := rfl
theorem hh_X11_send : am_h m_X11_send = [] := rfl
theorem bb_X11_shown : am_b m_X11_shown = cX11_shown := rfl
theorem nn_X11_shown : am_n m_X11_shown = 1 := rfl
theorem oo_X11_shown : am_o m_X11_shown = RX11 := rfl
theorem yy_X11_shown : am_y m_X11_shown = yX11_shown := rfl
theorem dd_X11_shown : am_d m_X11_shown = 9 := rfl
theorem hl_X11_shown : am_hl m_X11_shown = [] := rfl
theorem hh_X11_shown : am_h m_X11_shown = [] := rfl
theorem bb_X11_shownAt : am_b m_X11_shownAt = cX11_shownAt := rfl
theorem nn_X11_shownAt : am_n m_X11_shownAt = 3 := rfl
theorem oo_X11_shownAt : am_o m_X11_shownAt = RX11 := rfl
theorem yy_X11_shownAt : am_y m_X11_shownAt = yX11_shownAt := rfl
theorem dd_X11_shownAt : am_d m_X11_shownAt = 9 := rfl
theorem hl_X11_shownAt : am_hl m_X11_shownAt = [] := rfl
theorem hh_X11_shownAt : am_h m_X11_shownAt = [] := rfl
theorem bb_X11_sliceAt : am_b m_X11_sliceAt = cX11_sliceAt := rfl
theorem nn_X11_sliceAt : am_n m_X11_sliceAt = 4 := rfl
theorem oo_X11_sliceAt : am_o m_X11_sliceAt = RX11 := rfl
theorem yy_X11_sliceAt : am_y m_X11_sliceAt = yX11_sliceAt := rfl
theorem dd_X11_sliceAt : am_d m_X11_sliceAt = 9 := rfl
theorem hl_X11_sliceAt : am_hl m_X11_sliceAt = [] := rfl
theorem hh_X11_sliceAt : am_h m_X11_sliceAt = [] := rfl
theorem bb_X11_vectorAt : am_b m_X11_vectorAt = cX11_vectorAt := rfl
theorem nn_X11_vectorAt : am_n m_X11_vectorAt = 7 := rfl
theorem oo_X11_vectorAt : am_o m_X11_vectorAt = RX11 := rfl
theorem yy_X11_vectorAt : am_y m_X11_vectorAt = yX11_vectorAt := rfl
theorem dd_X11_vectorAt : am_d m_X11_vectorAt = 9 := rfl
theorem hl_X11_vectorAt : am_hl m_X11_vectorAt = [] := rfl
theorem hh_X11_vectorAt : am_h m_X11_vectorAt = [] := rfl
theorem bb_X12_codesPart : am_b m_X12_codesPart = cX12_codesPart := rfl
theorem nn_X12_codesPart : am_n m_X12_codesPart = 9 := rfl
theorem oo_X12_codesPart : am_o m_X12_codesPart = RX12 := rfl
theorem yy_X12_codesPart : am_y m_X12_codesPart = yX12_codesPart := rfl
theorem dd_X12_codesPart : am_d m_X12_codesPart = 9 := rfl
theorem hl_X12_codesPart : am_hl m_X12_codesPart = [] := rfl
theorem hh_X12_codesPart : am_h m_X12_codesPart = [] := rfl
theorem bb_X12_send : am_b m_X12_send = cX12_send := rfl
theorem nn_X12_send : am_n m_X12_send = 4 := rfl
theorem oo_X12_send : am_o m_X12_send = RX12 := rfl
theorem yy_X12_send : am_y m_X12_send = yX12_send := rfl
theorem dd_X12_send : am_d m_X12_send = 9 := rfl
theorem hl_X12_send : am_hl m_X12_send = [] := rfl
theorem hh_X12_send : am_h m_X12_send = [] := rfl
theorem bb_L_built : am_b m_L_built = cL_built := rfl
theorem nn_L_built : am_n m_L_built = 6 := rfl
theorem oo_L_built : am_o m_L_built = RL := rfl
theorem yy_L_built : am_y m_L_built = yL_built := rfl
theorem dd_L_built : am_d m_L_built = 10 := rfl
theorem hl_L_built : am_hl m_L_built = [(1, 17, 5)] := rfl
theorem bb_L_coarsenessOf : am_b m_L_coarsenessOf = cL_coarsenessOf := rfl
theorem nn_L_coarsenessOf : am_n m_L_coarsenessOf = 4 := rfl
theorem oo_L_coarsenessOf : am_o m_L_coarsenessOf = RL := rfl
theorem yy_L_coarsenessOf : am_y m_L_coarsenessOf = yL_coarsenessOf := rfl
theorem dd_L_coarsenessOf : am_d m_L_coarsenessOf = 10 := rfl
theorem hl_L_coarsenessOf : am_hl m_L_coarsenessOf = [(1, 13, 3)] := rfl
theorem bb_L_commonest : am_b m_L_commonest = cL_commonest := rfl
theorem nn_L_commonest : am_n m_L_commonest = 3 := rfl
theorem oo_L_commonest : am_o m_L_commonest = RL := rfl
theorem yy_L_commonest : am_y m_L_commonest = yL_commonest := rfl
theorem dd_L_commonest : am_d m_L_commonest = 10 := rfl
theorem hl_L_commonest : am_hl m_L_commonest = [(4, 12, 2)] := rfl
theorem bb_L_drift : am_b m_L_drift = cL_drift := rfl
theorem nn_L_drift : am_n m_L_drift = 3 := rfl
theorem oo_L_drift : am_o m_L_drift = RL := rfl
theorem yy_L_drift : am_y m_L_drift = yL_drift := rfl
theorem dd_L_drift : am_d m_L_drift = 10 := rfl
theorem hl_L_drift : am_hl m_L_drift = [(4, 12, 2)] := rfl
theorem bb_L_errorOf : am_b m_L_errorOf = cL_errorOf := rfl
theorem nn_L_errorOf : am_n m_L_errorOf = 4 := rfl
theorem oo_L_errorOf : am_o m_L_errorOf = RL := rfl
theorem yy_L_errorOf : am_y m_L_errorOf = yL_errorOf := rfl
theorem dd_L_errorOf : am_d m_L_errorOf = 10 := rfl
theorem hl_L_errorOf : am_hl m_L_errorOf = [(1, 12, 3)] := rfl
theorem bb_L_isClean : am_b m_L_isClean = cL_isClean := rfl
theorem nn_L_isClean : am_n m_L_isClean = 3 := rfl
theorem oo_L_isClean : am_o m_L_isClean = RL := rfl
theorem yy_L_isClean : am_y m_L_isClean = yL_isClean := rfl
theorem dd_L_isClean : am_d m_L_isClean = 10 := rfl
theorem hl_L_isClean : am_hl m_L_isClean = [(4, 19, 2)] := rfl
theorem bb_L_kindOf : am_b m_L_kindOf = cL_kindOf := rfl
theorem nn_L_kindOf : am_n m_L_kindOf = 4 := rfl
theorem oo_L_kindOf : am_o m_L_kindOf = RL := rfl
theorem yy_L_kindOf : am_y m_L_kindOf = yL_kindOf := rfl
theorem dd_L_kindOf : am_d m_L_kindOf = 10 := rfl
theorem hl_L_kindOf : am_hl m_L_kindOf = [(1, 13, 3)] := rfl
theorem bb_L_levelAt : am_b m_L_levelAt = cL_levelAt := rfl
theorem nn_L_levelAt : am_n m_L_levelAt = 6 := rfl
theorem oo_L_levelAt : am_o m_L_levelAt = RL := rfl
theorem yy_L_levelAt : am_y m_L_levelAt = yL_levelAt := rfl
theorem dd_L_levelAt : am_d m_L_levelAt = 10 := rfl
theorem hl_L_levelAt : am_hl m_L_levelAt = [(1, 17, 5)] := rfl
theorem bb_L_meanBits : am_b m_L_meanBits = cL_meanBits := rfl
theorem nn_L_meanBits : am_n m_L_meanBits = 3 := rfl
theorem oo_L_meanBits : am_o m_L_meanBits = RL := rfl
theorem yy_L_meanBits : am_y m_L_meanBits = yL_meanBits := rfl
theorem dd_L_meanBits : am_d m_L_meanBits = 10 := rfl
theorem hl_L_meanBits : am_hl m_L_meanBits = [(5, 11, 2)] := rfl
theorem bb_L_modeAt : am_b m_L_modeAt = cL_modeAt := rfl
theorem nn_L_modeAt : am_n m_L_modeAt = 6 := rfl
theorem oo_L_modeAt : am_o m_L_modeAt = RL := rfl
theorem yy_L_modeAt : am_y m_L_modeAt = yL_modeAt := rfl
theorem dd_L_modeAt : am_d m_L_modeAt = 10 := rfl
theorem hl_L_modeAt : am_hl m_L_modeAt = [(1, 17, 5)] := rfl
theorem bb_L_partAt : am_b m_L_partAt = cL_partAt := rfl
theorem nn_L_partAt : am_n m_L_partAt = 6 := rfl
theorem oo_L_partAt : am_o m_L_partAt = RL := rfl
theorem yy_L_partAt : am_y m_L_partAt = yL_partAt := rfl
theorem dd_L_partAt : am_d m_L_partAt = 10 := rfl
theorem hl_L_partAt : am_hl m_L_partAt = [(1, 17, 5)] := rfl
theorem bb_L_pixel : am_b m_L_pixel = cL_pixel := rfl
theorem nn_L_pixel : am_n m_L_pixel = 5 := rfl
theorem oo_L_pixel : am_o m_L_pixel = RL := rfl
theorem yy_L_pixel : am_y m_L_pixel = yL_pixel := rfl
theorem dd_L_pixel : am_d m_L_pixel = 10 := rfl
theorem hl_L_pixel : am_hl m_L_pixel = [(1, 15, 4)] := rfl
theorem bb_L_send : am_b m_L_send = cL_send := rfl
theorem nn_L_send : am_n m_L_send = 4 := rfl
theorem oo_L_send : am_o m_L_send = RL := rfl
theorem yy_L_send : am_y m_L_send = yL_send := rfl
theorem dd_L_send : am_d m_L_send = 10 := rfl
theorem hl_L_send : am_hl m_L_send = [(4, 13, 3), (0, 16, 3)] := rfl
theorem bb_L_shown : am_b m_L_shown = cL_shown := rfl
theorem nn_L_shown : am_n m_L_shown = 3 := rfl
theorem oo_L_shown : am_o m_L_shown = RL := rfl
theorem yy_L_shown : am_y m_L_shown = yL_shown := rfl
theorem dd_L_shown : am_d m_L_shown = 10 := rfl
theorem hl_L_shown : am_hl m_L_shown = [(4, 12, 2)] := rfl
theorem bb_L_shownAt : am_b m_L_shownAt = cL_shownAt := rfl
theorem nn_L_shownAt : am_n m_L_shownAt = 5 := rfl
theorem oo_L_shownAt : am_o m_L_shownAt = RL := rfl
theorem yy_L_shownAt : am_y m_L_shownAt = yL_shownAt := rfl
theorem dd_L_shownAt : am_d m_L_shownAt = 10 := rfl
theorem hl_L_shownAt : am_hl m_L_shownAt = [(1, 15, 4), (4, 19, 4)] := rfl
theorem bb_L_vectorAt : am_b m_L_vectorAt = cL_vectorAt := rfl
theorem nn_L_vectorAt : am_n m_L_vectorAt = 7 := rfl
theorem oo_L_vectorAt : am_o m_L_vectorAt = RL := rfl
theorem yy_L_vectorAt : am_y m_L_vectorAt = yL_vectorAt := rfl
theorem dd_L_vectorAt : am_d m_L_vectorAt = 10 := rfl
theorem hl_L_vectorAt : am_hl m_L_vectorAt = [(1, 19, 6), (4, 23, 6)] := rfl
theorem bb_X11_byteAt : am_b m_X11_byteAt = cX11_byteAt := rfl
theorem nn_X11_byteAt : am_n m_X11_byteAt = 5 := rfl
theorem oo_X11_byteAt : am_o m_X11_byteAt = RX11 := rfl
theorem yy_X11_byteAt : am_y m_X11_byteAt = yX11_byteAt := rfl
theorem dd_X11_byteAt : am_d m_X11_byteAt = 10 := rfl
theorem hl_X11_byteAt : am_hl m_X11_byteAt = [] := rfl
theorem hh_X11_byteAt : am_h m_X11_byteAt = [] := rfl
theorem bb_X11_bytes : am_b m_X11_bytes = cX11_bytes := rfl
theorem nn_X11_bytes : am_n m_X11_bytes = 3 := rfl
theorem oo_X11_bytes : am_o m_X11_bytes = RX11 := rfl
theorem yy_X11_bytes : am_y m_X11_bytes = yX11_bytes := rfl
theorem dd_X11_bytes : am_d m_X11_bytes = 10 := rfl
theorem hl_X11_bytes : am_hl m_X11_bytes = [] := rfl
theorem hh_X11_bytes : am_h m_X11_bytes = [] := rfl
theorem bb_X11_code : am_b m_X11_code = cX11_code := rfl
theorem nn_X11_code : am_n m_X11_code = 5 := rfl
theorem oo_X11_code : am_o m_X11_code = RX11 := rfl
theorem yy_X11_code : am_y m_X11_code = yX11_code := rfl
theorem dd_X11_code : am_d m_X11_code = 10 := rfl
theorem hl_X11_code : am_hl m_X11_code = [] := rfl
theorem hh_X11_code : am_h m_X11_code = [] := rfl
theorem bb_X11_heaviest : am_b m_X11_heaviest = cX11_heaviest := rfl
theorem nn_X11_heaviest : am_n m_X11_heaviest = 4 := rfl
theorem oo_X11_heaviest : am_o m_X11_heaviest = RX11 := rfl
theorem yy_X11_heaviest : am_y m_X11_heaviest = yX11_heaviest := rfl
theorem dd_X11_heaviest : am_d m_X11_heaviest = 10 := rfl
theorem hl_X11_heaviest : am_hl m_X11_heaviest = [] := rfl
theorem hh_X11_heaviest : am_h m_X11_heaviest = [] := rfl
theorem bb_X12_codesParts : am_b m_X12_codesParts = cX12_codesParts := rfl
theorem nn_X12_codesParts : am_n m_X12_codesParts = 7 := rfl
theorem oo_X12_codesParts : am_o m_X12_codesParts = RX12 := rfl
theorem yy_X12_codesParts : am_y m_X12_codesParts = yX12_codesParts := rfl
theorem dd_X12_codesParts : am_d m_X12_codesParts = 10 := rfl
theorem hl_X12_codesParts : am_hl m_X12_codesParts = [] := rfl
theorem hh_X12_codesParts : am_h m_X12_codesParts = [] := rfl
theorem bb_L_byteAt : am_b m_L_byteAt = cL_byteAt := rfl
theorem nn_L_byteAt : am_n m_L_byteAt = 6 := rfl
theorem oo_L_byteAt : am_o m_L_byteAt = RL := rfl
theorem yy_L_byteAt : am_y m_L_byteAt = yL_byteAt := rfl
theorem dd_L_byteAt : am_d m_L_byteAt = 11 := rfl
theorem hl_L_byteAt : am_hl m_L_byteAt = [(1, 17, 5)] := rfl
theorem bb_L_bytes : am_b m_L_bytes = cL_bytes := rfl
theorem nn_L_bytes : am_n m_L_bytes = 5 := rfl
theorem oo_L_bytes : am_o m_L_bytes = RL := rfl
theorem yy_L_bytes : am_y m_L_bytes = yL_bytes := rfl
theorem dd_L_bytes : am_d m_L_bytes = 11 := rfl
theorem hl_L_bytes : am_hl m_L_bytes = [(1, 15, 4)] := rfl
theorem bb_L_code : am_b m_L_code = cL_code := rfl
theorem nn_L_code : am_n m_L_code = 6 := rfl
theorem oo_L_code : am_o m_L_code = RL := rfl
theorem yy_L_code : am_y m_L_code = yL_code := rfl
theorem dd_L_code : am_d m_L_code = 11 := rfl
theorem hl_L_code : am_hl m_L_code = [(0, 17, 5), (1, 21, 5), (2, 25, 5), (3, 29, 5)] := rfl
theorem bb_L_heaviest : am_b m_L_heaviest = cL_heaviest := rfl
theorem nn_L_heaviest : am_n m_L_heaviest = 4 := rfl
theorem oo_L_heaviest : am_o m_L_heaviest = RL := rfl
theorem yy_L_heaviest : am_y m_L_heaviest = yL_heaviest := rfl
theorem dd_L_heaviest : am_d m_L_heaviest = 11 := rfl
theorem hl_L_heaviest : am_hl m_L_heaviest = [(1, 13, 3)] := rfl
theorem bb_X12_code : am_b m_X12_code = cX12_code := rfl
theorem nn_X12_code : am_n m_X12_code = 12 := rfl
theorem oo_X12_code : am_o m_X12_code = RX12 := rfl
theorem yy_X12_code : am_y m_X12_code = yX12_code := rfl
theorem dd_X12_code : am_d m_X12_code = 11 := rfl
theorem hl_X12_code : am_hl m_X12_code = [] := rfl
theorem hh_X12_code : am_h m_X12_code = [] := rfl
theorem bb_L_law : am_b m_L_law = code := rfl
theorem nn_L_law : am_n m_L_law = 9 := rfl
theorem oo_L_law : am_o m_L_law = RL := rfl
theorem yy_L_law : am_y m_L_law = x := rfl
theorem dd_L_law : am_d m_L_law = 12 := rfl
theorem hl_L_law : am_hl m_L_law = [] := rfl
theorem hh_L_law : am_h m_L_law = [] := rfl
theorem wd_1033 : Jvm.Cond.code yX0_filledWith cX0_filledWith 2 (some FieldType.int) ∈ am_ok := am_wd 1033 (by decide +kernel) (by decide +kernel)
theorem wd_58 : Jvm.Cond.initialized RX0 ∈ am_ok := am_wd 58 (by decide +kernel) (by decide +kernel)
theorem mok_X0_filledWith : am_mOK m_X0_filledWith := ⟨Or.inl ⟨rfl, rfl, wd_1033⟩, wd_58, by decide +kernel, rfl, by decide +kernel, by decide +kernel, by decide +kernel, by decide +kernel⟩
theorem wd_672 : Jvm.Cond.code yX0_isThere cX0_isThere 1 (some FieldType.boolean) ∈ am_ok := am_wd 672 (by decide +kernel) (by decide +kernel)
theorem mok_X0_isThere : am_mOK m_X0_isThere := ⟨Or.inl ⟨rfl, rfl, wd_672⟩, wd_58, by decide +kernel, rfl, by decide +kernel, by decide +kernel, by decide +kernel, by decide +kernel⟩
theorem wd_676 : Jvm.Cond.code yX0_put cX0_put 3 (none) ∈ am_ok := am_wd 676 (by decide +kernel) (by decide +kernel)
theorem mok_X0_put : am_mOK m_X0_put := ⟨Or.inl ⟨rfl, rfl, wd_676⟩, wd_58, by decide +kernel, rfl, by decide +kernel, by decide +kernel, by decide +kernel, by decide +kernel⟩
theorem wd_959 : Jvm.Cond.code yX10_giveByte cX10_giveByte 1 (none) ∈ am_ok := am_wd 959 (by decide +kernel) (by decide +kernel)
theorem wd_65 : Jvm.Cond.initialized RX10 ∈ am_ok := am_wd 65 (by decide +kernel) (by decide +kernel)
theorem mok_X10_giveByte : am_mOK m_X10_giveByte := ⟨Or.inl ⟨rfl, rfl, wd_959⟩, wd_65, by decide +kernel, rfl, by decide +kernel, by decide +kernel, by decide +kernel, by decide +kernel⟩
theorem wd_461 : Jvm.Cond.code yX11_coarseness cX11_coarseness 1 (some FieldType.int) ∈ am_ok := am_wd 461 (by decide +kernel) (by decide +kernel)
theorem wd_57 : Jvm.Cond.initialized RX11 ∈ am_ok := am_wd 57 (by decide +kernel) (by decide +kernel)
theorem mok_X11_coarseness : am_mOK m_X11_coarseness := ⟨Or.inl ⟨rfl, rfl, wd_461⟩, wd_57, by decide +kernel, rfl, by decide +kernel, by decide +kernel, by decide +kernel, by decide +kernel⟩
theorem wd_755 : Jvm.Cond.code yX11_columnOf cX11_columnOf 1 (some FieldType.int) ∈ am_ok := am_wd 755 (by decide +kernel) (by decide +kernel)
theorem mok_X11_columnOf : am_mOK m_X11_columnOf := ⟨Or.inl ⟨rfl, rfl, wd_755⟩, wd_57, by decide +kernel, rfl, by decide +kernel, by decide +kernel, by decide +kernel, by decide +kernel⟩
theorem wd_900 : Jvm.Cond.code yX11_inPicture cX11_inPicture 1 (some FieldType.int) ∈ am_ok := am_wd 900 (by decide +kernel) (by decide +kernel)
theorem mok_X11_inPicture : am_mOK m_X11_inPicture := ⟨Or.inl ⟨rfl, rfl, wd_900⟩, wd_57, by decide +kernel, rfl, by decide +kernel, by decide +kernel, by decide +kernel, by decide +kernel⟩
theorem wd_690 : Jvm.Cond.code yX11_isKeptPlace cX11_isKeptPlace 2 (some FieldType.boolean) ∈ am_ok := am_wd 690 (by decide +kernel) (by decide +kernel)
theorem mok_X11_isKeptPlace : am_mOK m_X11_isKeptPlace := ⟨Or.inl ⟨rfl, rfl, wd_690⟩, wd_57, by decide +kernel, rfl, by decide +kernel, by decide +kernel, by decide +kernel, by decide +kernel⟩
theorem wd_472 : Jvm.Cond.code yX11_isOnCanvas cX11_isOnCanvas 2 (some FieldType.boolean) ∈ am_ok := am_wd 472 (by decide +kernel) (by decide +kernel)
theorem mok_X11_isOnCanvas : am_mOK m_X11_isOnCanvas := ⟨Or.inl ⟨rfl, rfl, wd_472⟩, wd_57, by decide +kernel, rfl, by decide +kernel, by decide +kernel, by decide +kernel, by decide +kernel⟩
theorem wd_547 : Jvm.Cond.code yX11_isValue cX11_isValue 1 (some FieldType.boolean) ∈ am_ok := am_wd 547 (by decide +kernel) (by decide +kernel)
theorem mok_X11_isValue : am_mOK m_X11_isValue := ⟨Or.inl ⟨rfl, rfl, wd_547⟩, wd_57, by decide +kernel, rfl, by decide +kernel, by decide +kernel, by decide +kernel, by decide +kernel⟩
theorem wd_457 : Jvm.Cond.code yX11_kept cX11_kept 1 (some FieldType.int) ∈ am_ok := am_wd 457 (by decide +kernel) (by decide +kernel)
theorem mok_X11_kept : am_mOK m_X11_kept := ⟨Or.inl ⟨rfl, rfl, wd_457⟩, wd_57, by decide +kernel, rfl, by decide +kernel, by decide +kernel, by decide +kernel, by decide +kernel⟩
theorem wd_453 : Jvm.Cond.code yX11_pictures cX11_pictures 1 (some FieldType.int) ∈ am_ok := am_wd 453 (by decide +kernel) (by decide +kernel)
theorem mok_X11_pictures : am_mOK m_X11_pictures := ⟨Or.inl ⟨rfl, rfl, wd_453⟩, wd_57, by decide +kernel, rfl, by decide +kernel, by decide +kernel, by decide +kernel, by decide +kernel⟩
theorem wd_551 : Jvm.Cond.code yX11_placeOf cX11_placeOf 2 (some FieldType.int) ∈ am_ok := am_wd 551 (by decide +kernel) (by decide +kernel)
theorem mok_X11_placeOf : am_mOK m_X11_placeOf := ⟨Or.inl ⟨rfl, rfl, wd_551⟩, wd_57, by decide +kernel, rfl, by decide +kernel, by decide +kernel, by decide +kernel, by decide +kernel⟩
theorem wd_758 : Jvm.Cond.code yX11_rowOf cX11_rowOf 1 (some FieldType.int) ∈ am_ok := am_wd 758 (by decide +kernel) (by decide +kernel)
theorem mok_X11_rowOf : am_mOK m_X11_rowOf := ⟨Or.inl ⟨rfl, rfl, wd_758⟩, wd_57, by decide +kernel, rfl, by decide +kernel, by decide +kernel, by decide +kernel, by decide +kernel⟩
theorem wd_449 : Jvm.Cond.code yX11_setKept cX11_setKept 3 (some FieldType.boolean) ∈ am_ok := am_wd 449 (by decide +kernel) (by decide +kernel)
theorem mok_X11_setKept : am_mOK m_X11_setKept := ⟨Or.inl ⟨rfl, rfl, wd_449⟩, wd_57, by decide +kernel, rfl, by decide +kernel, by decide +kernel, by decide +kernel, by decide +kernel⟩
theorem wd_890 : Jvm.Cond.code yX11_squareAt cX11_squareAt 3 (some FieldType.int) ∈ am_ok := am_wd 890 (by decide +kernel) (by decide +kernel)
theorem mok_X11_squareAt : am_mOK m_X11_squareAt := ⟨Or.inl ⟨rfl, rfl, wd_890⟩, wd_57, by decide +kernel, rfl, by decide +kernel, by decide +kernel, by decide +kernel, by decide +kernel⟩
theorem wd_761 : Jvm.Cond.code yX11_startsBlock cX11_startsBlock 1 (some FieldType.boolean) ∈ am_ok := am_wd 761 (by decide +kernel) (by decide +kernel)
theorem mok_X11_startsBlock : am_mOK m_X11_startsBlock := ⟨Or.inl ⟨rfl, rfl, wd_761⟩, wd_57, by decide +kernel, rfl, by decide +kernel, by decide +kernel, by decide +kernel, by decide +kernel⟩
theorem wd_578 : Jvm.Cond.code yX11_withinValues cX11_withinValues 1 (some FieldType.int) ∈ am_ok := am_wd 578 (by decide +kernel) (by decide +kernel)
theorem mok_X11_withinValues : am_mOK m_X11_withinValues := ⟨Or.inl ⟨rfl, rfl, wd_578⟩, wd_57, by decide +kernel, rfl, by decide +kernel, by decide +kernel, by decide +kernel, by decide +kernel⟩
theorem wd_1653 : Jvm.Cond.code yX12_adds cX12_adds 6 (none) ∈ am_ok := am_wd 1653 (by decide +kernel) (by decide +kernel)
theorem wd_68 : Jvm.Cond.initialized RX12 ∈ am_ok := am_wd 68 (by decide +kernel) (by decide +kernel)
theorem mok_X12_adds : am_mOK m_X12_adds := ⟨Or.inl ⟨rfl, rfl, wd_1653⟩, wd_68, by decide +kernel, rfl, by decide +kernel, by decide +kernel, by decide +kernel, by decide +kernel⟩
theorem wd_1643 : Jvm.Cond.code yX12_begins cX12_begins 2 (none) ∈ am_ok := am_wd 1643 (by decide +kernel) (by decide +kernel)
theorem mok_X12_begins : am_mOK m_X12_begins := ⟨Or.inl ⟨rfl, rfl, wd_1643⟩, wd_68, by decide +kernel, rfl, by decide +kernel, by decide +kernel, by decide +kernel, by decide +kernel⟩
theorem wd_1602 : Jvm.Cond.code yX12_border cX12_border 4 (some FieldType.int) ∈ am_ok := am_wd 1602 (by decide +kernel) (by decide +kernel)
theorem mok_X12_border : am_mOK m_X12_border := ⟨Or.inl ⟨rfl, rfl, wd_1602⟩, wd_68, by decide +kernel, rfl, by decide +kernel, by decide +kernel, by decide +kernel, by decide +kernel⟩
theorem wd_1725 : Jvm.Cond.code yX12_bucket cX12_bucket 1 (some FieldType.int) ∈ am_ok := am_wd 1725 (by decide +kernel) (by decide +kernel)
theorem mok_X12_bucket : am_mOK m_X12_bucket := ⟨Or.inl ⟨rfl, rfl, wd_1725⟩, wd_68, by decide +kernel, rfl, by decide +kernel, by decide +kernel, by decide +kernel, by decide +kernel⟩
theorem wd_1840 : Jvm.Cond.code yX12_cleanShare cX12_cleanShare 1 (some FieldType.float) ∈ am_ok := am_wd 1840 (by decide +kernel) (by decide +kernel)
theorem mok_X12_cleanShare : am_mOK m_X12_cleanShare := ⟨Or.inl ⟨rfl, rfl, wd_1840⟩, wd_68, by decide +kernel, rfl, by decide +kernel, by decide +kernel, by decide +kernel, by decide +kernel⟩
theorem wd_1721 : Jvm.Cond.code yX12_coarseness cX12_coarseness 1 (some FieldType.int) ∈ am_ok := am_wd 1721 (by decide +kernel) (by decide +kernel)
theorem mok_X12_coarseness : am_mOK m_X12_coarseness := ⟨Or.inl ⟨rfl, rfl, wd_1721⟩, wd_68, by decide +kernel, rfl, by decide +kernel, by decide +kernel, by decide +kernel, by decide +kernel⟩
theorem wd_1788 : Jvm.Cond.code yX12_commonest cX12_commonest 5 (some FieldType.int) ∈ am_ok := am_wd 1788 (by decide +kernel) (by decide +kernel)
theorem mok_X12_commonest : am_mOK m_X12_commonest := ⟨Or.inl ⟨rfl, rfl, wd_1788⟩, wd_68, by decide +kernel, rfl, by decide +kernel, by decide +kernel, by decide +kernel, by decide +kernel⟩
theorem wd_1808 : Jvm.Cond.code yX12_conceals cX12_conceals 6 (none) ∈ am_ok := am_wd 1808 (by decide +kernel) (by decide +kernel)
theorem mok_X12_conceals : am_mOK m_X12_conceals := ⟨Or.inl ⟨rfl, rfl, wd_1808⟩, wd_68, by decide +kernel, rfl, by decide +kernel, by decide +kernel, by decide +kernel, by decide +kernel⟩
theorem wd_1702 : Jvm.Cond.code yX12_errorNow cX12_errorNow 6 (some FieldType.long) ∈ am_ok := am_wd 1702 (by decide +kernel) (by decide +kernel)
theorem mok_X12_errorNow : am_mOK m_X12_errorNow := ⟨Or.inl ⟨rfl, rfl, wd_1702⟩, wd_68, by decide +kernel, rfl, by decide +kernel, by decide +kernel, by decide +kernel, by decide +kernel⟩
theorem wd_1504 : Jvm.Cond.code yX12_in cX12_in 3 (some FieldType.boolean) ∈ am_ok := am_wd 1504 (by decide +kernel) (by decide +kernel)
theorem mok_X12_in : am_mOK m_X12_in := ⟨Or.inl ⟨rfl, rfl, wd_1504⟩, wd_68, by decide +kernel, rfl, by decide +kernel, by decide +kernel, by decide +kernel, by decide +kernel⟩
theorem wd_1796 : Jvm.Cond.code yX12_isGood cX12_isGood 2 (some FieldType.boolean) ∈ am_ok := am_wd 1796 (by decide +kernel) (by decide +kernel)
theorem mok_X12_isGood : am_mOK m_X12_isGood := ⟨Or.inl ⟨rfl, rfl, wd_1796⟩, wd_68, by decide +kernel, rfl, by decide +kernel, by decide +kernel, by decide +kernel, by decide +kernel⟩
theorem wd_1713 : Jvm.Cond.code yX12_kept cX12_kept 1 (some FieldType.int) ∈ am_ok := am_wd 1713 (by decide +kernel) (by decide +kernel)
theorem mok_X12_kept : am_mOK m_X12_kept := ⟨Or.inl ⟨rfl, rfl, wd_1713⟩, wd_68, by decide +kernel, rfl, by decide +kernel, by decide +kernel, by decide +kernel, by decide +kernel⟩
theorem wd_1836 : Jvm.Cond.code yX12_meanBits cX12_meanBits 3 (some FieldType.double) ∈ am_ok := am_wd 1836 (by decide +kernel) (by decide +kernel)
theorem mok_X12_meanBits : am_mOK m_X12_meanBits := ⟨Or.inl ⟨rfl, rfl, wd_1836⟩, wd_68, by decide +kernel, rfl, by decide +kernel, by decide +kernel, by decide +kernel, by decide +kernel⟩
theorem wd_1820 : Jvm.Cond.code yX12_noShown cX12_noShown 1 (some FieldType.boolean) ∈ am_ok := am_wd 1820 (by decide +kernel) (by decide +kernel)
theorem mok_X12_noShown : am_mOK m_X12_noShown := ⟨Or.inl ⟨rfl, rfl, wd_1820⟩, wd_68, by decide +kernel, rfl, by decide +kernel, by decide +kernel, by decide +kernel, by decide +kernel⟩
theorem wd_1709 : Jvm.Cond.code yX12_pictures cX12_pictures 1 (some FieldType.int) ∈ am_ok := am_wd 1709 (by decide +kernel) (by decide +kernel)
theorem mok_X12_pictures : am_mOK m_X12_pictures := ⟨Or.inl ⟨rfl, rfl, wd_1709⟩, wd_68, by decide +kernel, rfl, by decide +kernel, by decide +kernel, by decide +kernel, by decide +kernel⟩
theorem wd_1688 : Jvm.Cond.code yX12_placeOf cX12_placeOf 1 (some FieldType.int) ∈ am_ok := am_wd 1688 (by decide +kernel) (by decide +kernel)
theorem mok_X12_placeOf : am_mOK m_X12_placeOf := ⟨Or.inl ⟨rfl, rfl, wd_1688⟩, wd_68, by decide +kernel, rfl, by decide +kernel, by decide +kernel, by decide +kernel, by decide +kernel⟩
theorem wd_1564 : Jvm.Cond.code yX12_raises cX12_raises 2 (some FieldType.int) ∈ am_ok := am_wd 1564 (by decide +kernel) (by decide +kernel)
theorem mok_X12_raises : am_mOK m_X12_raises := ⟨Or.inl ⟨rfl, rfl, wd_1564⟩, wd_68, by decide +kernel, rfl, by decide +kernel, by decide +kernel, by decide +kernel, by decide +kernel⟩
theorem wd_1551 : Jvm.Cond.code yX12_setKept cX12_setKept 3 (some FieldType.boolean) ∈ am_ok := am_wd 1551 (by decide +kernel) (by decide +kernel)
theorem mok_X12_setKept : am_mOK m_X12_setKept := ⟨Or.inl ⟨rfl, rfl, wd_1551⟩, wd_68, by decide +kernel, rfl, by decide +kernel, by decide +kernel, by decide +kernel, by decide +kernel⟩
theorem wd_1589 : Jvm.Cond.code yX12_setsVector cX12_setsVector 9 (none) ∈ am_ok := am_wd 1589 (by decide +kernel) (by decide +kernel)
theorem mok_X12_setsVector : am_mOK m_X12_setsVector := ⟨Or.inl ⟨rfl, rfl, wd_1589⟩, wd_68, by decide +kernel, rfl, by decide +kernel, by decide +kernel, by decide +kernel, by decide +kernel⟩
theorem wd_1628 : Jvm.Cond.code yX12_signOf cX12_signOf 2 (some FieldType.int) ∈ am_ok := am_wd 1628 (by decide +kernel) (by decide +kernel)
theorem mok_X12_signOf : am_mOK m_X12_signOf := ⟨Or.inl ⟨rfl, rfl, wd_1628⟩, wd_68, by decide +kernel, rfl, by decide +kernel, by decide +kernel, by decide +kernel, by decide +kernel⟩
theorem wd_1760 : Jvm.Cond.code yX12_square cX12_square 2 (some FieldType.int) ∈ am_ok := am_wd 1760 (by decide +kernel) (by decide +kernel)
theorem mok_X12_square : am_mOK m_X12_square := ⟨Or.inl ⟨rfl, rfl, wd_1760⟩, wd_68, by decide +kernel, rfl, by decide +kernel, by decide +kernel, by decide +kernel, by decide +kernel⟩
theorem wd_1497 : Jvm.Cond.code yX12_thrown cX12_thrown 1 (some FieldType.int) ∈ am_ok := am_wd 1497 (by decide +kernel) (by decide +kernel)
theorem mok_X12_thrown : am_mOK m_X12_thrown := ⟨Or.inl ⟨rfl, rfl, wd_1497⟩, wd_68, by decide +kernel, rfl, by decide +kernel, by decide +kernel, by decide +kernel, by decide +kernel⟩
theorem wd_1599 : Jvm.Cond.code yX12_top cX12_top 2 (some FieldType.int) ∈ am_ok := am_wd 1599 (by decide +kernel) (by decide +kernel)
theorem mok_X12_top : am_mOK m_X12_top := ⟨Or.inl ⟨rfl, rfl, wd_1599⟩, wd_68, by decide +kernel, rfl, by decide +kernel, by decide +kernel, by decide +kernel, by decide +kernel⟩
theorem wd_1658 : Jvm.Cond.code yX12_widens cX12_widens 1 (none) ∈ am_ok := am_wd 1658 (by decide +kernel) (by decide +kernel)
theorem mok_X12_widens : am_mOK m_X12_widens := ⟨Or.inl ⟨rfl, rfl, wd_1658⟩, wd_68, by decide +kernel, rfl, by decide +kernel, by decide +kernel, by decide +kernel, by decide +kernel⟩
theorem wd_742 : Jvm.Cond.code yX4_inside cX4_inside 1 (some FieldType.int) ∈ am_ok := am_wd 742 (by decide +kernel) (by decide +kernel)
theorem wd_62 : Jvm.Cond.initialized RX4 ∈ am_ok := am_wd 62 (by decide +kernel) (by decide +kernel)
theorem mok_X4_inside : am_mOK m_X4_inside := ⟨Or.inl ⟨rfl, rfl, wd_742⟩, wd_62, by decide +kernel, rfl, by decide +kernel, by decide +kernel, by decide +kernel, by decide +kernel⟩
theorem wd_820 : Jvm.Cond.code yX4_placeFrom cX4_placeFrom 3 (some FieldType.int) ∈ am_ok := am_wd 820 (by decide +kernel) (by decide +kernel)
theorem mok_X4_placeFrom : am_mOK m_X4_placeFrom := ⟨Or.inl ⟨rfl, rfl, wd_820⟩, wd_62, by decide +kernel, rfl, by decide +kernel, by decide +kernel, by decide +kernel, by decide +kernel⟩
theorem wd_849 : Jvm.Cond.code yX5_isOfBorder cX5_isOfBorder 1 (some FieldType.boolean) ∈ am_ok := am_wd 849 (by decide +kernel) (by decide +kernel)
theorem wd_63 : Jvm.Cond.initialized RX5 ∈ am_ok := am_wd 63 (by decide +kernel) (by decide +kernel)
theorem mok_X5_isOfBorder : am_mOK m_X5_isOfBorder := ⟨Or.inl ⟨rfl, rfl, wd_849⟩, wd_63, by decide +kernel, rfl, by decide +kernel, by decide +kernel, by decide +kernel, by decide +kernel⟩
theorem wd_788 : Jvm.Cond.code yX5_lay cX5_lay 5 (none) ∈ am_ok := am_wd 788 (by decide +kernel) (by decide +kernel)
theorem mok_X5_lay : am_mOK m_X5_lay := ⟨Or.inl ⟨rfl, rfl, wd_788⟩, wd_63, by decide +kernel, rfl, by decide +kernel, by decide +kernel, by decide +kernel, by decide +kernel⟩
theorem wd_870 : Jvm.Cond.code yX5_usesFirst cX5_usesFirst 1 (some FieldType.boolean) ∈ am_ok := am_wd 870 (by decide +kernel) (by decide +kernel)
theorem mok_X5_usesFirst : am_mOK m_X5_usesFirst := ⟨Or.inl ⟨rfl, rfl, wd_870⟩, wd_63, by decide +kernel, rfl, by decide +kernel, by decide +kernel, by decide +kernel, by decide +kernel⟩
theorem wd_862 : Jvm.Cond.code yX5_usesSecond cX5_usesSecond 1 (some FieldType.boolean) ∈ am_ok := am_wd 862 (by decide +kernel) (by decide +kernel)
theorem mok_X5_usesSecond : am_mOK m_X5_usesSecond := ⟨Or.inl ⟨rfl, rfl, wd_862⟩, wd_63, by decide +kernel, rfl, by decide +kernel, by decide +kernel, by decide +kernel, by decide +kernel⟩
theorem wd_1205 : Jvm.Cond.code yX6_bits cX6_bits 1 (some FieldType.int) ∈ am_ok := am_wd 1205 (by decide +kernel) (by decide +kernel)
theorem wd_59 : Jvm.Cond.initialized RX6 ∈ am_ok := am_wd 59 (by decide +kernel) (by decide +kernel)
theorem mok_X6_bits : am_mOK m_X6_bits := ⟨Or.inl ⟨rfl, rfl, wd_1205⟩, wd_59, by decide +kernel, rfl, by decide +kernel, by decide +kernel, by decide +kernel, by decide +kernel⟩
theorem wd_711 : Jvm.Cond.code yX6_describe cX6_describe 4 (none) ∈ am_ok := am_wd 711 (by decide +kernel) (by decide +kernel)
theorem mok_X6_describe : am_mOK m_X6_describe := ⟨Or.inl ⟨rfl, rfl, wd_711⟩, wd_59, by decide +kernel, rfl, by decide +kernel, by decide +kernel, by decide +kernel, by decide +kernel⟩
theorem wd_776 : Jvm.Cond.code yX6_has cX6_has 2 (some FieldType.boolean) ∈ am_ok := am_wd 776 (by decide +kernel) (by decide +kernel)
theorem mok_X6_has : am_mOK m_X6_has := ⟨Or.inl ⟨rfl, rfl, wd_776⟩, wd_59, by decide +kernel, rfl, by decide +kernel, by decide +kernel, by decide +kernel, by decide +kernel⟩
theorem wd_732 : Jvm.Cond.code yX6_leansOnFirst cX6_leansOnFirst 1 (some FieldType.boolean) ∈ am_ok := am_wd 732 (by decide +kernel) (by decide +kernel)
theorem mok_X6_leansOnFirst : am_mOK m_X6_leansOnFirst := ⟨Or.inl ⟨rfl, rfl, wd_732⟩, wd_59, by decide +kernel, rfl, by decide +kernel, by decide +kernel, by decide +kernel, by decide +kernel⟩
theorem wd_748 : Jvm.Cond.code yX6_leansOnSecond cX6_leansOnSecond 1 (some FieldType.boolean) ∈ am_ok := am_wd 748 (by decide +kernel) (by decide +kernel)
theorem mok_X6_leansOnSecond : am_mOK m_X6_leansOnSecond := ⟨Or.inl ⟨rfl, rfl, wd_748⟩, wd_59, by decide +kernel, rfl, by decide +kernel, by decide +kernel, by decide +kernel, by decide +kernel⟩
theorem wd_784 : Jvm.Cond.code yX6_sliceOf cX6_sliceOf 2 (some FieldType.int) ∈ am_ok := am_wd 784 (by decide +kernel) (by decide +kernel)
theorem mok_X6_sliceOf : am_mOK m_X6_sliceOf := ⟨Or.inl ⟨rfl, rfl, wd_784⟩, wd_59, by decide +kernel, rfl, by decide +kernel, by decide +kernel, by decide +kernel, by decide +kernel⟩
theorem wd_715 : Jvm.Cond.code yX6_useSettings cX6_useSettings 5 (none) ∈ am_ok := am_wd 715 (by decide +kernel) (by decide +kernel)
theorem mok_X6_useSettings : am_mOK m_X6_useSettings := ⟨Or.inl ⟨rfl, rfl, wd_715⟩, wd_59, by decide +kernel, rfl, by decide +kernel, by decide +kernel, by decide +kernel, by decide +kernel⟩
theorem wd_589 : Jvm.Cond.code yX7_copy cX7_copy 3 (none) ∈ am_ok := am_wd 589 (by decide +kernel) (by decide +kernel)
theorem wd_67 : Jvm.Cond.initialized RX7 ∈ am_ok := am_wd 67 (by decide +kernel) (by decide +kernel)
theorem mok_X7_copy : am_mOK m_X7_copy := ⟨Or.inl ⟨rfl, rfl, wd_589⟩, wd_67, by decide +kernel, rfl, by decide +kernel, by decide +kernel, by decide +kernel, by decide +kernel⟩
theorem wd_554 : Jvm.Cond.code yX7_get cX7_get 2 (some FieldType.int) ∈ am_ok := am_wd 554 (by decide +kernel) (by decide +kernel)
theorem mok_X7_get : am_mOK m_X7_get := ⟨Or.inl ⟨rfl, rfl, wd_554⟩, wd_67, by decide +kernel, rfl, by decide +kernel, by decide +kernel, by decide +kernel, by decide +kernel⟩
theorem wd_557 : Jvm.Cond.code yX7_put cX7_put 3 (none) ∈ am_ok := am_wd 557 (by decide +kernel) (by decide +kernel)
theorem mok_X7_put : am_mOK m_X7_put := ⟨Or.inl ⟨rfl, rfl, wd_557⟩, wd_67, by decide +kernel, rfl, by decide +kernel, by decide +kernel, by decide +kernel, by decide +kernel⟩
theorem wd_399 : Jvm.Cond.code yX7_set cX7_set 3 (none) ∈ am_ok := am_wd 399 (by decide +kernel) (by decide +kernel)
theorem mok_X7_set : am_mOK m_X7_set := ⟨Or.inl ⟨rfl, rfl, wd_399⟩, wd_67, by decide +kernel, rfl, by decide +kernel, by decide +kernel, by decide +kernel, by decide +kernel⟩
theorem wd_1078 : Jvm.Cond.code yX7_shift cX7_shift 3 (none) ∈ am_ok := am_wd 1078 (by decide +kernel) (by decide +kernel)
theorem mok_X7_shift : am_mOK m_X7_shift := ⟨Or.inl ⟨rfl, rfl, wd_1078⟩, wd_67, by decide +kernel, rfl, by decide +kernel, by decide +kernel, by decide +kernel, by decide +kernel⟩
theorem wd_1024 : Jvm.Cond.code yX8_bits cX8_bits 1 (some FieldType.int) ∈ am_ok := am_wd 1024 (by decide +kernel) (by decide +kernel)
theorem wd_64 : Jvm.Cond.initialized RX8 ∈ am_ok := am_wd 64 (by decide +kernel) (by decide +kernel)
theorem mok_X8_bits : am_mOK m_X8_bits := ⟨Or.inl ⟨rfl, rfl, wd_1024⟩, wd_64, by decide +kernel, rfl, by decide +kernel, by decide +kernel, by decide +kernel, by decide +kernel⟩
theorem wd_816 : Jvm.Cond.code yX9_down cX9_down 1 (some FieldType.int) ∈ am_ok := am_wd 816 (by decide +kernel) (by decide +kernel)
theorem wd_78 : Jvm.Cond.initialized RX9 ∈ am_ok := am_wd 78 (by decide +kernel) (by decide +kernel)
theorem mok_X9_down : am_mOK m_X9_down := ⟨Or.inl ⟨rfl, rfl, wd_816⟩, wd_78, by decide +kernel, rfl, by decide +kernel, by decide +kernel, by decide +kernel, by decide +kernel⟩
theorem wd_799 : Jvm.Cond.code yX9_of cX9_of 2 (some FieldType.int) ∈ am_ok := am_wd 799 (by decide +kernel) (by decide +kernel)
theorem mok_X9_of : am_mOK m_X9_of := ⟨Or.inl ⟨rfl, rfl, wd_799⟩, wd_78, by decide +kernel, rfl, by decide +kernel, by decide +kernel, by decide +kernel, by decide +kernel⟩
theorem wd_810 : Jvm.Cond.code yX9_right cX9_right 1 (some FieldType.int) ∈ am_ok := am_wd 810 (by decide +kernel) (by decide +kernel)
theorem mok_X9_right : am_mOK m_X9_right := ⟨Or.inl ⟨rfl, rfl, wd_810⟩, wd_78, by decide +kernel, rfl, by decide +kernel, by decide +kernel, by decide +kernel, by decide +kernel⟩
theorem wd_1028 : Jvm.Cond.code yX0_hasRoomFor cX0_hasRoomFor 2 (some FieldType.boolean) ∈ am_ok := am_wd 1028 (by decide +kernel) (by decide +kernel)
theorem mok_X0_hasRoomFor : am_mOK m_X0_hasRoomFor := ⟨Or.inl ⟨rfl, rfl, wd_1028⟩, wd_58, by decide +kernel, rfl, by decide +kernel, by decide +kernel, by decide +kernel, by decide +kernel⟩
theorem wd_94 : Jvm.Cond.code yX0_init cX0_init 1 (none) ∈ am_ok := am_wd 94 (by decide +kernel) (by decide +kernel)
theorem mok_X0_init : am_mOK m_X0_init := ⟨Or.inl ⟨rfl, rfl, wd_94⟩, wd_58, by decide +kernel, rfl, by decide +kernel, by decide +kernel, by decide +kernel, by decide +kernel⟩
theorem wd_1071 : Jvm.Cond.code yX0_steer cX0_steer 2 (some FieldType.int) ∈ am_ok := am_wd 1071 (by decide +kernel) (by decide +kernel)
theorem mok_X0_steer : am_mOK m_X0_steer := ⟨Or.inl ⟨rfl, rfl, wd_1071⟩, wd_58, by decide +kernel, rfl, by decide +kernel, by decide +kernel, by decide +kernel, by decide +kernel⟩
theorem wd_1067 : Jvm.Cond.code yX0_take cX0_take 2 (none) ∈ am_ok := am_wd 1067 (by decide +kernel) (by decide +kernel)
theorem mok_X0_take : am_mOK m_X0_take := ⟨Or.inl ⟨rfl, rfl, wd_1067⟩, wd_58, by decide +kernel, rfl, by decide +kernel, by decide +kernel, by decide +kernel, by decide +kernel⟩
theorem wd_1020 : Jvm.Cond.code yX10_end cX10_end 2 (none) ∈ am_ok := am_wd 1020 (by decide +kernel) (by decide +kernel)
theorem mok_X10_end : am_mOK m_X10_end := ⟨Or.inl ⟨rfl, rfl, wd_1020⟩, wd_65, by decide +kernel, rfl, by decide +kernel, by decide +kernel, by decide +kernel, by decide +kernel⟩
theorem wd_304 : Jvm.Cond.code yX10_init cX10_init 1 (none) ∈ am_ok := am_wd 304 (by decide +kernel) (by decide +kernel)
theorem mok_X10_init : am_mOK m_X10_init := ⟨Or.inl ⟨rfl, rfl, wd_304⟩, wd_65, by decide +kernel, rfl, by decide +kernel, by decide +kernel, by decide +kernel, by decide +kernel⟩
theorem wd_954 : Jvm.Cond.code yX10_narrow cX10_narrow 6 (none) ∈ am_ok := am_wd 954 (by decide +kernel) (by decide +kernel)
theorem mok_X10_narrow : am_mOK m_X10_narrow := ⟨Or.inl ⟨rfl, rfl, wd_954⟩, wd_65, by decide +kernel, rfl, by decide +kernel, by decide +kernel, by decide +kernel, by decide +kernel⟩
theorem wd_933 : Jvm.Cond.code yX10_start cX10_start 1 (none) ∈ am_ok := am_wd 933 (by decide +kernel) (by decide +kernel)
theorem mok_X10_start : am_mOK m_X10_start := ⟨Or.inl ⟨rfl, rfl, wd_933⟩, wd_65, by decide +kernel, rfl, by decide +kernel, by decide +kernel, by decide +kernel, by decide +kernel⟩
theorem wd_1057 : Jvm.Cond.code yX10_written cX10_written 2 (some (FieldType.array FieldType.int)) ∈ am_ok := am_wd 1057 (by decide +kernel) (by decide +kernel)
theorem mok_X10_written : am_mOK m_X10_written := ⟨Or.inl ⟨rfl, rfl, wd_1057⟩, wd_65, by decide +kernel, rfl, by decide +kernel, by decide +kernel, by decide +kernel, by decide +kernel⟩
theorem wd_1832 : Jvm.Cond.code yX12_drift cX12_drift 3 (some FieldType.int) ∈ am_ok := am_wd 1832 (by decide +kernel) (by decide +kernel)
theorem mok_X12_drift : am_mOK m_X12_drift := ⟨Or.inl ⟨rfl, rfl, wd_1832⟩, wd_68, by decide +kernel, rfl, by decide +kernel, by decide +kernel, by decide +kernel, by decide +kernel⟩
theorem wd_1501 : Jvm.Cond.code yX12_fill cX12_fill 10 (some FieldType.int) ∈ am_ok := am_wd 1501 (by decide +kernel) (by decide +kernel)
theorem mok_X12_fill : am_mOK m_X12_fill := ⟨Or.inl ⟨rfl, rfl, wd_1501⟩, wd_68, by decide +kernel, rfl, by decide +kernel, by decide +kernel, by decide +kernel, by decide +kernel⟩
theorem wd_1784 : Jvm.Cond.code yX12_heaviest cX12_heaviest 5 (some FieldType.int) ∈ am_ok := am_wd 1784 (by decide +kernel) (by decide +kernel)
theorem mok_X12_heaviest : am_mOK m_X12_heaviest := ⟨Or.inl ⟨rfl, rfl, wd_1784⟩, wd_68, by decide +kernel, rfl, by decide +kernel, by decide +kernel, by decide +kernel, by decide +kernel⟩
theorem wd_1516 : Jvm.Cond.code yX12_held cX12_held 1 (some FieldType.int) ∈ am_ok := am_wd 1516 (by decide +kernel) (by decide +kernel)
theorem mok_X12_held : am_mOK m_X12_held := ⟨Or.inl ⟨rfl, rfl, wd_1516⟩, wd_68, by decide +kernel, rfl, by decide +kernel, by decide +kernel, by decide +kernel, by decide +kernel⟩
theorem wd_1342 : Jvm.Cond.code yX12_init cX12_init 1 (none) ∈ am_ok := am_wd 1342 (by decide +kernel) (by decide +kernel)
theorem mok_X12_init : am_mOK m_X12_init := ⟨Or.inl ⟨rfl, rfl, wd_1342⟩, wd_68, by decide +kernel, rfl, by decide +kernel, by decide +kernel, by decide +kernel, by decide +kernel⟩
theorem wd_1614 : Jvm.Cond.code yX12_inside cX12_inside 1 (some FieldType.int) ∈ am_ok := am_wd 1614 (by decide +kernel) (by decide +kernel)
theorem mok_X12_inside : am_mOK m_X12_inside := ⟨Or.inl ⟨rfl, rfl, wd_1614⟩, wd_68, by decide +kernel, rfl, by decide +kernel, by decide +kernel, by decide +kernel, by decide +kernel⟩
theorem wd_1828 : Jvm.Cond.code yX12_isClean cX12_isClean 1 (some FieldType.boolean) ∈ am_ok := am_wd 1828 (by decide +kernel) (by decide +kernel)
theorem mok_X12_isClean : am_mOK m_X12_isClean := ⟨Or.inl ⟨rfl, rfl, wd_1828⟩, wd_68, by decide +kernel, rfl, by decide +kernel, by decide +kernel, by decide +kernel, by decide +kernel⟩
theorem wd_1535 : Jvm.Cond.code yX12_isPixel cX12_isPixel 2 (some FieldType.boolean) ∈ am_ok := am_wd 1535 (by decide +kernel) (by decide +kernel)
theorem mok_X12_isPixel : am_mOK m_X12_isPixel := ⟨Or.inl ⟨rfl, rfl, wd_1535⟩, wd_68, by decide +kernel, rfl, by decide +kernel, by decide +kernel, by decide +kernel, by decide +kernel⟩
theorem wd_1572 : Jvm.Cond.code yX12_isSplit cX12_isSplit 7 (some FieldType.boolean) ∈ am_ok := am_wd 1572 (by decide +kernel) (by decide +kernel)
theorem mok_X12_isSplit : am_mOK m_X12_isSplit := ⟨Or.inl ⟨rfl, rfl, wd_1572⟩, wd_68, by decide +kernel, rfl, by decide +kernel, by decide +kernel, by decide +kernel, by decide +kernel⟩
theorem wd_1812 : Jvm.Cond.code yX12_join cX12_join 3 (some FieldType.int) ∈ am_ok := am_wd 1812 (by decide +kernel) (by decide +kernel)
theorem mok_X12_join : am_mOK m_X12_join := ⟨Or.inl ⟨rfl, rfl, wd_1812⟩, wd_68, by decide +kernel, rfl, by decide +kernel, by decide +kernel, by decide +kernel, by decide +kernel⟩
theorem wd_1705 : Jvm.Cond.code yX12_keeps_ cX12_keeps_ 4 (some FieldType.int) ∈ am_ok := am_wd 1705 (by decide +kernel) (by decide +kernel)
theorem mok_X12_keeps_ : am_mOK m_X12_keeps_ := ⟨Or.inl ⟨rfl, rfl, wd_1705⟩, wd_68, by decide +kernel, rfl, by decide +kernel, by decide +kernel, by decide +kernel, by decide +kernel⟩
theorem wd_1717 : Jvm.Cond.code yX12_keptAt cX12_keptAt 2 (some FieldType.int) ∈ am_ok := am_wd 1717 (by decide +kernel) (by decide +kernel)
theorem mok_X12_keptAt : am_mOK m_X12_keptAt := ⟨Or.inl ⟨rfl, rfl, wd_1717⟩, wd_68, by decide +kernel, rfl, by decide +kernel, by decide +kernel, by decide +kernel, by decide +kernel⟩
theorem wd_1804 : Jvm.Cond.code yX12_leant cX12_leant 4 (some (FieldType.array FieldType.int)) ∈ am_ok := am_wd 1804 (by decide +kernel) (by decide +kernel)
theorem mok_X12_leant : am_mOK m_X12_leant := ⟨Or.inl ⟨rfl, rfl, wd_1804⟩, wd_68, by decide +kernel, rfl, by decide +kernel, by decide +kernel, by decide +kernel, by decide +kernel⟩
theorem wd_1694 : Jvm.Cond.code yX12_meets cX12_meets 5 (none) ∈ am_ok := am_wd 1694 (by decide +kernel) (by decide +kernel)
theorem mok_X12_meets : am_mOK m_X12_meets := ⟨Or.inl ⟨rfl, rfl, wd_1694⟩, wd_68, by decide +kernel, rfl, by decide +kernel, by decide +kernel, by decide +kernel, by decide +kernel⟩
theorem wd_1522 : Jvm.Cond.code yX12_move cX12_move 7 (some FieldType.int) ∈ am_ok := am_wd 1522 (by decide +kernel) (by decide +kernel)
theorem mok_X12_move : am_mOK m_X12_move := ⟨Or.inl ⟨rfl, rfl, wd_1522⟩, wd_68, by decide +kernel, rfl, by decide +kernel, by decide +kernel, by decide +kernel, by decide +kernel⟩
theorem wd_1733 : Jvm.Cond.code yX12_noPicture cX12_noPicture 2 (some FieldType.boolean) ∈ am_ok := am_wd 1733 (by decide +kernel) (by decide +kernel)
theorem mok_X12_noPicture : am_mOK m_X12_noPicture := ⟨Or.inl ⟨rfl, rfl, wd_1733⟩, wd_68, by decide +kernel, rfl, by decide +kernel, by decide +kernel, by decide +kernel, by decide +kernel⟩
theorem wd_1745 : Jvm.Cond.code yX12_noSlice cX12_noSlice 3 (some FieldType.boolean) ∈ am_ok := am_wd 1745 (by decide +kernel) (by decide +kernel)
theorem mok_X12_noSlice : am_mOK m_X12_noSlice := ⟨Or.inl ⟨rfl, rfl, wd_1745⟩, wd_68, by decide +kernel, rfl, by decide +kernel, by decide +kernel, by decide +kernel, by decide +kernel⟩
theorem wd_1648 : Jvm.Cond.code yX12_says cX12_says 5 (none) ∈ am_ok := am_wd 1648 (by decide +kernel) (by decide +kernel)
theorem mok_X12_says : am_mOK m_X12_says := ⟨Or.inl ⟨rfl, rfl, wd_1648⟩, wd_68, by decide +kernel, rfl, by decide +kernel, by decide +kernel, by decide +kernel, by decide +kernel⟩
theorem wd_1680 : Jvm.Cond.code yX12_saysPlain cX12_saysPlain 2 (none) ∈ am_ok := am_wd 1680 (by decide +kernel) (by decide +kernel)
theorem mok_X12_saysPlain : am_mOK m_X12_saysPlain := ⟨Or.inl ⟨rfl, rfl, wd_1680⟩, wd_68, by decide +kernel, rfl, by decide +kernel, by decide +kernel, by decide +kernel, by decide +kernel⟩
theorem wd_1555 : Jvm.Cond.code yX12_setBucket cX12_setBucket 4 (some FieldType.int) ∈ am_ok := am_wd 1555 (by decide +kernel) (by decide +kernel)
theorem mok_X12_setBucket : am_mOK m_X12_setBucket := ⟨Or.inl ⟨rfl, rfl, wd_1555⟩, wd_68, by decide +kernel, rfl, by decide +kernel, by decide +kernel, by decide +kernel, by decide +kernel⟩
theorem wd_1539 : Jvm.Cond.code yX12_setCoarseness cX12_setCoarseness 3 (some FieldType.int) ∈ am_ok := am_wd 1539 (by decide +kernel) (by decide +kernel)
theorem mok_X12_setCoarseness : am_mOK m_X12_setCoarseness := ⟨Or.inl ⟨rfl, rfl, wd_1539⟩, wd_68, by decide +kernel, rfl, by decide +kernel, by decide +kernel, by decide +kernel, by decide +kernel⟩
theorem wd_1547 : Jvm.Cond.code yX12_setSlices cX12_setSlices 3 (some FieldType.int) ∈ am_ok := am_wd 1547 (by decide +kernel) (by decide +kernel)
theorem mok_X12_setSlices : am_mOK m_X12_setSlices := ⟨Or.inl ⟨rfl, rfl, wd_1547⟩, wd_68, by decide +kernel, rfl, by decide +kernel, by decide +kernel, by decide +kernel, by decide +kernel⟩
theorem wd_1543 : Jvm.Cond.code yX12_setTools cX12_setTools 3 (some FieldType.int) ∈ am_ok := am_wd 1543 (by decide +kernel) (by decide +kernel)
theorem mok_X12_setTools : am_mOK m_X12_setTools := ⟨Or.inl ⟨rfl, rfl, wd_1543⟩, wd_68, by decide +kernel, rfl, by decide +kernel, by decide +kernel, by decide +kernel, by decide +kernel⟩
theorem wd_1816 : Jvm.Cond.code yX12_shown cX12_shown 1 (some FieldType.int) ∈ am_ok := am_wd 1816 (by decide +kernel) (by decide +kernel)
theorem mok_X12_shown : am_mOK m_X12_shown := ⟨Or.inl ⟨rfl, rfl, wd_1816⟩, wd_68, by decide +kernel, rfl, by decide +kernel, by decide +kernel, by decide +kernel, by decide +kernel⟩
theorem wd_1508 : Jvm.Cond.code yX12_slope cX12_slope 6 (some FieldType.int) ∈ am_ok := am_wd 1508 (by decide +kernel) (by decide +kernel)
theorem mok_X12_slope : am_mOK m_X12_slope := ⟨Or.inl ⟨rfl, rfl, wd_1508⟩, wd_68, by decide +kernel, rfl, by decide +kernel, by decide +kernel, by decide +kernel, by decide +kernel⟩
theorem wd_1625 : Jvm.Cond.code yX12_turned cX12_turned 5 (some (FieldType.array FieldType.int)) ∈ am_ok := am_wd 1625 (by decide +kernel) (by decide +kernel)
theorem mok_X12_turned : am_mOK m_X12_turned := ⟨Or.inl ⟨rfl, rfl, wd_1625⟩, wd_68, by decide +kernel, rfl, by decide +kernel, by decide +kernel, by decide +kernel, by decide +kernel⟩
theorem wd_832 : Jvm.Cond.code yX1_bordering cX1_bordering 4 (some FieldType.int) ∈ am_ok := am_wd 832 (by decide +kernel) (by decide +kernel)
theorem wd_61 : Jvm.Cond.initialized RX1 ∈ am_ok := am_wd 61 (by decide +kernel) (by decide +kernel)
theorem mok_X1_bordering : am_mOK m_X1_bordering := ⟨Or.inl ⟨rfl, rfl, wd_832⟩, wd_61, by decide +kernel, rfl, by decide +kernel, by decide +kernel, by decide +kernel, by decide +kernel⟩
theorem wd_853 : Jvm.Cond.code yX1_fromBorder cX1_fromBorder 4 (some FieldType.int) ∈ am_ok := am_wd 853 (by decide +kernel) (by decide +kernel)
theorem mok_X1_fromBorder : am_mOK m_X1_fromBorder := ⟨Or.inl ⟨rfl, rfl, wd_853⟩, wd_61, by decide +kernel, rfl, by decide +kernel, by decide +kernel, by decide +kernel, by decide +kernel⟩
theorem wd_874 : Jvm.Cond.code yX1_guessError cX1_guessError 7 (some FieldType.int) ∈ am_ok := am_wd 874 (by decide +kernel) (by decide +kernel)
theorem mok_X1_guessError : am_mOK m_X1_guessError := ⟨Or.inl ⟨rfl, rfl, wd_874⟩, wd_61, by decide +kernel, rfl, by decide +kernel, by decide +kernel, by decide +kernel, by decide +kernel⟩
theorem wd_911 : Jvm.Cond.code yX1_levelOf cX1_levelOf 3 (some FieldType.int) ∈ am_ok := am_wd 911 (by decide +kernel) (by decide +kernel)
theorem mok_X1_levelOf : am_mOK m_X1_levelOf := ⟨Or.inl ⟨rfl, rfl, wd_911⟩, wd_61, by decide +kernel, rfl, by decide +kernel, by decide +kernel, by decide +kernel, by decide +kernel⟩
theorem wd_923 : Jvm.Cond.code yX1_smoothPair cX1_smoothPair 7 (none) ∈ am_ok := am_wd 923 (by decide +kernel) (by decide +kernel)
theorem mok_X1_smoothPair : am_mOK m_X1_smoothPair := ⟨Or.inl ⟨rfl, rfl, wd_923⟩, wd_61, by decide +kernel, rfl, by decide +kernel, by decide +kernel, by decide +kernel, by decide +kernel⟩
theorem wd_908 : Jvm.Cond.code yX1_transformLine cX1_transformLine 7 (none) ∈ am_ok := am_wd 908 (by decide +kernel) (by decide +kernel)
theorem mok_X1_transformLine : am_mOK m_X1_transformLine := ⟨Or.inl ⟨rfl, rfl, wd_908⟩, wd_61, by decide +kernel, rfl, by decide +kernel, by decide +kernel, by decide +kernel, by decide +kernel⟩
theorem wd_764 : Jvm.Cond.code yX2_isToSplit cX2_isToSplit 9 (some FieldType.boolean) ∈ am_ok := am_wd 764 (by decide +kernel) (by decide +kernel)
theorem wd_60 : Jvm.Cond.initialized RX2 ∈ am_ok := am_wd 60 (by decide +kernel) (by decide +kernel)
theorem mok_X2_isToSplit : am_mOK m_X2_isToSplit := ⟨Or.inl ⟨rfl, rfl, wd_764⟩, wd_60, by decide +kernel, rfl, by decide +kernel, by decide +kernel, by decide +kernel, by decide +kernel⟩
theorem wd_1246 : Jvm.Cond.code yX3_conceal cX3_conceal 4 (none) ∈ am_ok := am_wd 1246 (by decide +kernel) (by decide +kernel)
theorem wd_66 : Jvm.Cond.initialized RX3 ∈ am_ok := am_wd 66 (by decide +kernel) (by decide +kernel)
theorem mok_X3_conceal : am_mOK m_X3_conceal := ⟨Or.inl ⟨rfl, rfl, wd_1246⟩, wd_66, by decide +kernel, rfl, by decide +kernel, by decide +kernel, by decide +kernel, by decide +kernel⟩
theorem wd_1264 : Jvm.Cond.code yX3_keep cX3_keep 1 (none) ∈ am_ok := am_wd 1264 (by decide +kernel) (by decide +kernel)
theorem mok_X3_keep : am_mOK m_X3_keep := ⟨Or.inl ⟨rfl, rfl, wd_1264⟩, wd_66, by decide +kernel, rfl, by decide +kernel, by decide +kernel, by decide +kernel, by decide +kernel⟩
theorem wd_1259 : Jvm.Cond.code yX3_leansOnClean cX3_leansOnClean 2 (some FieldType.boolean) ∈ am_ok := am_wd 1259 (by decide +kernel) (by decide +kernel)
theorem mok_X3_leansOnClean : am_mOK m_X3_leansOnClean := ⟨Or.inl ⟨rfl, rfl, wd_1259⟩, wd_66, by decide +kernel, rfl, by decide +kernel, by decide +kernel, by decide +kernel, by decide +kernel⟩
theorem wd_396 : Jvm.Cond.code yX3_startAt cX3_startAt 2 (none) ∈ am_ok := am_wd 396 (by decide +kernel) (by decide +kernel)
theorem mok_X3_startAt : am_mOK m_X3_startAt := ⟨Or.inl ⟨rfl, rfl, wd_396⟩, wd_66, by decide +kernel, rfl, by decide +kernel, by decide +kernel, by decide +kernel, by decide +kernel⟩
theorem wd_739 : Jvm.Cond.code yX4_between cX4_between 9 (some FieldType.int) ∈ am_ok := am_wd 739 (by decide +kernel) (by decide +kernel)
theorem mok_X4_between : am_mOK m_X4_between := ⟨Or.inl ⟨rfl, rfl, wd_739⟩, wd_62, by decide +kernel, rfl, by decide +kernel, by decide +kernel, by decide +kernel, by decide +kernel⟩
theorem wd_866 : Jvm.Cond.code yX4_guessed cX4_guessed 4 (some FieldType.int) ∈ am_ok := am_wd 866 (by decide +kernel) (by decide +kernel)
theorem mok_X4_guessed : am_mOK m_X4_guessed := ⟨Or.inl ⟨rfl, rfl, wd_866⟩, wd_62, by decide +kernel, rfl, by decide +kernel, by decide +kernel, by decide +kernel, by decide +kernel⟩
theorem wd_202 : Jvm.Cond.code yX4_init cX4_init 1 (none) ∈ am_ok := am_wd 202 (by decide +kernel) (by decide +kernel)
theorem mok_X4_init : am_mOK m_X4_init := ⟨Or.inl ⟨rfl, rfl, wd_202⟩, wd_62, by decide +kernel, rfl, by decide +kernel, by decide +kernel, by decide +kernel, by decide +kernel⟩
theorem wd_824 : Jvm.Cond.code yX4_rowDifference cX4_rowDifference 7 (some FieldType.int) ∈ am_ok := am_wd 824 (by decide +kernel) (by decide +kernel)
theorem mok_X4_rowDifference : am_mOK m_X4_rowDifference := ⟨Or.inl ⟨rfl, rfl, wd_824⟩, wd_62, by decide +kernel, rfl, by decide +kernel, by decide +kernel, by decide +kernel, by decide +kernel⟩
theorem wd_241 : Jvm.Cond.code yX5_init cX5_init 1 (none) ∈ am_ok := am_wd 241 (by decide +kernel) (by decide +kernel)
theorem mok_X5_init : am_mOK m_X5_init := ⟨Or.inl ⟨rfl, rfl, wd_241⟩, wd_63, by decide +kernel, rfl, by decide +kernel, by decide +kernel, by decide +kernel, by decide +kernel⟩
theorem wd_1063 : Jvm.Cond.code yX6_finish cX6_finish 6 (none) ∈ am_ok := am_wd 1063 (by decide +kernel) (by decide +kernel)
theorem mok_X6_finish : am_mOK m_X6_finish := ⟨Or.inl ⟨rfl, rfl, wd_1063⟩, wd_59, by decide +kernel, rfl, by decide +kernel, by decide +kernel, by decide +kernel, by decide +kernel⟩
theorem wd_113 : Jvm.Cond.code yX6_init cX6_init 1 (none) ∈ am_ok := am_wd 113 (by decide +kernel) (by decide +kernel)
theorem mok_X6_init : am_mOK m_X6_init := ⟨Or.inl ⟨rfl, rfl, wd_113⟩, wd_59, by decide +kernel, rfl, by decide +kernel, by decide +kernel, by decide +kernel, by decide +kernel⟩
theorem wd_942 : Jvm.Cond.code yX6_isSplitAt cX6_isSplitAt 2 (some FieldType.boolean) ∈ am_ok := am_wd 942 (by decide +kernel) (by decide +kernel)
theorem mok_X6_isSplitAt : am_mOK m_X6_isSplitAt := ⟨Or.inl ⟨rfl, rfl, wd_942⟩, wd_59, by decide +kernel, rfl, by decide +kernel, by decide +kernel, by decide +kernel, by decide +kernel⟩
theorem wd_839 : Jvm.Cond.code yX6_modeCount cX6_modeCount 1 (some FieldType.int) ∈ am_ok := am_wd 839 (by decide +kernel) (by decide +kernel)
theorem mok_X6_modeCount : am_mOK m_X6_modeCount := ⟨Or.inl ⟨rfl, rfl, wd_839⟩, wd_59, by decide +kernel, rfl, by decide +kernel, by decide +kernel, by decide +kernel, by decide +kernel⟩
theorem wd_887 : Jvm.Cond.code yX6_note cX6_note 5 (none) ∈ am_ok := am_wd 887 (by decide +kernel) (by decide +kernel)
theorem mok_X6_note : am_mOK m_X6_note := ⟨Or.inl ⟨rfl, rfl, wd_887⟩, wd_59, by decide +kernel, rfl, by decide +kernel, by decide +kernel, by decide +kernel, by decide +kernel⟩
theorem wd_780 : Jvm.Cond.code yX6_topOf cX6_topOf 2 (some FieldType.int) ∈ am_ok := am_wd 780 (by decide +kernel) (by decide +kernel)
theorem mok_X6_topOf : am_mOK m_X6_topOf := ⟨Or.inl ⟨rfl, rfl, wd_780⟩, wd_59, by decide +kernel, rfl, by decide +kernel, by decide +kernel, by decide +kernel, by decide +kernel⟩
theorem wd_807 : Jvm.Cond.code yX9_length cX9_length 1 (some FieldType.int) ∈ am_ok := am_wd 807 (by decide +kernel) (by decide +kernel)
theorem mok_X9_length : am_mOK m_X9_length := ⟨Or.inl ⟨rfl, rfl, wd_807⟩, wd_78, by decide +kernel, rfl, by decide +kernel, by decide +kernel, by decide +kernel, by decide +kernel⟩
theorem wd_947 : Jvm.Cond.code yX10_bit cX10_bit 6 (none) ∈ am_ok := am_wd 947 (by decide +kernel) (by decide +kernel)
theorem mok_X10_bit : am_mOK m_X10_bit := ⟨Or.inl ⟨rfl, rfl, wd_947⟩, wd_65, by decide +kernel, rfl, by decide +kernel, by decide +kernel, by decide +kernel, by decide +kernel⟩
theorem wd_998 : Jvm.Cond.code yX10_plain cX10_plain 4 (none) ∈ am_ok := am_wd 998 (by decide +kernel) (by decide +kernel)
theorem mok_X10_plain : am_mOK m_X10_plain := ⟨Or.inl ⟨rfl, rfl, wd_998⟩, wd_65, by decide +kernel, rfl, by decide +kernel, by decide +kernel, by decide +kernel, by decide +kernel⟩
theorem wd_1075 : Jvm.Cond.code yX11_takeDraft cX11_takeDraft 1 (none) ∈ am_ok := am_wd 1075 (by decide +kernel) (by decide +kernel)
theorem mok_X11_takeDraft : am_mOK m_X11_takeDraft := ⟨Or.inl ⟨rfl, rfl, wd_1075⟩, wd_57, by decide +kernel, rfl, by decide +kernel, by decide +kernel, by decide +kernel, by decide +kernel⟩
theorem wd_1611 : Jvm.Cond.code yX12_at cX12_at 3 (some FieldType.int) ∈ am_ok := am_wd 1611 (by decide +kernel) (by decide +kernel)
theorem mok_X12_at : am_mOK m_X12_at := ⟨Or.inl ⟨rfl, rfl, wd_1611⟩, wd_68, by decide +kernel, rfl, by decide +kernel, by decide +kernel, by decide +kernel, by decide +kernel⟩
theorem wd_1635 : Jvm.Cond.code yX12_back cX12_back 7 (some (FieldType.array FieldType.int)) ∈ am_ok := am_wd 1635 (by decide +kernel) (by decide +kernel)
theorem mok_X12_back : am_mOK m_X12_back := ⟨Or.inl ⟨rfl, rfl, wd_1635⟩, wd_68, by decide +kernel, rfl, by decide +kernel, by decide +kernel, by decide +kernel, by decide +kernel⟩
theorem wd_1596 : Jvm.Cond.code yX12_byBorder cX12_byBorder 13 (some FieldType.int) ∈ am_ok := am_wd 1596 (by decide +kernel) (by decide +kernel)
theorem mok_X12_byBorder : am_mOK m_X12_byBorder := ⟨Or.inl ⟨rfl, rfl, wd_1596⟩, wd_68, by decide +kernel, rfl, by decide +kernel, by decide +kernel, by decide +kernel, by decide +kernel⟩
theorem wd_1749 : Jvm.Cond.code yX12_byteAt cX12_byteAt 5 (some FieldType.int) ∈ am_ok := am_wd 1749 (by decide +kernel) (by decide +kernel)
theorem mok_X12_byteAt : am_mOK m_X12_byteAt := ⟨Or.inl ⟨rfl, rfl, wd_1749⟩, wd_68, by decide +kernel, rfl, by decide +kernel, by decide +kernel, by decide +kernel, by decide +kernel⟩
theorem wd_1741 : Jvm.Cond.code yX12_bytes cX12_bytes 3 (some FieldType.int) ∈ am_ok := am_wd 1741 (by decide +kernel) (by decide +kernel)
theorem mok_X12_bytes : am_mOK m_X12_bytes := ⟨Or.inl ⟨rfl, rfl, wd_1741⟩, wd_68, by decide +kernel, rfl, by decide +kernel, by decide +kernel, by decide +kernel, by decide +kernel⟩
theorem wd_1737 : Jvm.Cond.code yX12_coarsenessOf cX12_coarsenessOf 2 (some FieldType.int) ∈ am_ok := am_wd 1737 (by decide +kernel) (by decide +kernel)
theorem mok_X12_coarsenessOf : am_mOK m_X12_coarsenessOf := ⟨Or.inl ⟨rfl, rfl, wd_1737⟩, wd_68, by decide +kernel, rfl, by decide +kernel, by decide +kernel, by decide +kernel, by decide +kernel⟩
theorem wd_1622 : Jvm.Cond.code yX12_codesSquare cX12_codesSquare 8 (none) ∈ am_ok := am_wd 1622 (by decide +kernel) (by decide +kernel)
theorem mok_X12_codesSquare : am_mOK m_X12_codesSquare := ⟨Or.inl ⟨rfl, rfl, wd_1622⟩, wd_68, by decide +kernel, rfl, by decide +kernel, by decide +kernel, by decide +kernel, by decide +kernel⟩
theorem wd_1780 : Jvm.Cond.code yX12_errorOf cX12_errorOf 2 (some FieldType.long) ∈ am_ok := am_wd 1780 (by decide +kernel) (by decide +kernel)
theorem mok_X12_errorOf : am_mOK m_X12_errorOf := ⟨Or.inl ⟨rfl, rfl, wd_1780⟩, wd_68, by decide +kernel, rfl, by decide +kernel, by decide +kernel, by decide +kernel, by decide +kernel⟩
theorem wd_1512 : Jvm.Cond.code yX12_grain cX12_grain 5 (some FieldType.int) ∈ am_ok := am_wd 1512 (by decide +kernel) (by decide +kernel)
theorem mok_X12_grain : am_mOK m_X12_grain := ⟨Or.inl ⟨rfl, rfl, wd_1512⟩, wd_68, by decide +kernel, rfl, by decide +kernel, by decide +kernel, by decide +kernel, by decide +kernel⟩
theorem wd_1698 : Jvm.Cond.code yX12_keeps cX12_keeps 7 (none) ∈ am_ok := am_wd 1698 (by decide +kernel) (by decide +kernel)
theorem mok_X12_keeps : am_mOK m_X12_keeps := ⟨Or.inl ⟨rfl, rfl, wd_1698⟩, wd_68, by decide +kernel, rfl, by decide +kernel, by decide +kernel, by decide +kernel, by decide +kernel⟩
theorem wd_1729 : Jvm.Cond.code yX12_kindOf cX12_kindOf 2 (some FieldType.char) ∈ am_ok := am_wd 1729 (by decide +kernel) (by decide +kernel)
theorem mok_X12_kindOf : am_mOK m_X12_kindOf := ⟨Or.inl ⟨rfl, rfl, wd_1729⟩, wd_68, by decide +kernel, rfl, by decide +kernel, by decide +kernel, by decide +kernel, by decide +kernel⟩
theorem wd_1757 : Jvm.Cond.code yX12_noPlace cX12_noPlace 4 (some FieldType.boolean) ∈ am_ok := am_wd 1757 (by decide +kernel) (by decide +kernel)
theorem mok_X12_noPlace : am_mOK m_X12_noPlace := ⟨Or.inl ⟨rfl, rfl, wd_1757⟩, wd_68, by decide +kernel, rfl, by decide +kernel, by decide +kernel, by decide +kernel, by decide +kernel⟩
theorem wd_1532 : Jvm.Cond.code yX12_pixel cX12_pixel 3 (some FieldType.int) ∈ am_ok := am_wd 1532 (by decide +kernel) (by decide +kernel)
theorem mok_X12_pixel : am_mOK m_X12_pixel := ⟨Or.inl ⟨rfl, rfl, wd_1532⟩, wd_68, by decide +kernel, rfl, by decide +kernel, by decide +kernel, by decide +kernel, by decide +kernel⟩
theorem wd_1676 : Jvm.Cond.code yX12_saysNumber cX12_saysNumber 6 (none) ∈ am_ok := am_wd 1676 (by decide +kernel) (by decide +kernel)
theorem mok_X12_saysNumber : am_mOK m_X12_saysNumber := ⟨Or.inl ⟨rfl, rfl, wd_1676⟩, wd_68, by decide +kernel, rfl, by decide +kernel, by decide +kernel, by decide +kernel, by decide +kernel⟩
theorem wd_1824 : Jvm.Cond.code yX12_shownAt cX12_shownAt 3 (some FieldType.int) ∈ am_ok := am_wd 1824 (by decide +kernel) (by decide +kernel)
theorem mok_X12_shownAt : am_mOK m_X12_shownAt := ⟨Or.inl ⟨rfl, rfl, wd_1824⟩, wd_68, by decide +kernel, rfl, by decide +kernel, by decide +kernel, by decide +kernel, by decide +kernel⟩
theorem wd_1691 : Jvm.Cond.code yX12_smooths cX12_smooths 6 (none) ∈ am_ok := am_wd 1691 (by decide +kernel) (by decide +kernel)
theorem mok_X12_smooths : am_mOK m_X12_smooths := ⟨Or.inl ⟨rfl, rfl, wd_1691⟩, wd_68, by decide +kernel, rfl, by decide +kernel, by decide +kernel, by decide +kernel, by decide +kernel⟩
theorem wd_858 : Jvm.Cond.code yX1_fromKept cX1_fromKept 5 (some FieldType.int) ∈ am_ok := am_wd 858 (by decide +kernel) (by decide +kernel)
theorem mok_X1_fromKept : am_mOK m_X1_fromKept := ⟨Or.inl ⟨rfl, rfl, wd_858⟩, wd_61, by decide +kernel, rfl, by decide +kernel, by decide +kernel, by decide +kernel, by decide +kernel⟩
theorem wd_196 : Jvm.Cond.code yX1_init cX1_init 1 (none) ∈ am_ok := am_wd 196 (by decide +kernel) (by decide +kernel)
theorem mok_X1_init : am_mOK m_X1_init := ⟨Or.inl ⟨rfl, rfl, wd_196⟩, wd_61, by decide +kernel, rfl, by decide +kernel, by decide +kernel, by decide +kernel, by decide +kernel⟩
theorem wd_919 : Jvm.Cond.code yX1_smooth cX1_smooth 6 (none) ∈ am_ok := am_wd 919 (by decide +kernel) (by decide +kernel)
theorem mok_X1_smooth : am_mOK m_X1_smooth := ⟨Or.inl ⟨rfl, rfl, wd_919⟩, wd_61, by decide +kernel, rfl, by decide +kernel, by decide +kernel, by decide +kernel, by decide +kernel⟩
theorem wd_829 : Jvm.Cond.code yX1_takeBorder cX1_takeBorder 7 (none) ∈ am_ok := am_wd 829 (by decide +kernel) (by decide +kernel)
theorem mok_X1_takeBorder : am_mOK m_X1_takeBorder := ⟨Or.inl ⟨rfl, rfl, wd_829⟩, wd_61, by decide +kernel, rfl, by decide +kernel, by decide +kernel, by decide +kernel, by decide +kernel⟩
theorem wd_904 : Jvm.Cond.code yX1_transform cX1_transform 2 (none) ∈ am_ok := am_wd 904 (by decide +kernel) (by decide +kernel)
theorem mok_X1_transform : am_mOK m_X1_transform := ⟨Or.inl ⟨rfl, rfl, wd_904⟩, wd_61, by decide +kernel, rfl, by decide +kernel, by decide +kernel, by decide +kernel, by decide +kernel⟩
theorem wd_804 : Jvm.Cond.code yX4_costOf cX4_costOf 9 (some FieldType.int) ∈ am_ok := am_wd 804 (by decide +kernel) (by decide +kernel)
theorem mok_X4_costOf : am_mOK m_X4_costOf := ⟨Or.inl ⟨rfl, rfl, wd_804⟩, wd_62, by decide +kernel, rfl, by decide +kernel, by decide +kernel, by decide +kernel, by decide +kernel⟩
theorem wd_736 : Jvm.Cond.code yX4_take cX4_take 5 (none) ∈ am_ok := am_wd 736 (by decide +kernel) (by decide +kernel)
theorem mok_X4_take : am_mOK m_X4_take := ⟨Or.inl ⟨rfl, rfl, wd_736⟩, wd_62, by decide +kernel, rfl, by decide +kernel, by decide +kernel, by decide +kernel, by decide +kernel⟩
theorem wd_879 : Jvm.Cond.code yX5_extraCost cX5_extraCost 2 (some FieldType.int) ∈ am_ok := am_wd 879 (by decide +kernel) (by decide +kernel)
theorem mok_X5_extraCost : am_mOK m_X5_extraCost := ⟨Or.inl ⟨rfl, rfl, wd_879⟩, wd_63, by decide +kernel, rfl, by decide +kernel, by decide +kernel, by decide +kernel, by decide +kernel⟩
theorem wd_970 : Jvm.Cond.code yX6_recall cX6_recall 4 (none) ∈ am_ok := am_wd 970 (by decide +kernel) (by decide +kernel)
theorem mok_X6_recall : am_mOK m_X6_recall := ⟨Or.inl ⟨rfl, rfl, wd_970⟩, wd_59, by decide +kernel, rfl, by decide +kernel, by decide +kernel, by decide +kernel, by decide +kernel⟩
theorem wd_964 : Jvm.Cond.code yX6_startsPart cX6_startsPart 2 (some FieldType.boolean) ∈ am_ok := am_wd 964 (by decide +kernel) (by decide +kernel)
theorem mok_X6_startsPart : am_mOK m_X6_startsPart := ⟨Or.inl ⟨rfl, rfl, wd_964⟩, wd_59, by decide +kernel, rfl, by decide +kernel, by decide +kernel, by decide +kernel, by decide +kernel⟩
theorem wd_298 : Jvm.Cond.code yX8_init cX8_init 1 (none) ∈ am_ok := am_wd 298 (by decide +kernel) (by decide +kernel)
theorem mok_X8_init : am_mOK m_X8_init := ⟨Or.inl ⟨rfl, rfl, wd_298⟩, wd_64, by decide +kernel, rfl, by decide +kernel, by decide +kernel, by decide +kernel, by decide +kernel⟩
theorem wd_1053 : Jvm.Cond.code yX8_slice cX8_slice 2 (some (FieldType.array FieldType.int)) ∈ am_ok := am_wd 1053 (by decide +kernel) (by decide +kernel)
theorem mok_X8_slice : am_mOK m_X8_slice := ⟨Or.inl ⟨rfl, rfl, wd_1053⟩, wd_64, by decide +kernel, rfl, by decide +kernel, by decide +kernel, by decide +kernel, by decide +kernel⟩
theorem wd_992 : Jvm.Cond.code yX10_number cX10_number 7 (none) ∈ am_ok := am_wd 992 (by decide +kernel) (by decide +kernel)
theorem mok_X10_number : am_mOK m_X10_number := ⟨Or.inl ⟨rfl, rfl, wd_992⟩, wd_65, by decide +kernel, rfl, by decide +kernel, by decide +kernel, by decide +kernel, by decide +kernel⟩
theorem wd_1776 : Jvm.Cond.code yX12_built cX12_built 4 (some FieldType.int) ∈ am_ok := am_wd 1776 (by decide +kernel) (by decide +kernel)
theorem mok_X12_built : am_mOK m_X12_built := ⟨Or.inl ⟨rfl, rfl, wd_1776⟩, wd_68, by decide +kernel, rfl, by decide +kernel, by decide +kernel, by decide +kernel, by decide +kernel⟩
theorem wd_1608 : Jvm.Cond.code yX12_byVector cX12_byVector 10 (some FieldType.int) ∈ am_ok := am_wd 1608 (by decide +kernel) (by decide +kernel)
theorem mok_X12_byVector : am_mOK m_X12_byVector := ⟨Or.inl ⟨rfl, rfl, wd_1608⟩, wd_68, by decide +kernel, rfl, by decide +kernel, by decide +kernel, by decide +kernel, by decide +kernel⟩
theorem wd_1772 : Jvm.Cond.code yX12_levelAt cX12_levelAt 4 (some FieldType.int) ∈ am_ok := am_wd 1772 (by decide +kernel) (by decide +kernel)
theorem mok_X12_levelAt : am_mOK m_X12_levelAt := ⟨Or.inl ⟨rfl, rfl, wd_1772⟩, wd_68, by decide +kernel, rfl, by decide +kernel, by decide +kernel, by decide +kernel, by decide +kernel⟩
theorem wd_1764 : Jvm.Cond.code yX12_modeAt cX12_modeAt 4 (some FieldType.int) ∈ am_ok := am_wd 1764 (by decide +kernel) (by decide +kernel)
theorem mok_X12_modeAt : am_mOK m_X12_modeAt := ⟨Or.inl ⟨rfl, rfl, wd_1764⟩, wd_68, by decide +kernel, rfl, by decide +kernel, by decide +kernel, by decide +kernel, by decide +kernel⟩
theorem wd_1753 : Jvm.Cond.code yX12_partAt cX12_partAt 4 (some FieldType.int) ∈ am_ok := am_wd 1753 (by decide +kernel) (by decide +kernel)
theorem mok_X12_partAt : am_mOK m_X12_partAt := ⟨Or.inl ⟨rfl, rfl, wd_1753⟩, wd_68, by decide +kernel, rfl, by decide +kernel, by decide +kernel, by decide +kernel, by decide +kernel⟩
theorem wd_1685 : Jvm.Cond.code yX12_saysSquare cX12_saysSquare 7 (none) ∈ am_ok := am_wd 1685 (by decide +kernel) (by decide +kernel)
theorem mok_X12_saysSquare : am_mOK m_X12_saysSquare := ⟨Or.inl ⟨rfl, rfl, wd_1685⟩, wd_68, by decide +kernel, rfl, by decide +kernel, by decide +kernel, by decide +kernel, by decide +kernel⟩
theorem wd_1672 : Jvm.Cond.code yX12_saysVector cX12_saysVector 5 (none) ∈ am_ok := am_wd 1672 (by decide +kernel) (by decide +kernel)
theorem mok_X12_saysVector : am_mOK m_X12_saysVector := ⟨Or.inl ⟨rfl, rfl, wd_1672⟩, wd_68, by decide +kernel, rfl, by decide +kernel, by decide +kernel, by decide +kernel, by decide +kernel⟩
theorem wd_1768 : Jvm.Cond.code yX12_vectorAt cX12_vectorAt 7 (some FieldType.int) ∈ am_ok := am_wd 1768 (by decide +kernel) (by decide +kernel)
theorem mok_X12_vectorAt : am_mOK m_X12_vectorAt := ⟨Or.inl ⟨rfl, rfl, wd_1768⟩, wd_68, by decide +kernel, rfl, by decide +kernel, by decide +kernel, by decide +kernel, by decide +kernel⟩
theorem wd_915 : Jvm.Cond.code yX1_buildSquare cX1_buildSquare 7 (none) ∈ am_ok := am_wd 915 (by decide +kernel) (by decide +kernel)
theorem mok_X1_buildSquare : am_mOK m_X1_buildSquare := ⟨Or.inl ⟨rfl, rfl, wd_915⟩, wd_61, by decide +kernel, rfl, by decide +kernel, by decide +kernel, by decide +kernel, by decide +kernel⟩
theorem wd_845 : Jvm.Cond.code yX1_guessPart cX1_guessPart 5 (none) ∈ am_ok := am_wd 845 (by decide +kernel) (by decide +kernel)
theorem mok_X1_guessPart : am_mOK m_X1_guessPart := ⟨Or.inl ⟨rfl, rfl, wd_845⟩, wd_61, by decide +kernel, rfl, by decide +kernel, by decide +kernel, by decide +kernel, by decide +kernel⟩
theorem wd_897 : Jvm.Cond.code yX1_levelSquare cX1_levelSquare 6 (none) ∈ am_ok := am_wd 897 (by decide +kernel) (by decide +kernel)
theorem mok_X1_levelSquare : am_mOK m_X1_levelSquare := ⟨Or.inl ⟨rfl, rfl, wd_897⟩, wd_61, by decide +kernel, rfl, by decide +kernel, by decide +kernel, by decide +kernel, by decide +kernel⟩
theorem wd_190 : Jvm.Cond.code yX2_init cX2_init 1 (none) ∈ am_ok := am_wd 190 (by decide +kernel) (by decide +kernel)
theorem mok_X2_init : am_mOK m_X2_init := ⟨Or.inl ⟨rfl, rfl, wd_190⟩, wd_60, by decide +kernel, rfl, by decide +kernel, by decide +kernel, by decide +kernel, by decide +kernel⟩
theorem wd_728 : Jvm.Cond.code yX2_lean cX2_lean 4 (none) ∈ am_ok := am_wd 728 (by decide +kernel) (by decide +kernel)
theorem mok_X2_lean : am_mOK m_X2_lean := ⟨Or.inl ⟨rfl, rfl, wd_728⟩, wd_60, by decide +kernel, rfl, by decide +kernel, by decide +kernel, by decide +kernel, by decide +kernel⟩
theorem wd_796 : Jvm.Cond.code yX2_search cX2_search 11 (some FieldType.int) ∈ am_ok := am_wd 796 (by decide +kernel) (by decide +kernel)
theorem mok_X2_search : am_mOK m_X2_search := ⟨Or.inl ⟨rfl, rfl, wd_796⟩, wd_60, by decide +kernel, rfl, by decide +kernel, by decide +kernel, by decide +kernel, by decide +kernel⟩
theorem wd_343 : Jvm.Cond.code yX3_init cX3_init 1 (none) ∈ am_ok := am_wd 343 (by decide +kernel) (by decide +kernel)
theorem mok_X3_init : am_mOK m_X3_init := ⟨Or.inl ⟨rfl, rfl, wd_343⟩, wd_66, by decide +kernel, rfl, by decide +kernel, by decide +kernel, by decide +kernel, by decide +kernel⟩
theorem wd_1217 : Jvm.Cond.code yX6_partsInMode cX6_partsInMode 4 (some FieldType.int) ∈ am_ok := am_wd 1217 (by decide +kernel) (by decide +kernel)
theorem mok_X6_partsInMode : am_mOK m_X6_partsInMode := ⟨Or.inl ⟨rfl, rfl, wd_1217⟩, wd_59, by decide +kernel, rfl, by decide +kernel, by decide +kernel, by decide +kernel, by decide +kernel⟩
theorem wd_1016 : Jvm.Cond.code yX8_writeLastPlace cX8_writeLastPlace 5 (none) ∈ am_ok := am_wd 1016 (by decide +kernel) (by decide +kernel)
theorem mok_X8_writeLastPlace : am_mOK m_X8_writeLastPlace := ⟨Or.inl ⟨rfl, rfl, wd_1016⟩, wd_64, by decide +kernel, rfl, by decide +kernel, by decide +kernel, by decide +kernel, by decide +kernel⟩
theorem wd_978 : Jvm.Cond.code yX8_writeMode cX8_writeMode 2 (none) ∈ am_ok := am_wd 978 (by decide +kernel) (by decide +kernel)
theorem mok_X8_writeMode : am_mOK m_X8_writeMode := ⟨Or.inl ⟨rfl, rfl, wd_978⟩, wd_64, by decide +kernel, rfl, by decide +kernel, by decide +kernel, by decide +kernel, by decide +kernel⟩
theorem wd_86 : Jvm.Cond.code yX11_init cX11_init 1 (none) ∈ am_ok := am_wd 86 (by decide +kernel) (by decide +kernel)
theorem mok_X11_init : am_mOK m_X11_init := ⟨Or.inl ⟨rfl, rfl, wd_86⟩, wd_57, by decide +kernel, rfl, by decide +kernel, by decide +kernel, by decide +kernel, by decide +kernel⟩
theorem wd_1605 : Jvm.Cond.code yX12_byPictures cX12_byPictures 9 (some FieldType.int) ∈ am_ok := am_wd 1605 (by decide +kernel) (by decide +kernel)
theorem mok_X12_byPictures : am_mOK m_X12_byPictures := ⟨Or.inl ⟨rfl, rfl, wd_1605⟩, wd_68, by decide +kernel, rfl, by decide +kernel, by decide +kernel, by decide +kernel, by decide +kernel⟩
theorem wd_1668 : Jvm.Cond.code yX12_saysMode cX12_saysMode 3 (none) ∈ am_ok := am_wd 1668 (by decide +kernel) (by decide +kernel)
theorem mok_X12_saysMode : am_mOK m_X12_saysMode := ⟨Or.inl ⟨rfl, rfl, wd_1668⟩, wd_68, by decide +kernel, rfl, by decide +kernel, by decide +kernel, by decide +kernel, by decide +kernel⟩
theorem wd_792 : Jvm.Cond.code yX2_choosePart cX2_choosePart 8 (none) ∈ am_ok := am_wd 792 (by decide +kernel) (by decide +kernel)
theorem mok_X2_choosePart : am_mOK m_X2_choosePart := ⟨Or.inl ⟨rfl, rfl, wd_792⟩, wd_60, by decide +kernel, rfl, by decide +kernel, by decide +kernel, by decide +kernel, by decide +kernel⟩
theorem wd_1235 : Jvm.Cond.code yX3_build cX3_build 6 (none) ∈ am_ok := am_wd 1235 (by decide +kernel) (by decide +kernel)
theorem mok_X3_build : am_mOK m_X3_build := ⟨Or.inl ⟨rfl, rfl, wd_1235⟩, wd_66, by decide +kernel, rfl, by decide +kernel, by decide +kernel, by decide +kernel, by decide +kernel⟩
theorem wd_1008 : Jvm.Cond.code yX8_writeSquare cX8_writeSquare 6 (none) ∈ am_ok := am_wd 1008 (by decide +kernel) (by decide +kernel)
theorem mok_X8_writeSquare : am_mOK m_X8_writeSquare := ⟨Or.inl ⟨rfl, rfl, wd_1008⟩, wd_64, by decide +kernel, rfl, by decide +kernel, by decide +kernel, by decide +kernel, by decide +kernel⟩
theorem wd_986 : Jvm.Cond.code yX8_writeVector cX8_writeVector 6 (some FieldType.int) ∈ am_ok := am_wd 986 (by decide +kernel) (by decide +kernel)
theorem mok_X8_writeVector : am_mOK m_X8_writeVector := ⟨Or.inl ⟨rfl, rfl, wd_986⟩, wd_64, by decide +kernel, rfl, by decide +kernel, by decide +kernel, by decide +kernel, by decide +kernel⟩
theorem wd_1593 : Jvm.Cond.code yX12_costOf cX12_costOf 10 (some FieldType.int) ∈ am_ok := am_wd 1593 (by decide +kernel) (by decide +kernel)
theorem mok_X12_costOf : am_mOK m_X12_costOf := ⟨Or.inl ⟨rfl, rfl, wd_1593⟩, wd_68, by decide +kernel, rfl, by decide +kernel, by decide +kernel, by decide +kernel, by decide +kernel⟩
theorem wd_1618 : Jvm.Cond.code yX12_guesses cX12_guesses 13 (some (FieldType.array FieldType.int)) ∈ am_ok := am_wd 1618 (by decide +kernel) (by decide +kernel)
theorem mok_X12_guesses : am_mOK m_X12_guesses := ⟨Or.inl ⟨rfl, rfl, wd_1618⟩, wd_68, by decide +kernel, rfl, by decide +kernel, by decide +kernel, by decide +kernel, by decide +kernel⟩
theorem wd_1664 : Jvm.Cond.code yX12_saysPart cX12_saysPart 5 (none) ∈ am_ok := am_wd 1664 (by decide +kernel) (by decide +kernel)
theorem mok_X12_saysPart : am_mOK m_X12_saysPart := ⟨Or.inl ⟨rfl, rfl, wd_1664⟩, wd_68, by decide +kernel, rfl, by decide +kernel, by decide +kernel, by decide +kernel, by decide +kernel⟩
theorem wd_752 : Jvm.Cond.code yX2_choose cX2_choose 7 (none) ∈ am_ok := am_wd 752 (by decide +kernel) (by decide +kernel)
theorem mok_X2_choose : am_mOK m_X2_choose := ⟨Or.inl ⟨rfl, rfl, wd_752⟩, wd_60, by decide +kernel, rfl, by decide +kernel, by decide +kernel, by decide +kernel, by decide +kernel⟩
theorem wd_1231 : Jvm.Cond.code yX3_receive cX3_receive 3 (none) ∈ am_ok := am_wd 1231 (by decide +kernel) (by decide +kernel)
theorem mok_X3_receive : am_mOK m_X3_receive := ⟨Or.inl ⟨rfl, rfl, wd_1231⟩, wd_66, by decide +kernel, rfl, by decide +kernel, by decide +kernel, by decide +kernel, by decide +kernel⟩
theorem wd_928 : Jvm.Cond.code yX8_writeSlice cX8_writeSlice 6 (none) ∈ am_ok := am_wd 928 (by decide +kernel) (by decide +kernel)
theorem mok_X8_writeSlice : am_mOK m_X8_writeSlice := ⟨Or.inl ⟨rfl, rfl, wd_928⟩, wd_64, by decide +kernel, rfl, by decide +kernel, by decide +kernel, by decide +kernel, by decide +kernel⟩
theorem wd_1632 : Jvm.Cond.code yX12_builds cX12_builds 18 (none) ∈ am_ok := am_wd 1632 (by decide +kernel) (by decide +kernel)
theorem mok_X12_builds : am_mOK m_X12_builds := ⟨Or.inl ⟨rfl, rfl, wd_1632⟩, wd_68, by decide +kernel, rfl, by decide +kernel, by decide +kernel, by decide +kernel, by decide +kernel⟩
theorem wd_1584 : Jvm.Cond.code yX12_findsVector cX12_findsVector 12 (none) ∈ am_ok := am_wd 1584 (by decide +kernel) (by decide +kernel)
theorem mok_X12_findsVector : am_mOK m_X12_findsVector := ⟨Or.inl ⟨rfl, rfl, wd_1584⟩, wd_68, by decide +kernel, rfl, by decide +kernel, by decide +kernel, by decide +kernel, by decide +kernel⟩
theorem wd_1639 : Jvm.Cond.code yX12_slice cX12_slice 8 (some (FieldType.array FieldType.int)) ∈ am_ok := am_wd 1639 (by decide +kernel) (by decide +kernel)
theorem mok_X12_slice : am_mOK m_X12_slice := ⟨Or.inl ⟨rfl, rfl, wd_1639⟩, wd_68, by decide +kernel, rfl, by decide +kernel, by decide +kernel, by decide +kernel, by decide +kernel⟩
theorem wd_1095 : Jvm.Cond.code yX11_bucket cX11_bucket 1 (some FieldType.int) ∈ am_ok := am_wd 1095 (by decide +kernel) (by decide +kernel)
theorem mok_X11_bucket : am_mOK m_X11_bucket := ⟨Or.inl ⟨rfl, rfl, wd_1095⟩, wd_57, by decide +kernel, rfl, by decide +kernel, by decide +kernel, by decide +kernel, by decide +kernel⟩
theorem wd_1336 : Jvm.Cond.code yX11_cleanShare cX11_cleanShare 1 (some FieldType.float) ∈ am_ok := am_wd 1336 (by decide +kernel) (by decide +kernel)
theorem mok_X11_cleanShare : am_mOK m_X11_cleanShare := ⟨Or.inl ⟨rfl, rfl, wd_1336⟩, wd_57, by decide +kernel, rfl, by decide +kernel, by decide +kernel, by decide +kernel, by decide +kernel⟩
theorem wd_469 : Jvm.Cond.code yX11_fill cX11_fill 10 (some FieldType.int) ∈ am_ok := am_wd 469 (by decide +kernel) (by decide +kernel)
theorem mok_X11_fill : am_mOK m_X11_fill := ⟨Or.inl ⟨rfl, rfl, wd_469⟩, wd_57, by decide +kernel, rfl, by decide +kernel, by decide +kernel, by decide +kernel, by decide +kernel⟩
theorem wd_573 : Jvm.Cond.code yX11_grain cX11_grain 6 (some FieldType.int) ∈ am_ok := am_wd 573 (by decide +kernel) (by decide +kernel)
theorem mok_X11_grain : am_mOK m_X11_grain := ⟨Or.inl ⟨rfl, rfl, wd_573⟩, wd_57, by decide +kernel, rfl, by decide +kernel, by decide +kernel, by decide +kernel, by decide +kernel⟩
theorem wd_1273 : Jvm.Cond.code yX11_join cX11_join 3 (some FieldType.int) ∈ am_ok := am_wd 1273 (by decide +kernel) (by decide +kernel)
theorem mok_X11_join : am_mOK m_X11_join := ⟨Or.inl ⟨rfl, rfl, wd_1273⟩, wd_57, by decide +kernel, rfl, by decide +kernel, by decide +kernel, by decide +kernel, by decide +kernel⟩
theorem wd_1086 : Jvm.Cond.code yX11_keptAt cX11_keptAt 2 (some FieldType.int) ∈ am_ok := am_wd 1086 (by decide +kernel) (by decide +kernel)
theorem mok_X11_keptAt : am_mOK m_X11_keptAt := ⟨Or.inl ⟨rfl, rfl, wd_1086⟩, wd_57, by decide +kernel, rfl, by decide +kernel, by decide +kernel, by decide +kernel, by decide +kernel⟩
theorem wd_585 : Jvm.Cond.code yX11_move cX11_move 6 (some FieldType.int) ∈ am_ok := am_wd 585 (by decide +kernel) (by decide +kernel)
theorem mok_X11_move : am_mOK m_X11_move := ⟨Or.inl ⟨rfl, rfl, wd_585⟩, wd_57, by decide +kernel, rfl, by decide +kernel, by decide +kernel, by decide +kernel, by decide +kernel⟩
theorem wd_723 : Jvm.Cond.code yX11_pictureAt cX11_pictureAt 3 (some (FieldType.object "BlockCast$Picture")) ∈ am_ok := am_wd 723 (by decide +kernel) (by decide +kernel)
theorem mok_X11_pictureAt : am_mOK m_X11_pictureAt := ⟨Or.inl ⟨rfl, rfl, wd_723⟩, wd_57, by decide +kernel, rfl, by decide +kernel, by decide +kernel, by decide +kernel, by decide +kernel⟩
theorem wd_623 : Jvm.Cond.code yX11_refuseNoPixel cX11_refuseNoPixel 2 (none) ∈ am_ok := am_wd 623 (by decide +kernel) (by decide +kernel)
theorem mok_X11_refuseNoPixel : am_mOK m_X11_refuseNoPixel := ⟨Or.inl ⟨rfl, rfl, wd_623⟩, wd_57, by decide +kernel, rfl, by decide +kernel, by decide +kernel, by decide +kernel, by decide +kernel⟩
theorem wd_1284 : Jvm.Cond.code yX11_refuseNothingShown cX11_refuseNothingShown 1 (none) ∈ am_ok := am_wd 1284 (by decide +kernel) (by decide +kernel)
theorem mok_X11_refuseNothingShown : am_mOK m_X11_refuseNothingShown := ⟨Or.inl ⟨rfl, rfl, wd_1284⟩, wd_57, by decide +kernel, rfl, by decide +kernel, by decide +kernel, by decide +kernel, by decide +kernel⟩
theorem wd_667 : Jvm.Cond.code yX11_setBucket cX11_setBucket 4 (some FieldType.int) ∈ am_ok := am_wd 667 (by decide +kernel) (by decide +kernel)
theorem mok_X11_setBucket : am_mOK m_X11_setBucket := ⟨Or.inl ⟨rfl, rfl, wd_667⟩, wd_57, by decide +kernel, rfl, by decide +kernel, by decide +kernel, by decide +kernel, by decide +kernel⟩
theorem wd_643 : Jvm.Cond.code yX11_setCoarseness cX11_setCoarseness 3 (some FieldType.int) ∈ am_ok := am_wd 643 (by decide +kernel) (by decide +kernel)
theorem mok_X11_setCoarseness : am_mOK m_X11_setCoarseness := ⟨Or.inl ⟨rfl, rfl, wd_643⟩, wd_57, by decide +kernel, rfl, by decide +kernel, by decide +kernel, by decide +kernel, by decide +kernel⟩
theorem wd_659 : Jvm.Cond.code yX11_setSlices cX11_setSlices 3 (some FieldType.int) ∈ am_ok := am_wd 659 (by decide +kernel) (by decide +kernel)
theorem mok_X11_setSlices : am_mOK m_X11_setSlices := ⟨Or.inl ⟨rfl, rfl, wd_659⟩, wd_57, by decide +kernel, rfl, by decide +kernel, by decide +kernel, by decide +kernel, by decide +kernel⟩
theorem wd_651 : Jvm.Cond.code yX11_setTools cX11_setTools 3 (some FieldType.int) ∈ am_ok := am_wd 651 (by decide +kernel) (by decide +kernel)
theorem mok_X11_setTools : am_mOK m_X11_setTools := ⟨Or.inl ⟨rfl, rfl, wd_651⟩, wd_57, by decide +kernel, rfl, by decide +kernel, by decide +kernel, by decide +kernel, by decide +kernel⟩
theorem wd_564 : Jvm.Cond.code yX11_slope cX11_slope 6 (some FieldType.int) ∈ am_ok := am_wd 564 (by decide +kernel) (by decide +kernel)
theorem mok_X11_slope : am_mOK m_X11_slope := ⟨Or.inl ⟨rfl, rfl, wd_564⟩, wd_57, by decide +kernel, rfl, by decide +kernel, by decide +kernel, by decide +kernel, by decide +kernel⟩
theorem wd_1800 : Jvm.Cond.code yX12_decodes cX12_decodes 14 (some (FieldType.array FieldType.int)) ∈ am_ok := am_wd 1800 (by decide +kernel) (by decide +kernel)
theorem mok_X12_decodes : am_mOK m_X12_decodes := ⟨Or.inl ⟨rfl, rfl, wd_1800⟩, wd_68, by decide +kernel, rfl, by decide +kernel, by decide +kernel, by decide +kernel, by decide +kernel⟩
theorem wd_1580 : Jvm.Cond.code yX12_modeFor cX12_modeFor 9 (some FieldType.int) ∈ am_ok := am_wd 1580 (by decide +kernel) (by decide +kernel)
theorem mok_X12_modeFor : am_mOK m_X12_modeFor := ⟨Or.inl ⟨rfl, rfl, wd_1580⟩, wd_68, by decide +kernel, rfl, by decide +kernel, by decide +kernel, by decide +kernel, by decide +kernel⟩
theorem wd_1090 : Jvm.Cond.codeWith yL_bucket cL_bucket 3 (some FieldType.int) [(0, 8, 11, 59)] ∈ am_ok := am_wd 1090 (by decide +kernel) (by decide +kernel)
theorem wd_56 : Jvm.Cond.initialized RL ∈ am_ok := am_wd 56 (by decide +kernel) (by decide +kernel)
theorem mok_L_bucket : am_mOK m_L_bucket := ⟨Or.inr ⟨by decide +kernel, wd_1090⟩, wd_56, by decide +kernel, rfl, by decide +kernel, by decide +kernel, by decide +kernel, by decide +kernel⟩
theorem wd_1332 : Jvm.Cond.codeWith yL_cleanShare cL_cleanShare 3 (some FieldType.int) [(0, 8, 11, 123)] ∈ am_ok := am_wd 1332 (by decide +kernel) (by decide +kernel)
theorem mok_L_cleanShare : am_mOK m_L_cleanShare := ⟨Or.inr ⟨by decide +kernel, wd_1332⟩, wd_56, by decide +kernel, rfl, by decide +kernel, by decide +kernel, by decide +kernel, by decide +kernel⟩
theorem wd_464 : Jvm.Cond.codeWith yL_fill cL_fill 8 (some FieldType.int) [(0, 16, 19, 13)] ∈ am_ok := am_wd 464 (by decide +kernel) (by decide +kernel)
theorem mok_L_fill : am_mOK m_L_fill := ⟨Or.inr ⟨by decide +kernel, wd_464⟩, wd_56, by decide +kernel, rfl, by decide +kernel, by decide +kernel, by decide +kernel, by decide +kernel⟩
theorem wd_569 : Jvm.Cond.codeWith yL_grain cL_grain 5 (some FieldType.int) [(0, 10, 13, 13)] ∈ am_ok := am_wd 569 (by decide +kernel) (by decide +kernel)
theorem mok_L_grain : am_mOK m_L_grain := ⟨Or.inr ⟨by decide +kernel, wd_569⟩, wd_56, by decide +kernel, rfl, by decide +kernel, by decide +kernel, by decide +kernel, by decide +kernel⟩
theorem wd_1269 : Jvm.Cond.codeWith yL_join cL_join 4 (some FieldType.int) [(0, 9, 12, 29)] ∈ am_ok := am_wd 1269 (by decide +kernel) (by decide +kernel)
theorem mok_L_join : am_mOK m_L_join := ⟨Or.inr ⟨by decide +kernel, wd_1269⟩, wd_56, by decide +kernel, rfl, by decide +kernel, by decide +kernel, by decide +kernel, by decide +kernel⟩
theorem wd_1082 : Jvm.Cond.codeWith yL_keptAt cL_keptAt 4 (some FieldType.int) [(0, 9, 12, 29)] ∈ am_ok := am_wd 1082 (by decide +kernel) (by decide +kernel)
theorem mok_L_keptAt : am_mOK m_L_keptAt := ⟨Or.inr ⟨by decide +kernel, wd_1082⟩, wd_56, by decide +kernel, rfl, by decide +kernel, by decide +kernel, by decide +kernel, by decide +kernel⟩
theorem wd_581 : Jvm.Cond.codeWith yL_move cL_move 5 (some FieldType.int) [(0, 10, 13, 13)] ∈ am_ok := am_wd 581 (by decide +kernel) (by decide +kernel)
theorem mok_L_move : am_mOK m_L_move := ⟨Or.inr ⟨by decide +kernel, wd_581⟩, wd_56, by decide +kernel, rfl, by decide +kernel, by decide +kernel, by decide +kernel, by decide +kernel⟩
theorem wd_663 : Jvm.Cond.codeWith yL_setBucket cL_setBucket 5 (some FieldType.int) [(0, 10, 13, 13)] ∈ am_ok := am_wd 663 (by decide +kernel) (by decide +kernel)
theorem mok_L_setBucket : am_mOK m_L_setBucket := ⟨Or.inr ⟨by decide +kernel, wd_663⟩, wd_56, by decide +kernel, rfl, by decide +kernel, by decide +kernel, by decide +kernel, by decide +kernel⟩
theorem wd_639 : Jvm.Cond.codeWith yL_setCoarseness cL_setCoarseness 4 (some FieldType.int) [(0, 9, 12, 13)] ∈ am_ok := am_wd 639 (by decide +kernel) (by decide +kernel)
theorem mok_L_setCoarseness : am_mOK m_L_setCoarseness := ⟨Or.inr ⟨by decide +kernel, wd_639⟩, wd_56, by decide +kernel, rfl, by decide +kernel, by decide +kernel, by decide +kernel, by decide +kernel⟩
theorem wd_655 : Jvm.Cond.codeWith yL_setSlices cL_setSlices 4 (some FieldType.int) [(0, 9, 12, 13)] ∈ am_ok := am_wd 655 (by decide +kernel) (by decide +kernel)
theorem mok_L_setSlices : am_mOK m_L_setSlices := ⟨Or.inr ⟨by decide +kernel, wd_655⟩, wd_56, by decide +kernel, rfl, by decide +kernel, by decide +kernel, by decide +kernel, by decide +kernel⟩
theorem wd_647 : Jvm.Cond.codeWith yL_setTools cL_setTools 4 (some FieldType.int) [(0, 9, 12, 13)] ∈ am_ok := am_wd 647 (by decide +kernel) (by decide +kernel)
theorem mok_L_setTools : am_mOK m_L_setTools := ⟨Or.inr ⟨by decide +kernel, wd_647⟩, wd_56, by decide +kernel, rfl, by decide +kernel, by decide +kernel, by decide +kernel, by decide +kernel⟩
theorem wd_560 : Jvm.Cond.codeWith yL_slope cL_slope 6 (some FieldType.int) [(0, 12, 15, 13)] ∈ am_ok := am_wd 560 (by decide +kernel) (by decide +kernel)
theorem mok_L_slope : am_mOK m_L_slope := ⟨Or.inr ⟨by decide +kernel, wd_560⟩, wd_56, by decide +kernel, rfl, by decide +kernel, by decide +kernel, by decide +kernel, by decide +kernel⟩
theorem wd_1182 : Jvm.Cond.code yX11_built cX11_built 5 (some FieldType.int) ∈ am_ok := am_wd 1182 (by decide +kernel) (by decide +kernel)
theorem mok_X11_built : am_mOK m_X11_built := ⟨Or.inl ⟨rfl, rfl, wd_1182⟩, wd_57, by decide +kernel, rfl, by decide +kernel, by decide +kernel, by decide +kernel, by decide +kernel⟩
theorem wd_1125 : Jvm.Cond.code yX11_coarsenessOf cX11_coarsenessOf 2 (some FieldType.int) ∈ am_ok := am_wd 1125 (by decide +kernel) (by decide +kernel)
theorem mok_X11_coarsenessOf : am_mOK m_X11_coarsenessOf := ⟨Or.inl ⟨rfl, rfl, wd_1125⟩, wd_57, by decide +kernel, rfl, by decide +kernel, by decide +kernel, by decide +kernel, by decide +kernel⟩
theorem wd_1212 : Jvm.Cond.code yX11_commonest cX11_commonest 6 (some FieldType.int) ∈ am_ok := am_wd 1212 (by decide +kernel) (by decide +kernel)
theorem mok_X11_commonest : am_mOK m_X11_commonest := ⟨Or.inl ⟨rfl, rfl, wd_1212⟩, wd_57, by decide +kernel, rfl, by decide +kernel, by decide +kernel, by decide +kernel, by decide +kernel⟩
theorem wd_1306 : Jvm.Cond.code yX11_drift cX11_drift 4 (some FieldType.int) ∈ am_ok := am_wd 1306 (by decide +kernel) (by decide +kernel)
theorem mok_X11_drift : am_mOK m_X11_drift := ⟨Or.inl ⟨rfl, rfl, wd_1306⟩, wd_57, by decide +kernel, rfl, by decide +kernel, by decide +kernel, by decide +kernel, by decide +kernel⟩
theorem wd_1189 : Jvm.Cond.code yX11_errorOf cX11_errorOf 2 (some FieldType.long) ∈ am_ok := am_wd 1189 (by decide +kernel) (by decide +kernel)
theorem mok_X11_errorOf : am_mOK m_X11_errorOf := ⟨Or.inl ⟨rfl, rfl, wd_1189⟩, wd_57, by decide +kernel, rfl, by decide +kernel, by decide +kernel, by decide +kernel, by decide +kernel⟩
theorem wd_1201 : Jvm.Cond.code yX11_heavierThan cX11_heavierThan 6 (some FieldType.int) ∈ am_ok := am_wd 1201 (by decide +kernel) (by decide +kernel)
theorem mok_X11_heavierThan : am_mOK m_X11_heavierThan := ⟨Or.inl ⟨rfl, rfl, wd_1201⟩, wd_57, by decide +kernel, rfl, by decide +kernel, by decide +kernel, by decide +kernel, by decide +kernel⟩
theorem wd_1299 : Jvm.Cond.code yX11_isClean cX11_isClean 1 (some FieldType.boolean) ∈ am_ok := am_wd 1299 (by decide +kernel) (by decide +kernel)
theorem mok_X11_isClean : am_mOK m_X11_isClean := ⟨Or.inl ⟨rfl, rfl, wd_1299⟩, wd_57, by decide +kernel, rfl, by decide +kernel, by decide +kernel, by decide +kernel, by decide +kernel⟩
theorem wd_719 : Jvm.Cond.code yX11_keptPixels cX11_keptPixels 2 (some (FieldType.array FieldType.int)) ∈ am_ok := am_wd 719 (by decide +kernel) (by decide +kernel)
theorem mok_X11_keptPixels : am_mOK m_X11_keptPixels := ⟨Or.inl ⟨rfl, rfl, wd_719⟩, wd_57, by decide +kernel, rfl, by decide +kernel, by decide +kernel, by decide +kernel, by decide +kernel⟩
theorem wd_1118 : Jvm.Cond.code yX11_kindOf cX11_kindOf 2 (some FieldType.char) ∈ am_ok := am_wd 1118 (by decide +kernel) (by decide +kernel)
theorem mok_X11_kindOf : am_mOK m_X11_kindOf := ⟨Or.inl ⟨rfl, rfl, wd_1118⟩, wd_57, by decide +kernel, rfl, by decide +kernel, by decide +kernel, by decide +kernel, by decide +kernel⟩
theorem wd_1175 : Jvm.Cond.code yX11_levelAt cX11_levelAt 5 (some FieldType.int) ∈ am_ok := am_wd 1175 (by decide +kernel) (by decide +kernel)
theorem mok_X11_levelAt : am_mOK m_X11_levelAt := ⟨Or.inl ⟨rfl, rfl, wd_1175⟩, wd_57, by decide +kernel, rfl, by decide +kernel, by decide +kernel, by decide +kernel, by decide +kernel⟩
theorem wd_1327 : Jvm.Cond.code yX11_meanBits cX11_meanBits 3 (some FieldType.double) ∈ am_ok := am_wd 1327 (by decide +kernel) (by decide +kernel)
theorem mok_X11_meanBits : am_mOK m_X11_meanBits := ⟨Or.inl ⟨rfl, rfl, wd_1327⟩, wd_57, by decide +kernel, rfl, by decide +kernel, by decide +kernel, by decide +kernel, by decide +kernel⟩
theorem wd_1160 : Jvm.Cond.code yX11_modeAt cX11_modeAt 5 (some FieldType.int) ∈ am_ok := am_wd 1160 (by decide +kernel) (by decide +kernel)
theorem mok_X11_modeAt : am_mOK m_X11_modeAt := ⟨Or.inl ⟨rfl, rfl, wd_1160⟩, wd_57, by decide +kernel, rfl, by decide +kernel, by decide +kernel, by decide +kernel, by decide +kernel⟩
theorem wd_1152 : Jvm.Cond.code yX11_partAt cX11_partAt 5 (some FieldType.int) ∈ am_ok := am_wd 1152 (by decide +kernel) (by decide +kernel)
theorem mok_X11_partAt : am_mOK m_X11_partAt := ⟨Or.inl ⟨rfl, rfl, wd_1152⟩, wd_57, by decide +kernel, rfl, by decide +kernel, by decide +kernel, by decide +kernel, by decide +kernel⟩
theorem wd_620 : Jvm.Cond.code yX11_pixel cX11_pixel 3 (some FieldType.int) ∈ am_ok := am_wd 620 (by decide +kernel) (by decide +kernel)
theorem mok_X11_pixel : am_mOK m_X11_pixel := ⟨Or.inl ⟨rfl, rfl, wd_620⟩, wd_57, by decide +kernel, rfl, by decide +kernel, by decide +kernel, by decide +kernel, by decide +kernel⟩
theorem wd_1225 : Jvm.Cond.code yX11_send cX11_send 3 (some FieldType.char) ∈ am_ok := am_wd 1225 (by decide +kernel) (by decide +kernel)
theorem mok_X11_send : am_mOK m_X11_send := ⟨Or.inl ⟨rfl, rfl, wd_1225⟩, wd_57, by decide +kernel, rfl, by decide +kernel, by decide +kernel, by decide +kernel, by decide +kernel⟩
theorem wd_1280 : Jvm.Cond.code yX11_shown cX11_shown 1 (some FieldType.int) ∈ am_ok := am_wd 1280 (by decide +kernel) (by decide +kernel)
theorem mok_X11_shown : am_mOK m_X11_shown := ⟨Or.inl ⟨rfl, rfl, wd_1280⟩, wd_57, by decide +kernel, rfl, by decide +kernel, by decide +kernel, by decide +kernel, by decide +kernel⟩
theorem wd_1292 : Jvm.Cond.code yX11_shownAt cX11_shownAt 3 (some FieldType.int) ∈ am_ok := am_wd 1292 (by decide +kernel) (by decide +kernel)
theorem mok_X11_shownAt : am_mOK m_X11_shownAt := ⟨Or.inl ⟨rfl, rfl, wd_1292⟩, wd_57, by decide +kernel, rfl, by decide +kernel, by decide +kernel, by decide +kernel, by decide +kernel⟩
theorem wd_1136 : Jvm.Cond.code yX11_sliceAt cX11_sliceAt 4 (some (FieldType.array FieldType.int)) ∈ am_ok := am_wd 1136 (by decide +kernel) (by decide +kernel)
theorem mok_X11_sliceAt : am_mOK m_X11_sliceAt := ⟨Or.inl ⟨rfl, rfl, wd_1136⟩, wd_57, by decide +kernel, rfl, by decide +kernel, by decide +kernel, by decide +kernel, by decide +kernel⟩
theorem wd_1167 : Jvm.Cond.code yX11_vectorAt cX11_vectorAt 7 (some FieldType.int) ∈ am_ok := am_wd 1167 (by decide +kernel) (by decide +kernel)
theorem mok_X11_vectorAt : am_mOK m_X11_vectorAt := ⟨Or.inl ⟨rfl, rfl, wd_1167⟩, wd_57, by decide +kernel, rfl, by decide +kernel, by decide +kernel, by decide +kernel, by decide +kernel⟩
theorem wd_1576 : Jvm.Cond.code yX12_codesPart cX12_codesPart 9 (none) ∈ am_ok := am_wd 1576 (by decide +kernel) (by decide +kernel)
theorem mok_X12_codesPart : am_mOK m_X12_codesPart := ⟨Or.inl ⟨rfl, rfl, wd_1576⟩, wd_68, by decide +kernel, rfl, by decide +kernel, by decide +kernel, by decide +kernel, by decide +kernel⟩
theorem wd_1792 : Jvm.Cond.code yX12_send cX12_send 4 (some FieldType.char) ∈ am_ok := am_wd 1792 (by decide +kernel) (by decide +kernel)
theorem mok_X12_send : am_mOK m_X12_send := ⟨Or.inl ⟨rfl, rfl, wd_1792⟩, wd_68, by decide +kernel, rfl, by decide +kernel, by decide +kernel, by decide +kernel, by decide +kernel⟩
theorem wd_1178 : Jvm.Cond.codeWith yL_built cL_built 6 (some FieldType.int) [(0, 12, 15, 29)] ∈ am_ok := am_wd 1178 (by decide +kernel) (by decide +kernel)
theorem mok_L_built : am_mOK m_L_built := ⟨Or.inr ⟨by decide +kernel, wd_1178⟩, wd_56, by decide +kernel, rfl, by decide +kernel, by decide +kernel, by decide +kernel, by decide +kernel⟩
theorem wd_1121 : Jvm.Cond.codeWith yL_coarsenessOf cL_coarsenessOf 4 (some FieldType.int) [(0, 9, 12, 29)] ∈ am_ok := am_wd 1121 (by decide +kernel) (by decide +kernel)
theorem mok_L_coarsenessOf : am_mOK m_L_coarsenessOf := ⟨Or.inr ⟨by decide +kernel, wd_1121⟩, wd_56, by decide +kernel, rfl, by decide +kernel, by decide +kernel, by decide +kernel, by decide +kernel⟩
theorem wd_1208 : Jvm.Cond.codeWith yL_commonest cL_commonest 3 (some FieldType.int) [(0, 8, 11, 59)] ∈ am_ok := am_wd 1208 (by decide +kernel) (by decide +kernel)
theorem mok_L_commonest : am_mOK m_L_commonest := ⟨Or.inr ⟨by decide +kernel, wd_1208⟩, wd_56, by decide +kernel, rfl, by decide +kernel, by decide +kernel, by decide +kernel, by decide +kernel⟩
theorem wd_1302 : Jvm.Cond.codeWith yL_drift cL_drift 3 (some FieldType.int) [(0, 8, 11, 59)] ∈ am_ok := am_wd 1302 (by decide +kernel) (by decide +kernel)
theorem mok_L_drift : am_mOK m_L_drift := ⟨Or.inr ⟨by decide +kernel, wd_1302⟩, wd_56, by decide +kernel, rfl, by decide +kernel, by decide +kernel, by decide +kernel, by decide +kernel⟩
theorem wd_1185 : Jvm.Cond.codeWith yL_errorOf cL_errorOf 4 (some FieldType.int) [(0, 8, 11, 29)] ∈ am_ok := am_wd 1185 (by decide +kernel) (by decide +kernel)
theorem mok_L_errorOf : am_mOK m_L_errorOf := ⟨Or.inr ⟨by decide +kernel, wd_1185⟩, wd_56, by decide +kernel, rfl, by decide +kernel, by decide +kernel, by decide +kernel, by decide +kernel⟩
theorem wd_1295 : Jvm.Cond.codeWith yL_isClean cL_isClean 3 (some FieldType.int) [(0, 15, 18, 59)] ∈ am_ok := am_wd 1295 (by decide +kernel) (by decide +kernel)
theorem mok_L_isClean : am_mOK m_L_isClean := ⟨Or.inr ⟨by decide +kernel, wd_1295⟩, wd_56, by decide +kernel, rfl, by decide +kernel, by decide +kernel, by decide +kernel, by decide +kernel⟩
theorem wd_1114 : Jvm.Cond.codeWith yL_kindOf cL_kindOf 4 (some FieldType.int) [(0, 9, 12, 29)] ∈ am_ok := am_wd 1114 (by decide +kernel) (by decide +kernel)
theorem mok_L_kindOf : am_mOK m_L_kindOf := ⟨Or.inr ⟨by decide +kernel, wd_1114⟩, wd_56, by decide +kernel, rfl, by decide +kernel, by decide +kernel, by decide +kernel, by decide +kernel⟩
theorem wd_1171 : Jvm.Cond.codeWith yL_levelAt cL_levelAt 6 (some FieldType.int) [(0, 12, 15, 29)] ∈ am_ok := am_wd 1171 (by decide +kernel) (by decide +kernel)
theorem mok_L_levelAt : am_mOK m_L_levelAt := ⟨Or.inr ⟨by decide +kernel, wd_1171⟩, wd_56, by decide +kernel, rfl, by decide +kernel, by decide +kernel, by decide +kernel, by decide +kernel⟩
theorem wd_1309 : Jvm.Cond.codeWith yL_meanBits cL_meanBits 3 (some FieldType.int) [(0, 7, 10, 123)] ∈ am_ok := am_wd 1309 (by decide +kernel) (by decide +kernel)
theorem mok_L_meanBits : am_mOK m_L_meanBits := ⟨Or.inr ⟨by decide +kernel, wd_1309⟩, wd_56, by decide +kernel, rfl, by decide +kernel, by decide +kernel, by decide +kernel, by decide +kernel⟩
theorem wd_1156 : Jvm.Cond.codeWith yL_modeAt cL_modeAt 6 (some FieldType.int) [(0, 12, 15, 29)] ∈ am_ok := am_wd 1156 (by decide +kernel) (by decide +kernel)
theorem mok_L_modeAt : am_mOK m_L_modeAt := ⟨Or.inr ⟨by decide +kernel, wd_1156⟩, wd_56, by decide +kernel, rfl, by decide +kernel, by decide +kernel, by decide +kernel, by decide +kernel⟩
theorem wd_1148 : Jvm.Cond.codeWith yL_partAt cL_partAt 6 (some FieldType.int) [(0, 12, 15, 29)] ∈ am_ok := am_wd 1148 (by decide +kernel) (by decide +kernel)
theorem mok_L_partAt : am_mOK m_L_partAt := ⟨Or.inr ⟨by decide +kernel, wd_1148⟩, wd_56, by decide +kernel, rfl, by decide +kernel, by decide +kernel, by decide +kernel, by decide +kernel⟩
theorem wd_592 : Jvm.Cond.codeWith yL_pixel cL_pixel 5 (some FieldType.int) [(0, 10, 13, 29)] ∈ am_ok := am_wd 592 (by decide +kernel) (by decide +kernel)
theorem mok_L_pixel : am_mOK m_L_pixel := ⟨Or.inr ⟨by decide +kernel, wd_592⟩, wd_56, by decide +kernel, rfl, by decide +kernel, by decide +kernel, by decide +kernel, by decide +kernel⟩
theorem wd_1221 : Jvm.Cond.codeWith yL_send cL_send 4 (some FieldType.int) [(0, 9, 12, 59), (0, 9, 15, 13)] ∈ am_ok := am_wd 1221 (by decide +kernel) (by decide +kernel)
theorem mok_L_send : am_mOK m_L_send := ⟨Or.inr ⟨by decide +kernel, wd_1221⟩, wd_56, by decide +kernel, rfl, by decide +kernel, by decide +kernel, by decide +kernel, by decide +kernel⟩
theorem wd_1276 : Jvm.Cond.codeWith yL_shown cL_shown 3 (some FieldType.int) [(0, 8, 11, 59)] ∈ am_ok := am_wd 1276 (by decide +kernel) (by decide +kernel)
theorem mok_L_shown : am_mOK m_L_shown := ⟨Or.inr ⟨by decide +kernel, wd_1276⟩, wd_56, by decide +kernel, rfl, by decide +kernel, by decide +kernel, by decide +kernel, by decide +kernel⟩
theorem wd_1288 : Jvm.Cond.codeWith yL_shownAt cL_shownAt 5 (some FieldType.int) [(0, 10, 13, 29), (0, 10, 17, 59)] ∈ am_ok := am_wd 1288 (by decide +kernel) (by decide +kernel)
theorem mok_L_shownAt : am_mOK m_L_shownAt := ⟨Or.inr ⟨by decide +kernel, wd_1288⟩, wd_56, by decide +kernel, rfl, by decide +kernel, by decide +kernel, by decide +kernel, by decide +kernel⟩
theorem wd_1163 : Jvm.Cond.codeWith yL_vectorAt cL_vectorAt 7 (some FieldType.int) [(0, 14, 17, 29), (0, 14, 21, 59)] ∈ am_ok := am_wd 1163 (by decide +kernel) (by decide +kernel)
theorem mok_L_vectorAt : am_mOK m_L_vectorAt := ⟨Or.inr ⟨by decide +kernel, wd_1163⟩, wd_56, by decide +kernel, rfl, by decide +kernel, by decide +kernel, by decide +kernel, by decide +kernel⟩
theorem wd_1144 : Jvm.Cond.code yX11_byteAt cX11_byteAt 5 (some FieldType.int) ∈ am_ok := am_wd 1144 (by decide +kernel) (by decide +kernel)
theorem mok_X11_byteAt : am_mOK m_X11_byteAt := ⟨Or.inl ⟨rfl, rfl, wd_1144⟩, wd_57, by decide +kernel, rfl, by decide +kernel, by decide +kernel, by decide +kernel, by decide +kernel⟩
theorem wd_1132 : Jvm.Cond.code yX11_bytes cX11_bytes 3 (some FieldType.int) ∈ am_ok := am_wd 1132 (by decide +kernel) (by decide +kernel)
theorem mok_X11_bytes : am_mOK m_X11_bytes := ⟨Or.inl ⟨rfl, rfl, wd_1132⟩, wd_57, by decide +kernel, rfl, by decide +kernel, by decide +kernel, by decide +kernel, by decide +kernel⟩
theorem wd_685 : Jvm.Cond.code yX11_code cX11_code 5 (some FieldType.int) ∈ am_ok := am_wd 685 (by decide +kernel) (by decide +kernel)
theorem mok_X11_code : am_mOK m_X11_code := ⟨Or.inl ⟨rfl, rfl, wd_685⟩, wd_57, by decide +kernel, rfl, by decide +kernel, by decide +kernel, by decide +kernel, by decide +kernel⟩
theorem wd_1196 : Jvm.Cond.code yX11_heaviest cX11_heaviest 4 (some FieldType.int) ∈ am_ok := am_wd 1196 (by decide +kernel) (by decide +kernel)
theorem mok_X11_heaviest : am_mOK m_X11_heaviest := ⟨Or.inl ⟨rfl, rfl, wd_1196⟩, wd_57, by decide +kernel, rfl, by decide +kernel, by decide +kernel, by decide +kernel, by decide +kernel⟩
theorem wd_1568 : Jvm.Cond.code yX12_codesParts cX12_codesParts 7 (some (FieldType.array FieldType.int)) ∈ am_ok := am_wd 1568 (by decide +kernel) (by decide +kernel)
theorem mok_X12_codesParts : am_mOK m_X12_codesParts := ⟨Or.inl ⟨rfl, rfl, wd_1568⟩, wd_68, by decide +kernel, rfl, by decide +kernel, by decide +kernel, by decide +kernel, by decide +kernel⟩
theorem wd_1140 : Jvm.Cond.codeWith yL_byteAt cL_byteAt 6 (some FieldType.int) [(0, 12, 15, 29)] ∈ am_ok := am_wd 1140 (by decide +kernel) (by decide +kernel)
theorem mok_L_byteAt : am_mOK m_L_byteAt := ⟨Or.inr ⟨by decide +kernel, wd_1140⟩, wd_56, by decide +kernel, rfl, by decide +kernel, by decide +kernel, by decide +kernel, by decide +kernel⟩
theorem wd_1128 : Jvm.Cond.codeWith yL_bytes cL_bytes 5 (some FieldType.int) [(0, 10, 13, 29)] ∈ am_ok := am_wd 1128 (by decide +kernel) (by decide +kernel)
theorem mok_L_bytes : am_mOK m_L_bytes := ⟨Or.inr ⟨by decide +kernel, wd_1128⟩, wd_56, by decide +kernel, rfl, by decide +kernel, by decide +kernel, by decide +kernel, by decide +kernel⟩
theorem wd_679 : Jvm.Cond.codeWith yL_code cL_code 6 (some FieldType.int) [(0, 12, 15, 13), (0, 12, 19, 29), (0, 12, 23, 48), (0, 12, 27, 50)] ∈ am_ok := am_wd 679 (by decide +kernel) (by decide +kernel)
theorem mok_L_code : am_mOK m_L_code := ⟨Or.inr ⟨by decide +kernel, wd_679⟩, wd_56, by decide +kernel, rfl, by decide +kernel, by decide +kernel, by decide +kernel, by decide +kernel⟩
theorem wd_1192 : Jvm.Cond.codeWith yL_heaviest cL_heaviest 4 (some FieldType.int) [(0, 9, 12, 29)] ∈ am_ok := am_wd 1192 (by decide +kernel) (by decide +kernel)
theorem mok_L_heaviest : am_mOK m_L_heaviest := ⟨Or.inr ⟨by decide +kernel, wd_1192⟩, wd_56, by decide +kernel, rfl, by decide +kernel, by decide +kernel, by decide +kernel, by decide +kernel⟩
theorem wd_1560 : Jvm.Cond.code yX12_code cX12_code 12 (some FieldType.int) ∈ am_ok := am_wd 1560 (by decide +kernel) (by decide +kernel)
theorem mok_X12_code : am_mOK m_X12_code := ⟨Or.inl ⟨rfl, rfl, wd_1560⟩, wd_68, by decide +kernel, rfl, by decide +kernel, by decide +kernel, by decide +kernel, by decide +kernel⟩
theorem wd_98 : Jvm.Cond.fieldLink RX0 18 "BlockCast$Bucket" "bits" "I" ∈ am_ok := am_wd 98 (by decide +kernel) (by decide +kernel)
theorem wd_97 : Jvm.Cond.fieldLink RX0 15 "BlockCast$Bucket" "leak" "I" ∈ am_ok := am_wd 97 (by decide +kernel) (by decide +kernel)
theorem wd_96 : Jvm.Cond.fieldLink RX0 9 "BlockCast$Bucket" "room" "I" ∈ am_ok := am_wd 96 (by decide +kernel) (by decide +kernel)
theorem wd_309 : Jvm.Cond.fieldLink RX10 16 "BlockCast$Writer" "length" "I" ∈ am_ok := am_wd 309 (by decide +kernel) (by decide +kernel)
theorem wd_308 : Jvm.Cond.fieldLink RX10 13 "BlockCast$Writer" "row" "[I" ∈ am_ok := am_wd 308 (by decide +kernel) (by decide +kernel)
theorem wd_311 : Jvm.Cond.fieldLink RX10 20 "BlockCast$Writer" "low" "J" ∈ am_ok := am_wd 311 (by decide +kernel) (by decide +kernel)
theorem bi_bipush_24 : (Int8.ofInt (24)).toInt32 = mI (24) := by decide +kernel
theorem bi_bipush_8 : (Int8.ofInt (8)).toInt32 = mI (8) := by decide +kernel
theorem wd_306 : Jvm.Cond.constantLong RX10 24 (mL (4294967295)) ∈ am_ok := am_wd 306 (by decide +kernel) (by decide +kernel)
theorem wd_402 : Jvm.Cond.fieldLink RX11 16 "BlockCast" "nextCoarseness" "I" ∈ am_ok := am_wd 402 (by decide +kernel) (by decide +kernel)
theorem bi_bipush_16 : (Int8.ofInt (16)).toInt32 = mI (16) := by decide +kernel
theorem wd_411 : Jvm.Cond.fieldLink RX11 54 "BlockCast" "keptCount" "I" ∈ am_ok := am_wd 411 (by decide +kernel) (by decide +kernel)
theorem bi_sipush_255 : (Int16.ofInt (255)).toInt32 = mI (255) := by decide +kernel
theorem wd_408 : Jvm.Cond.fieldLink RX11 43 "BlockCast" "codedCount" "I" ∈ am_ok := am_wd 408 (by decide +kernel) (by decide +kernel)
theorem wd_405 : Jvm.Cond.fieldLink RX11 26 "BlockCast" "isNextKept" "Z" ∈ am_ok := am_wd 405 (by decide +kernel) (by decide +kernel)
theorem wd_1383 : Jvm.Cond.fieldLink RX12 226 "BlockCastModel" "length" "I" ∈ am_ok := am_wd 1383 (by decide +kernel) (by decide +kernel)
theorem wd_1380 : Jvm.Cond.fieldLink RX12 92 "BlockCastModel" "line" "[I" ∈ am_ok := am_wd 1380 (by decide +kernel) (by decide +kernel)
theorem wd_1654 : Jvm.Cond.constantLong RX12 229 (mL (255)) ∈ am_ok := am_wd 1654 (by decide +kernel) (by decide +kernel)
theorem wd_1644 : Jvm.Cond.constantLong RX12 220 (mL (4294967295)) ∈ am_ok := am_wd 1644 (by decide +kernel) (by decide +kernel)
theorem wd_1382 : Jvm.Cond.fieldLink RX12 222 "BlockCastModel" "width" "J" ∈ am_ok := am_wd 1382 (by decide +kernel) (by decide +kernel)
theorem wd_1381 : Jvm.Cond.fieldLink RX12 95 "BlockCastModel" "chances" "[I" ∈ am_ok := am_wd 1381 (by decide +kernel) (by decide +kernel)
theorem bi_sipush_1024 : (Int16.ofInt (1024)).toInt32 = mI (1024) := by decide +kernel
theorem bi_sipush_128 : (Int16.ofInt (128)).toInt32 = mI (128) := by decide +kernel
theorem wd_1354 : Jvm.Cond.fieldLink RX12 36 "BlockCastModel" "bucket" "I" ∈ am_ok := am_wd 1354 (by decide +kernel) (by decide +kernel)
theorem wd_1346 : Jvm.Cond.fieldLink RX12 110 "BlockCastModel" "thrown" "I" ∈ am_ok := am_wd 1346 (by decide +kernel) (by decide +kernel)
theorem wd_1392 : Jvm.Cond.fieldLink RX12 368 "BlockCastModel" "sent" "I" ∈ am_ok := am_wd 1392 (by decide +kernel) (by decide +kernel)
theorem wd_1393 : Jvm.Cond.fieldLink RX12 371 "BlockCastModel" "cleanOnes" "I" ∈ am_ok := am_wd 1393 (by decide +kernel) (by decide +kernel)
theorem wd_1348 : Jvm.Cond.fieldLink RX12 22 "BlockCastModel" "coarseness" "I" ∈ am_ok := am_wd 1348 (by decide +kernel) (by decide +kernel)
theorem wd_1355 : Jvm.Cond.fieldLink RX12 305 "BlockCastModel" "many" "I" ∈ am_ok := am_wd 1355 (by decide +kernel) (by decide +kernel)
theorem bi_bipush_7 : (Int8.ofInt (7)).toInt32 = mI (7) := by decide +kernel
theorem wd_107 : Jvm.Cond.arrayClass .int ∈ am_ok := am_wd 107 (by decide +kernel) (by decide +kernel)
theorem wd_1368 : Jvm.Cond.fieldLink RX12 80 "BlockCastModel" "sizes" "[[I" ∈ am_ok := am_wd 1368 (by decide +kernel) (by decide +kernel)
theorem wd_1369 : Jvm.Cond.fieldLink RX12 83 "BlockCastModel" "modes" "[[I" ∈ am_ok := am_wd 1369 (by decide +kernel) (by decide +kernel)
theorem bi_bipush_64 : (Int8.ofInt (64)).toInt32 = mI (64) := by decide +kernel
theorem wd_1387 : Jvm.Cond.fieldLink RX12 344 "BlockCastModel" "screen" "[I" ∈ am_ok := am_wd 1387 (by decide +kernel) (by decide +kernel)
theorem bi_sipush_256 : (Int16.ofInt (256)).toInt32 = mI (256) := by decide +kernel
theorem wd_1373 : Jvm.Cond.fieldLink RX12 155 "BlockCastModel" "now" "[I" ∈ am_ok := am_wd 1373 (by decide +kernel) (by decide +kernel)
theorem wd_1347 : Jvm.Cond.fieldLink RX12 18 "BlockCastModel" "canvas" "[I" ∈ am_ok := am_wd 1347 (by decide +kernel) (by decide +kernel)
theorem wd_1391 : Jvm.Cond.fieldLink RX12 341 "BlockCastModel" "thereMany" "I" ∈ am_ok := am_wd 1391 (by decide +kernel) (by decide +kernel)
theorem wd_1390 : Jvm.Cond.fieldLink RX12 107 "BlockCastModel" "areClean" "[Z" ∈ am_ok := am_wd 1390 (by decide +kernel) (by decide +kernel)
theorem wd_1372 : Jvm.Cond.fieldLink RX12 302 "BlockCastModel" "keptMany" "I" ∈ am_ok := am_wd 1372 (by decide +kernel) (by decide +kernel)
theorem wd_1363 : Jvm.Cond.fieldLink RX12 62 "BlockCastModel" "bits" "[I" ∈ am_ok := am_wd 1363 (by decide +kernel) (by decide +kernel)
theorem wd_1386 : Jvm.Cond.fieldLink RX12 101 "BlockCastModel" "shown" "I" ∈ am_ok := am_wd 1386 (by decide +kernel) (by decide +kernel)
theorem bi_bipush_6 : (Int8.ofInt (6)).toInt32 = mI (6) := by decide +kernel
theorem bi_bipush_9 : (Int8.ofInt (9)).toInt32 = mI (9) := by decide +kernel
theorem bi_bipush_12 : (Int8.ofInt (12)).toInt32 = mI (12) := by decide +kernel
theorem bi_bipush_13 : (Int8.ofInt (13)).toInt32 = mI (13) := by decide +kernel
theorem bi_bipush_10 : (Int8.ofInt (10)).toInt32 = mI (10) := by decide +kernel
theorem bi_bipush_11 : (Int8.ofInt (11)).toInt32 = mI (11) := by decide +kernel
theorem wd_1351 : Jvm.Cond.fieldLink RX12 32 "BlockCastModel" "isKept" "Z" ∈ am_ok := am_wd 1351 (by decide +kernel) (by decide +kernel)
theorem wd_1377 : Jvm.Cond.fieldLink RX12 168 "BlockCastModel" "vector" "[I" ∈ am_ok := am_wd 1377 (by decide +kernel) (by decide +kernel)
theorem wd_1629 : Jvm.Cond.constant RX12 197 (mI (42688)) ∈ am_ok := am_wd 1629 (by decide +kernel) (by decide +kernel)
theorem wd_1659 : Jvm.Cond.constantLong RX12 231 (mL (16777216)) ∈ am_ok := am_wd 1659 (by decide +kernel) (by decide +kernel)
theorem wd_1660 : Jvm.Cond.constantLong RX12 233 (mL (256)) ∈ am_ok := am_wd 1660 (by decide +kernel) (by decide +kernel)
theorem bi_bipush_15 : (Int8.ofInt (15)).toInt32 = mI (15) := by decide +kernel
theorem bi_bipush_47 : (Int8.ofInt (47)).toInt32 = mI (47) := by decide +kernel
theorem bi_bipush_100 : (Int8.ofInt (100)).toInt32 = mI (100) := by decide +kernel
theorem wd_257 : Jvm.Cond.fieldLink RX5 24 "BlockCast$Part" "mode" "I" ∈ am_ok := am_wd 257 (by decide +kernel) (by decide +kernel)
theorem wd_243 : Jvm.Cond.fieldLink RX5 9 "BlockCast$Part" "x" "I" ∈ am_ok := am_wd 243 (by decide +kernel) (by decide +kernel)
theorem wd_247 : Jvm.Cond.fieldLink RX5 15 "BlockCast$Part" "y" "I" ∈ am_ok := am_wd 247 (by decide +kernel) (by decide +kernel)
theorem wd_251 : Jvm.Cond.fieldLink RX5 18 "BlockCast$Part" "size" "I" ∈ am_ok := am_wd 251 (by decide +kernel) (by decide +kernel)
theorem wd_255 : Jvm.Cond.fieldLink RX5 21 "BlockCast$Part" "top" "I" ∈ am_ok := am_wd 255 (by decide +kernel) (by decide +kernel)
theorem wd_134 : Jvm.Cond.fieldLink RX6 39 "BlockCast$Picture" "upperBytes" "[I" ∈ am_ok := am_wd 134 (by decide +kernel) (by decide +kernel)
theorem wd_136 : Jvm.Cond.fieldLink RX6 43 "BlockCast$Picture" "lowerBytes" "[I" ∈ am_ok := am_wd 136 (by decide +kernel) (by decide +kernel)
theorem wd_115 : Jvm.Cond.fieldLink RX6 9 "BlockCast$Picture" "kind" "C" ∈ am_ok := am_wd 115 (by decide +kernel) (by decide +kernel)
theorem wd_117 : Jvm.Cond.fieldLink RX6 15 "BlockCast$Picture" "first" "I" ∈ am_ok := am_wd 117 (by decide +kernel) (by decide +kernel)
theorem wd_119 : Jvm.Cond.fieldLink RX6 19 "BlockCast$Picture" "second" "I" ∈ am_ok := am_wd 119 (by decide +kernel) (by decide +kernel)
theorem wd_125 : Jvm.Cond.fieldLink RX6 25 "BlockCast$Picture" "tools" "I" ∈ am_ok := am_wd 125 (by decide +kernel) (by decide +kernel)
theorem bi_bipush_105 : (Int8.ofInt (105)).toInt32 = mI (105) := by decide +kernel
theorem bi_bipush_98 : (Int8.ofInt (98)).toInt32 = mI (98) := by decide +kernel
theorem wd_126 : Jvm.Cond.fieldLink RX6 28 "BlockCast$Picture" "slices" "I" ∈ am_ok := am_wd 126 (by decide +kernel) (by decide +kernel)
theorem wd_121 : Jvm.Cond.fieldLink RX6 22 "BlockCast$Picture" "step" "I" ∈ am_ok := am_wd 121 (by decide +kernel) (by decide +kernel)
theorem wd_129 : Jvm.Cond.fieldLink RX6 31 "BlockCast$Picture" "isKept" "Z" ∈ am_ok := am_wd 129 (by decide +kernel) (by decide +kernel)
theorem wd_326 : Jvm.Cond.fieldLink RX8 12 "BlockCast$Scribe" "upper" "LBlockCast$Writer;" ∈ am_ok := am_wd 326 (by decide +kernel) (by decide +kernel)
theorem wd_310 : Jvm.Cond.fieldLinkNest RX8 112 "BlockCast$Writer" "length" "I" "BlockCast" ∈ am_ok := am_wd 310 (by decide +kernel) (by decide +kernel)
theorem wd_327 : Jvm.Cond.fieldLink RX8 18 "BlockCast$Scribe" "lower" "LBlockCast$Writer;" ∈ am_ok := am_wd 327 (by decide +kernel) (by decide +kernel)
theorem wd_1029 : Jvm.Cond.methodLink RX0 21 yX0_isThere ∈ am_ok := am_wd 1029 (by decide +kernel) (by decide +kernel)
theorem wd_670 : Jvm.Cond.instanceMethod yX0_isThere ∈ am_ok := am_wd 670 (by decide +kernel) (by decide +kernel)
theorem wd_671 : Jvm.Cond.selects RX0 yX0_isThere yX0_isThere ∈ am_ok := am_wd 671 (by decide +kernel) (by decide +kernel)
theorem wd_1030 : Jvm.Cond.methodLink RX0 25 yX0_filledWith ∈ am_ok := am_wd 1030 (by decide +kernel) (by decide +kernel)
theorem wd_1032 : Jvm.Cond.instanceMethod yX0_filledWith ∈ am_ok := am_wd 1032 (by decide +kernel) (by decide +kernel)
theorem wd_17 : Jvm.Cond.selects RX0 yX0_filledWith yX0_filledWith ∈ am_ok := am_wd 17 (by decide +kernel) (by decide +kernel)
theorem wd_95 : Jvm.Cond.methodLink RX0 3 Lib.objectInit ∈ am_ok := am_wd 95 (by decide +kernel) (by decide +kernel)
theorem bi_bipush_40 : (Int8.ofInt (40)).toInt32 = mI (40) := by decide +kernel
theorem wd_956 : Jvm.Cond.methodLink RX10 53 yX10_giveByte ∈ am_ok := am_wd 956 (by decide +kernel) (by decide +kernel)
theorem wd_958 : Jvm.Cond.instanceMethod yX10_giveByte ∈ am_ok := am_wd 958 (by decide +kernel) (by decide +kernel)
theorem wd_12 : Jvm.Cond.selects RX10 yX10_giveByte yX10_giveByte ∈ am_ok := am_wd 12 (by decide +kernel) (by decide +kernel)
theorem wd_993 : Jvm.Cond.methodLink RX10 58 Lib.Math.min.name ∈ am_ok := am_wd 993 (by decide +kernel) (by decide +kernel)
theorem wd_305 : Jvm.Cond.methodLink RX10 1 Lib.objectInit ∈ am_ok := am_wd 305 (by decide +kernel) (by decide +kernel)
theorem bi_bipush_70 : (Int8.ofInt (70)).toInt32 = mI (70) := by decide +kernel
theorem wd_307 : Jvm.Cond.fieldLink RX10 9 "BlockCast$Writer" "chances" "[I" ∈ am_ok := am_wd 307 (by decide +kernel) (by decide +kernel)
theorem bi_sipush_4096 : (Int16.ofInt (4096)).toInt32 = mI (4096) := by decide +kernel
theorem wd_312 : Jvm.Cond.fieldLink RX10 26 "BlockCast$Writer" "width" "J" ∈ am_ok := am_wd 312 (by decide +kernel) (by decide +kernel)
theorem wd_948 : Jvm.Cond.methodLink RX10 35 yX7_get ∈ am_ok := am_wd 948 (by decide +kernel) (by decide +kernel)
theorem wd_553 : Jvm.Cond.static yX7_get ∈ am_ok := am_wd 553 (by decide +kernel) (by decide +kernel)
theorem wd_950 : Jvm.Cond.methodLink RX10 41 yX7_put ∈ am_ok := am_wd 950 (by decide +kernel) (by decide +kernel)
theorem wd_556 : Jvm.Cond.static yX7_put ∈ am_ok := am_wd 556 (by decide +kernel) (by decide +kernel)
theorem wd_955 : Jvm.Cond.constantLong RX10 51 (mL (16777216)) ∈ am_ok := am_wd 955 (by decide +kernel) (by decide +kernel)
theorem wd_960 : Jvm.Cond.constantLong RX10 56 (mL (256)) ∈ am_ok := am_wd 960 (by decide +kernel) (by decide +kernel)
theorem wd_934 : Jvm.Cond.methodLink RX10 29 yX7_set ∈ am_ok := am_wd 934 (by decide +kernel) (by decide +kernel)
theorem wd_398 : Jvm.Cond.static yX7_set ∈ am_ok := am_wd 398 (by decide +kernel) (by decide +kernel)
theorem wd_1058 : Jvm.Cond.methodLink RX10 72 Lib.Math.max.name ∈ am_ok := am_wd 1058 (by decide +kernel) (by decide +kernel)
theorem wd_1059 : Jvm.Cond.methodLink RX10 75 yX7_copy ∈ am_ok := am_wd 1059 (by decide +kernel) (by decide +kernel)
theorem wd_588 : Jvm.Cond.static yX7_copy ∈ am_ok := am_wd 588 (by decide +kernel) (by decide +kernel)
theorem wd_1817 : Jvm.Cond.methodLink RX12 374 yX12_noShown ∈ am_ok := am_wd 1817 (by decide +kernel) (by decide +kernel)
theorem wd_1819 : Jvm.Cond.instanceMethod yX12_noShown ∈ am_ok := am_wd 1819 (by decide +kernel) (by decide +kernel)
theorem wd_55 : Jvm.Cond.selects RX12 yX12_noShown yX12_noShown ∈ am_ok := am_wd 55 (by decide +kernel) (by decide +kernel)
theorem wd_1365 : Jvm.Cond.fieldLink RX12 70 "BlockCastModel" "built" "[[I" ∈ am_ok := am_wd 1365 (by decide +kernel) (by decide +kernel)
theorem wd_1502 : Jvm.Cond.methodLink RX12 113 yX12_in ∈ am_ok := am_wd 1502 (by decide +kernel) (by decide +kernel)
theorem wd_1503 : Jvm.Cond.static yX12_in ∈ am_ok := am_wd 1503 (by decide +kernel) (by decide +kernel)
theorem wd_1517 : Jvm.Cond.methodLink RX12 3 Lib.Math.min.name ∈ am_ok := am_wd 1517 (by decide +kernel) (by decide +kernel)
theorem wd_1518 : Jvm.Cond.methodLink RX12 9 Lib.Math.max.name ∈ am_ok := am_wd 1518 (by decide +kernel) (by decide +kernel)
theorem wd_1343 : Jvm.Cond.methodLink RX12 12 Lib.objectInit ∈ am_ok := am_wd 1343 (by decide +kernel) (by decide +kernel)
theorem wd_1349 : Jvm.Cond.fieldLink RX12 26 "BlockCastModel" "tools" "I" ∈ am_ok := am_wd 1349 (by decide +kernel) (by decide +kernel)
theorem wd_1350 : Jvm.Cond.fieldLink RX12 29 "BlockCastModel" "slices" "I" ∈ am_ok := am_wd 1350 (by decide +kernel) (by decide +kernel)
theorem wd_1491 : Jvm.Cond.arrayClass .char ∈ am_ok := am_wd 1491 (by decide +kernel) (by decide +kernel)
theorem wd_1356 : Jvm.Cond.fieldLink RX12 39 "BlockCastModel" "kinds" "[C" ∈ am_ok := am_wd 1356 (by decide +kernel) (by decide +kernel)
theorem wd_1357 : Jvm.Cond.fieldLink RX12 43 "BlockCastModel" "coarsenesses" "[I" ∈ am_ok := am_wd 1357 (by decide +kernel) (by decide +kernel)
theorem wd_1358 : Jvm.Cond.fieldLink RX12 46 "BlockCastModel" "toolsOf" "[I" ∈ am_ok := am_wd 1358 (by decide +kernel) (by decide +kernel)
theorem wd_1359 : Jvm.Cond.fieldLink RX12 49 "BlockCastModel" "slicesOf" "[I" ∈ am_ok := am_wd 1359 (by decide +kernel) (by decide +kernel)
theorem wd_1492 : Jvm.Cond.arrayClass .boolean ∈ am_ok := am_wd 1492 (by decide +kernel) (by decide +kernel)
theorem wd_1360 : Jvm.Cond.fieldLink RX12 52 "BlockCastModel" "keeps" "[Z" ∈ am_ok := am_wd 1360 (by decide +kernel) (by decide +kernel)
theorem wd_1361 : Jvm.Cond.fieldLink RX12 56 "BlockCastModel" "firsts" "[I" ∈ am_ok := am_wd 1361 (by decide +kernel) (by decide +kernel)
theorem wd_1362 : Jvm.Cond.fieldLink RX12 59 "BlockCastModel" "seconds" "[I" ∈ am_ok := am_wd 1362 (by decide +kernel) (by decide +kernel)
theorem wd_1493 : Jvm.Cond.arrayClass .long ∈ am_ok := am_wd 1493 (by decide +kernel) (by decide +kernel)
theorem wd_1364 : Jvm.Cond.fieldLink RX12 65 "BlockCastModel" "errors" "[J" ∈ am_ok := am_wd 1364 (by decide +kernel) (by decide +kernel)
theorem wd_1344 : Jvm.Cond.classLink RX12 69 "[I" ∈ am_ok := am_wd 1344 (by decide +kernel) (by decide +kernel)
theorem wd_1366 : Jvm.Cond.fieldLink RX12 74 "BlockCastModel" "levels" "[[I" ∈ am_ok := am_wd 1366 (by decide +kernel) (by decide +kernel)
theorem wd_1367 : Jvm.Cond.fieldLink RX12 77 "BlockCastModel" "bytes" "[[I" ∈ am_ok := am_wd 1367 (by decide +kernel) (by decide +kernel)
theorem wd_1370 : Jvm.Cond.fieldLink RX12 86 "BlockCastModel" "vectors" "[[I" ∈ am_ok := am_wd 1370 (by decide +kernel) (by decide +kernel)
theorem wd_1371 : Jvm.Cond.fieldLink RX12 89 "BlockCastModel" "kept" "[I" ∈ am_ok := am_wd 1371 (by decide +kernel) (by decide +kernel)
theorem bi_sipush_8192 : (Int16.ofInt (8192)).toInt32 = mI (8192) := by decide +kernel
theorem bi_bipush_80 : (Int8.ofInt (80)).toInt32 = mI (80) := by decide +kernel
theorem wd_1384 : Jvm.Cond.fieldLink RX12 98 "BlockCastModel" "lasts" "[I" ∈ am_ok := am_wd 1384 (by decide +kernel) (by decide +kernel)
theorem wd_1389 : Jvm.Cond.fieldLink RX12 104 "BlockCastModel" "there" "[[I" ∈ am_ok := am_wd 1389 (by decide +kernel) (by decide +kernel)
theorem wd_1388 : Jvm.Cond.fieldLink RX12 365 "BlockCastModel" "isClean" "Z" ∈ am_ok := am_wd 1388 (by decide +kernel) (by decide +kernel)
theorem wd_1385 : Jvm.Cond.fieldLink RX12 355 "BlockCastModel" "next" "I" ∈ am_ok := am_wd 1385 (by decide +kernel) (by decide +kernel)
theorem wd_1615 : Jvm.Cond.methodLink RX12 175 Lib.Math.abs.name ∈ am_ok := am_wd 1615 (by decide +kernel) (by decide +kernel)
theorem bi_bipush_m15 : (Int8.ofInt (-15)).toInt32 = mI (-15) := by decide +kernel
theorem wd_1523 : Jvm.Cond.methodLink RX12 122 ⟨"[I", "clone", "()Ljava/lang/Object;"⟩ ∈ am_ok := am_wd 1523 (by decide +kernel) (by decide +kernel)
theorem wd_1649 : Jvm.Cond.constantLong RX12 235 (mL (2048)) ∈ am_ok := am_wd 1649 (by decide +kernel) (by decide +kernel)
theorem wd_1650 : Jvm.Cond.methodLink RX12 237 yX12_adds ∈ am_ok := am_wd 1650 (by decide +kernel) (by decide +kernel)
theorem wd_1652 : Jvm.Cond.instanceMethod yX12_adds ∈ am_ok := am_wd 1652 (by decide +kernel) (by decide +kernel)
theorem wd_38 : Jvm.Cond.selects RX12 yX12_adds yX12_adds ∈ am_ok := am_wd 38 (by decide +kernel) (by decide +kernel)
theorem bi_bipush_32 : (Int8.ofInt (32)).toInt32 = mI (32) := by decide +kernel
theorem bi_sipush_2048 : (Int16.ofInt (2048)).toInt32 = mI (2048) := by decide +kernel
theorem wd_1655 : Jvm.Cond.methodLink RX12 241 yX12_widens ∈ am_ok := am_wd 1655 (by decide +kernel) (by decide +kernel)
theorem wd_1657 : Jvm.Cond.instanceMethod yX12_widens ∈ am_ok := am_wd 1657 (by decide +kernel) (by decide +kernel)
theorem wd_39 : Jvm.Cond.selects RX12 yX12_widens yX12_widens ∈ am_ok := am_wd 39 (by decide +kernel) (by decide +kernel)
theorem wd_1681 : Jvm.Cond.constantLong RX12 244 (mL (2)) ∈ am_ok := am_wd 1681 (by decide +kernel) (by decide +kernel)
theorem wd_1556 : Jvm.Cond.constant RX12 130 (mI (99999)) ∈ am_ok := am_wd 1556 (by decide +kernel) (by decide +kernel)
theorem wd_1352 : Jvm.Cond.fieldLink RX12 131 "BlockCastModel" "room" "I" ∈ am_ok := am_wd 1352 (by decide +kernel) (by decide +kernel)
theorem wd_1353 : Jvm.Cond.fieldLink RX12 134 "BlockCastModel" "leak" "I" ∈ am_ok := am_wd 1353 (by decide +kernel) (by decide +kernel)
theorem bi_bipush_m99 : (Int8.ofInt (-99)).toInt32 = mI (-99) := by decide +kernel
theorem bi_bipush_99 : (Int8.ofInt (99)).toInt32 = mI (99) := by decide +kernel
theorem wd_1626 : Jvm.Cond.methodLink RX12 198 yX12_signOf ∈ am_ok := am_wd 1626 (by decide +kernel) (by decide +kernel)
theorem wd_1627 : Jvm.Cond.static yX12_signOf ∈ am_ok := am_wd 1627 (by decide +kernel) (by decide +kernel)
theorem wd_833 : Jvm.Cond.methodLinkNest RX1 65 yX11_placeOf "BlockCast" ∈ am_ok := am_wd 833 (by decide +kernel) (by decide +kernel)
theorem wd_550 : Jvm.Cond.static yX11_placeOf ∈ am_ok := am_wd 550 (by decide +kernel) (by decide +kernel)
theorem wd_834 : Jvm.Cond.methodLink RX1 69 yX7_get ∈ am_ok := am_wd 834 (by decide +kernel) (by decide +kernel)
theorem wd_217 : Jvm.Cond.fieldLink RX1 32 "BlockCast$Builder" "mean" "I" ∈ am_ok := am_wd 217 (by decide +kernel) (by decide +kernel)
theorem wd_214 : Jvm.Cond.fieldLink RX1 21 "BlockCast$Builder" "above" "[I" ∈ am_ok := am_wd 214 (by decide +kernel) (by decide +kernel)
theorem wd_215 : Jvm.Cond.fieldLink RX1 25 "BlockCast$Builder" "left" "[I" ∈ am_ok := am_wd 215 (by decide +kernel) (by decide +kernel)
theorem wd_216 : Jvm.Cond.fieldLink RX1 28 "BlockCast$Builder" "corner" "I" ∈ am_ok := am_wd 216 (by decide +kernel) (by decide +kernel)
theorem wd_854 : Jvm.Cond.methodLinkNest RX1 88 yX11_withinValues "BlockCast" ∈ am_ok := am_wd 854 (by decide +kernel) (by decide +kernel)
theorem wd_577 : Jvm.Cond.static yX11_withinValues ∈ am_ok := am_wd 577 (by decide +kernel) (by decide +kernel)
theorem wd_248 : Jvm.Cond.fieldLinkNest RX1 49 "BlockCast$Part" "y" "I" "BlockCast" ∈ am_ok := am_wd 248 (by decide +kernel) (by decide +kernel)
theorem wd_252 : Jvm.Cond.fieldLinkNest RX1 41 "BlockCast$Part" "size" "I" "BlockCast" ∈ am_ok := am_wd 252 (by decide +kernel) (by decide +kernel)
theorem wd_244 : Jvm.Cond.fieldLinkNest RX1 46 "BlockCast$Part" "x" "I" "BlockCast" ∈ am_ok := am_wd 244 (by decide +kernel) (by decide +kernel)
theorem wd_218 : Jvm.Cond.fieldLink RX1 35 "BlockCast$Builder" "guess" "[I" ∈ am_ok := am_wd 218 (by decide +kernel) (by decide +kernel)
theorem wd_875 : Jvm.Cond.methodLink RX1 107 Lib.Math.abs.name ∈ am_ok := am_wd 875 (by decide +kernel) (by decide +kernel)
theorem wd_835 : Jvm.Cond.methodLink RX1 59 yX7_put ∈ am_ok := am_wd 835 (by decide +kernel) (by decide +kernel)
theorem wd_219 : Jvm.Cond.fieldLink RX1 38 "BlockCast$Builder" "square" "[I" ∈ am_ok := am_wd 219 (by decide +kernel) (by decide +kernel)
theorem wd_765 : Jvm.Cond.methodLinkNest RX2 73 yX11_placeOf "BlockCast" ∈ am_ok := am_wd 765 (by decide +kernel) (by decide +kernel)
theorem wd_766 : Jvm.Cond.methodLink RX2 91 yX7_get ∈ am_ok := am_wd 766 (by decide +kernel) (by decide +kernel)
theorem wd_767 : Jvm.Cond.methodLink RX2 97 Lib.Math.min.name ∈ am_ok := am_wd 767 (by decide +kernel) (by decide +kernel)
theorem wd_770 : Jvm.Cond.methodLink RX2 102 Lib.Math.max.name ∈ am_ok := am_wd 770 (by decide +kernel) (by decide +kernel)
theorem wd_773 : Jvm.Cond.methodLink RX2 105 yX6_has ∈ am_ok := am_wd 773 (by decide +kernel) (by decide +kernel)
theorem wd_774 : Jvm.Cond.instanceMethod yX6_has ∈ am_ok := am_wd 774 (by decide +kernel) (by decide +kernel)
theorem wd_775 : Jvm.Cond.selects RX6 yX6_has yX6_has ∈ am_ok := am_wd 775 (by decide +kernel) (by decide +kernel)
theorem wd_122 : Jvm.Cond.fieldLinkNest RX2 108 "BlockCast$Picture" "step" "I" "BlockCast" ∈ am_ok := am_wd 122 (by decide +kernel) (by decide +kernel)
theorem wd_1247 : Jvm.Cond.methodLinkNest RX3 165 yX11_inPicture "BlockCast" ∈ am_ok := am_wd 1247 (by decide +kernel) (by decide +kernel)
theorem wd_899 : Jvm.Cond.static yX11_inPicture ∈ am_ok := am_wd 899 (by decide +kernel) (by decide +kernel)
theorem wd_351 : Jvm.Cond.fieldLink RX3 25 "BlockCast$Decoder" "work" "[I" ∈ am_ok := am_wd 351 (by decide +kernel) (by decide +kernel)
theorem wd_358 : Jvm.Cond.fieldLink RX3 40 "BlockCast$Decoder" "shownPixels" "[I" ∈ am_ok := am_wd 358 (by decide +kernel) (by decide +kernel)
theorem wd_1248 : Jvm.Cond.methodLink RX3 91 yX7_get ∈ am_ok := am_wd 1248 (by decide +kernel) (by decide +kernel)
theorem wd_1249 : Jvm.Cond.methodLink RX3 104 yX7_put ∈ am_ok := am_wd 1249 (by decide +kernel) (by decide +kernel)
theorem wd_362 : Jvm.Cond.fieldLink RX3 46 "BlockCast$Decoder" "keptPixels" "[I" ∈ am_ok := am_wd 362 (by decide +kernel) (by decide +kernel)
theorem wd_1265 : Jvm.Cond.methodLink RX3 101 yX7_shift ∈ am_ok := am_wd 1265 (by decide +kernel) (by decide +kernel)
theorem wd_1077 : Jvm.Cond.static yX7_shift ∈ am_ok := am_wd 1077 (by decide +kernel) (by decide +kernel)
theorem wd_1260 : Jvm.Cond.methodLink RX3 72 yX7_copy ∈ am_ok := am_wd 1260 (by decide +kernel) (by decide +kernel)
theorem wd_363 : Jvm.Cond.fieldLink RX3 49 "BlockCast$Decoder" "keptClean" "[I" ∈ am_ok := am_wd 363 (by decide +kernel) (by decide +kernel)
theorem wd_356 : Jvm.Cond.fieldLink RX3 36 "BlockCast$Decoder" "isShownClean" "Z" ∈ am_ok := am_wd 356 (by decide +kernel) (by decide +kernel)
theorem wd_360 : Jvm.Cond.fieldLink RX3 43 "BlockCast$Decoder" "keptCount" "I" ∈ am_ok := am_wd 360 (by decide +kernel) (by decide +kernel)
theorem wd_1266 : Jvm.Cond.methodLink RX3 108 Lib.Math.min.name ∈ am_ok := am_wd 1266 (by decide +kernel) (by decide +kernel)
theorem wd_1236 : Jvm.Cond.methodLink RX3 84 yX6_leansOnFirst ∈ am_ok := am_wd 1236 (by decide +kernel) (by decide +kernel)
theorem wd_730 : Jvm.Cond.instanceMethod yX6_leansOnFirst ∈ am_ok := am_wd 730 (by decide +kernel) (by decide +kernel)
theorem wd_731 : Jvm.Cond.selects RX6 yX6_leansOnFirst yX6_leansOnFirst ∈ am_ok := am_wd 731 (by decide +kernel) (by decide +kernel)
theorem wd_118 : Jvm.Cond.fieldLinkNest RX3 88 "BlockCast$Picture" "first" "I" "BlockCast" ∈ am_ok := am_wd 118 (by decide +kernel) (by decide +kernel)
theorem wd_1238 : Jvm.Cond.methodLink RX3 95 yX6_leansOnSecond ∈ am_ok := am_wd 1238 (by decide +kernel) (by decide +kernel)
theorem wd_746 : Jvm.Cond.instanceMethod yX6_leansOnSecond ∈ am_ok := am_wd 746 (by decide +kernel) (by decide +kernel)
theorem wd_747 : Jvm.Cond.selects RX6 yX6_leansOnSecond yX6_leansOnSecond ∈ am_ok := am_wd 747 (by decide +kernel) (by decide +kernel)
theorem wd_120 : Jvm.Cond.fieldLinkNest RX3 98 "BlockCast$Picture" "second" "I" "BlockCast" ∈ am_ok := am_wd 120 (by decide +kernel) (by decide +kernel)
theorem wd_352 : Jvm.Cond.fieldLink RX3 29 "BlockCast$Decoder" "next" "I" ∈ am_ok := am_wd 352 (by decide +kernel) (by decide +kernel)
theorem wd_354 : Jvm.Cond.fieldLink RX3 33 "BlockCast$Decoder" "shownNumber" "I" ∈ am_ok := am_wd 354 (by decide +kernel) (by decide +kernel)
theorem wd_397 : Jvm.Cond.methodLink RX3 58 yX7_set ∈ am_ok := am_wd 397 (by decide +kernel) (by decide +kernel)
theorem wd_740 : Jvm.Cond.methodLink RX4 25 yX4_inside ∈ am_ok := am_wd 740 (by decide +kernel) (by decide +kernel)
theorem wd_741 : Jvm.Cond.static yX4_inside ∈ am_ok := am_wd 741 (by decide +kernel) (by decide +kernel)
theorem wd_743 : Jvm.Cond.methodLink RX4 29 yX7_get ∈ am_ok := am_wd 743 (by decide +kernel) (by decide +kernel)
theorem wd_204 : Jvm.Cond.fieldLink RX4 11 "BlockCast$Halves" "values" "[I" ∈ am_ok := am_wd 204 (by decide +kernel) (by decide +kernel)
theorem wd_818 : Jvm.Cond.methodLink RX4 33 yX4_placeFrom ∈ am_ok := am_wd 818 (by decide +kernel) (by decide +kernel)
theorem wd_819 : Jvm.Cond.static yX4_placeFrom ∈ am_ok := am_wd 819 (by decide +kernel) (by decide +kernel)
theorem wd_203 : Jvm.Cond.methodLink RX4 3 Lib.objectInit ∈ am_ok := am_wd 203 (by decide +kernel) (by decide +kernel)
theorem bi_sipush_2209 : (Int16.ofInt (2209)).toInt32 = mI (2209) := by decide +kernel
theorem wd_825 : Jvm.Cond.methodLink RX4 61 Lib.Math.abs.name ∈ am_ok := am_wd 825 (by decide +kernel) (by decide +kernel)
theorem wd_242 : Jvm.Cond.methodLink RX5 3 Lib.objectInit ∈ am_ok := am_wd 242 (by decide +kernel) (by decide +kernel)
theorem wd_262 : Jvm.Cond.fieldLink RX5 27 "BlockCast$Part" "firstVector" "I" ∈ am_ok := am_wd 262 (by decide +kernel) (by decide +kernel)
theorem wd_267 : Jvm.Cond.fieldLink RX5 30 "BlockCast$Part" "secondVector" "I" ∈ am_ok := am_wd 267 (by decide +kernel) (by decide +kernel)
theorem wd_132 : Jvm.Cond.fieldLink RX6 35 "BlockCast$Picture" "error" "J" ∈ am_ok := am_wd 132 (by decide +kernel) (by decide +kernel)
theorem wd_150 : Jvm.Cond.fieldLink RX6 61 "BlockCast$Picture" "pixels" "[I" ∈ am_ok := am_wd 150 (by decide +kernel) (by decide +kernel)
theorem wd_943 : Jvm.Cond.methodLink RX6 64 yX7_get ∈ am_ok := am_wd 943 (by decide +kernel) (by decide +kernel)
theorem wd_114 : Jvm.Cond.methodLink RX6 3 Lib.objectInit ∈ am_ok := am_wd 114 (by decide +kernel) (by decide +kernel)
theorem wd_138 : Jvm.Cond.fieldLink RX6 46 "BlockCast$Picture" "sizes" "[I" ∈ am_ok := am_wd 138 (by decide +kernel) (by decide +kernel)
theorem wd_140 : Jvm.Cond.fieldLink RX6 49 "BlockCast$Picture" "modes" "[I" ∈ am_ok := am_wd 140 (by decide +kernel) (by decide +kernel)
theorem wd_142 : Jvm.Cond.fieldLink RX6 52 "BlockCast$Picture" "firstVectors" "[I" ∈ am_ok := am_wd 142 (by decide +kernel) (by decide +kernel)
theorem wd_144 : Jvm.Cond.fieldLink RX6 55 "BlockCast$Picture" "secondVectors" "[I" ∈ am_ok := am_wd 144 (by decide +kernel) (by decide +kernel)
theorem wd_146 : Jvm.Cond.fieldLink RX6 58 "BlockCast$Picture" "levels" "[I" ∈ am_ok := am_wd 146 (by decide +kernel) (by decide +kernel)
theorem wd_840 : Jvm.Cond.methodLink RX6 70 yX6_leansOnSecond ∈ am_ok := am_wd 840 (by decide +kernel) (by decide +kernel)
theorem wd_841 : Jvm.Cond.methodLink RX6 74 yX6_leansOnFirst ∈ am_ok := am_wd 841 (by decide +kernel) (by decide +kernel)
theorem wd_250 : Jvm.Cond.fieldLinkNest RX6 88 "BlockCast$Part" "y" "I" "BlockCast" ∈ am_ok := am_wd 250 (by decide +kernel) (by decide +kernel)
theorem wd_254 : Jvm.Cond.fieldLinkNest RX6 93 "BlockCast$Part" "size" "I" "BlockCast" ∈ am_ok := am_wd 254 (by decide +kernel) (by decide +kernel)
theorem wd_246 : Jvm.Cond.fieldLinkNest RX6 96 "BlockCast$Part" "x" "I" "BlockCast" ∈ am_ok := am_wd 246 (by decide +kernel) (by decide +kernel)
theorem wd_888 : Jvm.Cond.methodLinkNest RX6 99 yX11_squareAt "BlockCast" ∈ am_ok := am_wd 888 (by decide +kernel) (by decide +kernel)
theorem wd_889 : Jvm.Cond.static yX11_squareAt ∈ am_ok := am_wd 889 (by decide +kernel) (by decide +kernel)
theorem wd_891 : Jvm.Cond.methodLink RX6 103 yX7_put ∈ am_ok := am_wd 891 (by decide +kernel) (by decide +kernel)
theorem wd_261 : Jvm.Cond.fieldLinkNest RX6 107 "BlockCast$Part" "mode" "I" "BlockCast" ∈ am_ok := am_wd 261 (by decide +kernel) (by decide +kernel)
theorem wd_892 : Jvm.Cond.methodLink RX6 110 yX5_usesFirst ∈ am_ok := am_wd 892 (by decide +kernel) (by decide +kernel)
theorem wd_868 : Jvm.Cond.instanceMethod yX5_usesFirst ∈ am_ok := am_wd 868 (by decide +kernel) (by decide +kernel)
theorem wd_869 : Jvm.Cond.selects RX5 yX5_usesFirst yX5_usesFirst ∈ am_ok := am_wd 869 (by decide +kernel) (by decide +kernel)
theorem wd_266 : Jvm.Cond.fieldLinkNest RX6 113 "BlockCast$Part" "firstVector" "I" "BlockCast" ∈ am_ok := am_wd 266 (by decide +kernel) (by decide +kernel)
theorem wd_893 : Jvm.Cond.methodLink RX6 116 yX5_usesSecond ∈ am_ok := am_wd 893 (by decide +kernel) (by decide +kernel)
theorem wd_860 : Jvm.Cond.instanceMethod yX5_usesSecond ∈ am_ok := am_wd 860 (by decide +kernel) (by decide +kernel)
theorem wd_861 : Jvm.Cond.selects RX5 yX5_usesSecond yX5_usesSecond ∈ am_ok := am_wd 861 (by decide +kernel) (by decide +kernel)
theorem wd_271 : Jvm.Cond.fieldLinkNest RX6 119 "BlockCast$Part" "secondVector" "I" "BlockCast" ∈ am_ok := am_wd 271 (by decide +kernel) (by decide +kernel)
theorem wd_781 : Jvm.Cond.methodLink RX6 77 yX6_sliceOf ∈ am_ok := am_wd 781 (by decide +kernel) (by decide +kernel)
theorem wd_782 : Jvm.Cond.instanceMethod yX6_sliceOf ∈ am_ok := am_wd 782 (by decide +kernel) (by decide +kernel)
theorem wd_783 : Jvm.Cond.selects RX6 yX6_sliceOf yX6_sliceOf ∈ am_ok := am_wd 783 (by decide +kernel) (by decide +kernel)
theorem wd_808 : Jvm.Cond.methodLink RX9 9 yX9_right ∈ am_ok := am_wd 808 (by decide +kernel) (by decide +kernel)
theorem wd_809 : Jvm.Cond.static yX9_right ∈ am_ok := am_wd 809 (by decide +kernel) (by decide +kernel)
theorem wd_811 : Jvm.Cond.methodLink RX9 15 Lib.Math.abs.name ∈ am_ok := am_wd 811 (by decide +kernel) (by decide +kernel)
theorem wd_814 : Jvm.Cond.methodLink RX9 20 yX9_down ∈ am_ok := am_wd 814 (by decide +kernel) (by decide +kernel)
theorem wd_815 : Jvm.Cond.static yX9_down ∈ am_ok := am_wd 815 (by decide +kernel) (by decide +kernel)
theorem wd_949 : Jvm.Cond.constantLong RX10 39 (mL (2048)) ∈ am_ok := am_wd 949 (by decide +kernel) (by decide +kernel)
theorem wd_951 : Jvm.Cond.methodLink RX10 45 yX10_narrow ∈ am_ok := am_wd 951 (by decide +kernel) (by decide +kernel)
theorem wd_953 : Jvm.Cond.instanceMethod yX10_narrow ∈ am_ok := am_wd 953 (by decide +kernel) (by decide +kernel)
theorem wd_11 : Jvm.Cond.selects RX10 yX10_narrow yX10_narrow ∈ am_ok := am_wd 11 (by decide +kernel) (by decide +kernel)
theorem wd_999 : Jvm.Cond.constantLong RX10 49 (mL (2)) ∈ am_ok := am_wd 999 (by decide +kernel) (by decide +kernel)
theorem wd_407 : Jvm.Cond.fieldLink RX11 39 "BlockCast" "coded" "[LBlockCast$Picture;" ∈ am_ok := am_wd 407 (by decide +kernel) (by decide +kernel)
theorem wd_409 : Jvm.Cond.fieldLink RX11 47 "BlockCast" "draft" "LBlockCast$Picture;" ∈ am_ok := am_wd 409 (by decide +kernel) (by decide +kernel)
theorem wd_131 : Jvm.Cond.fieldLinkNest RX11 329 "BlockCast$Picture" "isKept" "Z" "BlockCast" ∈ am_ok := am_wd 131 (by decide +kernel) (by decide +kernel)
theorem wd_410 : Jvm.Cond.fieldLink RX11 51 "BlockCast" "keptNumbers" "[I" ∈ am_ok := am_wd 410 (by decide +kernel) (by decide +kernel)
theorem wd_1076 : Jvm.Cond.methodLink RX11 332 yX7_shift ∈ am_ok := am_wd 1076 (by decide +kernel) (by decide +kernel)
theorem wd_555 : Jvm.Cond.methodLink RX11 109 yX7_put ∈ am_ok := am_wd 555 (by decide +kernel) (by decide +kernel)
theorem wd_1079 : Jvm.Cond.methodLink RX11 336 Lib.Math.min.name ∈ am_ok := am_wd 1079 (by decide +kernel) (by decide +kernel)
theorem wd_108 : Jvm.Cond.classLink RX11 37 RX6 ∈ am_ok := am_wd 108 (by decide +kernel) (by decide +kernel)
theorem wd_110 : Jvm.Cond.instantiable RX6 16 ∈ am_ok := am_wd 110 (by decide +kernel) (by decide +kernel)
theorem wd_111 : Jvm.Cond.methodLinkNest RX11 46 yX6_init "BlockCast" ∈ am_ok := am_wd 111 (by decide +kernel) (by decide +kernel)
theorem wd_112 : Jvm.Cond.instanceMethod yX6_init ∈ am_ok := am_wd 112 (by decide +kernel) (by decide +kernel)
theorem wd_1612 : Jvm.Cond.methodLink RX12 144 yX12_inside ∈ am_ok := am_wd 1612 (by decide +kernel) (by decide +kernel)
theorem wd_1613 : Jvm.Cond.static yX12_inside ∈ am_ok := am_wd 1613 (by decide +kernel) (by decide +kernel)
theorem wd_1623 : Jvm.Cond.methodLink RX12 201 yX12_turned ∈ am_ok := am_wd 1623 (by decide +kernel) (by decide +kernel)
theorem wd_1624 : Jvm.Cond.static yX12_turned ∈ am_ok := am_wd 1624 (by decide +kernel) (by decide +kernel)
theorem wd_1597 : Jvm.Cond.methodLink RX12 137 yX12_top ∈ am_ok := am_wd 1597 (by decide +kernel) (by decide +kernel)
theorem wd_1598 : Jvm.Cond.static yX12_top ∈ am_ok := am_wd 1598 (by decide +kernel) (by decide +kernel)
theorem wd_1600 : Jvm.Cond.methodLink RX12 140 yX12_border ∈ am_ok := am_wd 1600 (by decide +kernel) (by decide +kernel)
theorem wd_1601 : Jvm.Cond.static yX12_border ∈ am_ok := am_wd 1601 (by decide +kernel) (by decide +kernel)
theorem wd_1514 : Jvm.Cond.methodLink RX12 118 yX12_held ∈ am_ok := am_wd 1514 (by decide +kernel) (by decide +kernel)
theorem wd_1515 : Jvm.Cond.static yX12_held ∈ am_ok := am_wd 1515 (by decide +kernel) (by decide +kernel)
theorem wd_1742 : Jvm.Cond.methodLink RX12 332 yX12_noSlice ∈ am_ok := am_wd 1742 (by decide +kernel) (by decide +kernel)
theorem wd_1744 : Jvm.Cond.instanceMethod yX12_noSlice ∈ am_ok := am_wd 1744 (by decide +kernel) (by decide +kernel)
theorem wd_49 : Jvm.Cond.selects RX12 yX12_noSlice yX12_noSlice ∈ am_ok := am_wd 49 (by decide +kernel) (by decide +kernel)
theorem wd_1730 : Jvm.Cond.methodLink RX12 328 yX12_noPicture ∈ am_ok := am_wd 1730 (by decide +kernel) (by decide +kernel)
theorem wd_1732 : Jvm.Cond.instanceMethod yX12_noPicture ∈ am_ok := am_wd 1732 (by decide +kernel) (by decide +kernel)
theorem wd_48 : Jvm.Cond.selects RX12 yX12_noPicture yX12_noPicture ∈ am_ok := am_wd 48 (by decide +kernel) (by decide +kernel)
theorem wd_1378 : Jvm.Cond.fieldLink RX12 205 "BlockCastModel" "level" "[I" ∈ am_ok := am_wd 1378 (by decide +kernel) (by decide +kernel)
theorem wd_1513 : Jvm.Cond.constant RX12 117 (mI (1103515245)) ∈ am_ok := am_wd 1513 (by decide +kernel) (by decide +kernel)
theorem bi_sipush_12345 : (Int16.ofInt (12345)).toInt32 = mI (12345) := by decide +kernel
theorem wd_1379 : Jvm.Cond.fieldLink RX12 189 "BlockCastModel" "kind" "C" ∈ am_ok := am_wd 1379 (by decide +kernel) (by decide +kernel)
theorem wd_1699 : Jvm.Cond.methodLink RX12 322 yX12_errorNow ∈ am_ok := am_wd 1699 (by decide +kernel) (by decide +kernel)
theorem wd_1701 : Jvm.Cond.instanceMethod yX12_errorNow ∈ am_ok := am_wd 1701 (by decide +kernel) (by decide +kernel)
theorem wd_47 : Jvm.Cond.selects RX12 yX12_errorNow yX12_errorNow ∈ am_ok := am_wd 47 (by decide +kernel) (by decide +kernel)
theorem wd_1376 : Jvm.Cond.fieldLink RX12 258 "BlockCastModel" "mode" "[I" ∈ am_ok := am_wd 1376 (by decide +kernel) (by decide +kernel)
theorem wd_1703 : Jvm.Cond.methodLink RX12 326 yX12_keeps_ ∈ am_ok := am_wd 1703 (by decide +kernel) (by decide +kernel)
theorem wd_1704 : Jvm.Cond.static yX12_keeps_ ∈ am_ok := am_wd 1704 (by decide +kernel) (by decide +kernel)
theorem wd_1533 : Jvm.Cond.methodLink RX12 126 yX12_isPixel ∈ am_ok := am_wd 1533 (by decide +kernel) (by decide +kernel)
theorem wd_1534 : Jvm.Cond.static yX12_isPixel ∈ am_ok := am_wd 1534 (by decide +kernel) (by decide +kernel)
theorem wd_1645 : Jvm.Cond.methodLink RX12 246 yX12_says ∈ am_ok := am_wd 1645 (by decide +kernel) (by decide +kernel)
theorem wd_1647 : Jvm.Cond.instanceMethod yX12_says ∈ am_ok := am_wd 1647 (by decide +kernel) (by decide +kernel)
theorem wd_37 : Jvm.Cond.selects RX12 yX12_says yX12_says ∈ am_ok := am_wd 37 (by decide +kernel) (by decide +kernel)
theorem wd_1677 : Jvm.Cond.methodLink RX12 250 yX12_saysPlain ∈ am_ok := am_wd 1677 (by decide +kernel) (by decide +kernel)
theorem wd_1679 : Jvm.Cond.instanceMethod yX12_saysPlain ∈ am_ok := am_wd 1679 (by decide +kernel) (by decide +kernel)
theorem wd_44 : Jvm.Cond.selects RX12 yX12_saysPlain yX12_saysPlain ∈ am_ok := am_wd 44 (by decide +kernel) (by decide +kernel)
theorem wd_1692 : Jvm.Cond.methodLink RX12 216 yX12_meets ∈ am_ok := am_wd 1692 (by decide +kernel) (by decide +kernel)
theorem wd_1693 : Jvm.Cond.static yX12_meets ∈ am_ok := am_wd 1693 (by decide +kernel) (by decide +kernel)
theorem wd_859 : Jvm.Cond.methodLink RX1 92 yX5_usesSecond ∈ am_ok := am_wd 859 (by decide +kernel) (by decide +kernel)
theorem wd_208 : Jvm.Cond.fieldLink RX1 12 "BlockCast$Builder" "first" "LBlockCast$Halves;" ∈ am_ok := am_wd 208 (by decide +kernel) (by decide +kernel)
theorem wd_265 : Jvm.Cond.fieldLinkNest RX1 95 "BlockCast$Part" "firstVector" "I" "BlockCast" ∈ am_ok := am_wd 265 (by decide +kernel) (by decide +kernel)
theorem wd_863 : Jvm.Cond.methodLink RX1 98 yX4_guessed ∈ am_ok := am_wd 863 (by decide +kernel) (by decide +kernel)
theorem wd_864 : Jvm.Cond.instanceMethod yX4_guessed ∈ am_ok := am_wd 864 (by decide +kernel) (by decide +kernel)
theorem wd_865 : Jvm.Cond.selects RX4 yX4_guessed yX4_guessed ∈ am_ok := am_wd 865 (by decide +kernel) (by decide +kernel)
theorem wd_867 : Jvm.Cond.methodLink RX1 101 yX5_usesFirst ∈ am_ok := am_wd 867 (by decide +kernel) (by decide +kernel)
theorem wd_211 : Jvm.Cond.fieldLink RX1 18 "BlockCast$Builder" "second" "LBlockCast$Halves;" ∈ am_ok := am_wd 211 (by decide +kernel) (by decide +kernel)
theorem wd_270 : Jvm.Cond.fieldLinkNest RX1 104 "BlockCast$Part" "secondVector" "I" "BlockCast" ∈ am_ok := am_wd 270 (by decide +kernel) (by decide +kernel)
theorem wd_197 : Jvm.Cond.methodLink RX1 3 Lib.objectInit ∈ am_ok := am_wd 197 (by decide +kernel) (by decide +kernel)
theorem wd_198 : Jvm.Cond.classLink RX1 9 RX4 ∈ am_ok := am_wd 198 (by decide +kernel) (by decide +kernel)
theorem wd_199 : Jvm.Cond.instantiable RX4 1 ∈ am_ok := am_wd 199 (by decide +kernel) (by decide +kernel)
theorem wd_200 : Jvm.Cond.methodLinkNest RX1 11 yX4_init "BlockCast" ∈ am_ok := am_wd 200 (by decide +kernel) (by decide +kernel)
theorem wd_201 : Jvm.Cond.instanceMethod yX4_init ∈ am_ok := am_wd 201 (by decide +kernel) (by decide +kernel)
theorem wd_920 : Jvm.Cond.methodLink RX1 133 yX6_has ∈ am_ok := am_wd 920 (by decide +kernel) (by decide +kernel)
theorem wd_123 : Jvm.Cond.fieldLinkNest RX1 123 "BlockCast$Picture" "step" "I" "BlockCast" ∈ am_ok := am_wd 123 (by decide +kernel) (by decide +kernel)
theorem wd_921 : Jvm.Cond.methodLink RX1 137 yX1_smoothPair ∈ am_ok := am_wd 921 (by decide +kernel) (by decide +kernel)
theorem wd_922 : Jvm.Cond.static yX1_smoothPair ∈ am_ok := am_wd 922 (by decide +kernel) (by decide +kernel)
theorem wd_924 : Jvm.Cond.methodLink RX1 141 yX6_sliceOf ∈ am_ok := am_wd 924 (by decide +kernel) (by decide +kernel)
theorem wd_256 : Jvm.Cond.fieldLinkNest RX1 52 "BlockCast$Part" "top" "I" "BlockCast" ∈ am_ok := am_wd 256 (by decide +kernel) (by decide +kernel)
theorem wd_830 : Jvm.Cond.methodLink RX1 55 yX1_bordering ∈ am_ok := am_wd 830 (by decide +kernel) (by decide +kernel)
theorem wd_831 : Jvm.Cond.static yX1_bordering ∈ am_ok := am_wd 831 (by decide +kernel) (by decide +kernel)
theorem wd_905 : Jvm.Cond.methodLink RX1 129 yX1_transformLine ∈ am_ok := am_wd 905 (by decide +kernel) (by decide +kernel)
theorem wd_907 : Jvm.Cond.instanceMethod yX1_transformLine ∈ am_ok := am_wd 907 (by decide +kernel) (by decide +kernel)
theorem wd_10 : Jvm.Cond.selects RX1 yX1_transformLine yX1_transformLine ∈ am_ok := am_wd 10 (by decide +kernel) (by decide +kernel)
theorem wd_805 : Jvm.Cond.methodLink RX4 37 yX9_length ∈ am_ok := am_wd 805 (by decide +kernel) (by decide +kernel)
theorem wd_806 : Jvm.Cond.static yX9_length ∈ am_ok := am_wd 806 (by decide +kernel) (by decide +kernel)
theorem wd_245 : Jvm.Cond.fieldLinkNest RX4 42 "BlockCast$Part" "x" "I" "BlockCast" ∈ am_ok := am_wd 245 (by decide +kernel) (by decide +kernel)
theorem wd_249 : Jvm.Cond.fieldLinkNest RX4 48 "BlockCast$Part" "y" "I" "BlockCast" ∈ am_ok := am_wd 249 (by decide +kernel) (by decide +kernel)
theorem wd_817 : Jvm.Cond.methodLinkNest RX4 51 yX11_placeOf "BlockCast" ∈ am_ok := am_wd 817 (by decide +kernel) (by decide +kernel)
theorem wd_253 : Jvm.Cond.fieldLinkNest RX4 55 "BlockCast$Part" "size" "I" "BlockCast" ∈ am_ok := am_wd 253 (by decide +kernel) (by decide +kernel)
theorem bi_bipush_94 : (Int8.ofInt (94)).toInt32 = mI (94) := by decide +kernel
theorem wd_821 : Jvm.Cond.methodLink RX4 58 yX4_rowDifference ∈ am_ok := am_wd 821 (by decide +kernel) (by decide +kernel)
theorem wd_823 : Jvm.Cond.instanceMethod yX4_rowDifference ∈ am_ok := am_wd 823 (by decide +kernel) (by decide +kernel)
theorem wd_6 : Jvm.Cond.selects RX4 yX4_rowDifference yX4_rowDifference ∈ am_ok := am_wd 6 (by decide +kernel) (by decide +kernel)
theorem wd_737 : Jvm.Cond.methodLink RX4 15 yX4_between ∈ am_ok := am_wd 737 (by decide +kernel) (by decide +kernel)
theorem wd_738 : Jvm.Cond.static yX4_between ∈ am_ok := am_wd 738 (by decide +kernel) (by decide +kernel)
theorem wd_744 : Jvm.Cond.methodLink RX4 19 yX7_put ∈ am_ok := am_wd 744 (by decide +kernel) (by decide +kernel)
theorem wd_880 : Jvm.Cond.methodLink RX5 33 yX5_isOfBorder ∈ am_ok := am_wd 880 (by decide +kernel) (by decide +kernel)
theorem wd_847 : Jvm.Cond.instanceMethod yX5_isOfBorder ∈ am_ok := am_wd 847 (by decide +kernel) (by decide +kernel)
theorem wd_848 : Jvm.Cond.selects RX5 yX5_isOfBorder yX5_isOfBorder ∈ am_ok := am_wd 848 (by decide +kernel) (by decide +kernel)
theorem wd_881 : Jvm.Cond.methodLink RX5 37 yX5_usesFirst ∈ am_ok := am_wd 881 (by decide +kernel) (by decide +kernel)
theorem wd_882 : Jvm.Cond.methodLink RX5 40 yX9_length ∈ am_ok := am_wd 882 (by decide +kernel) (by decide +kernel)
theorem wd_883 : Jvm.Cond.methodLink RX5 46 yX5_usesSecond ∈ am_ok := am_wd 883 (by decide +kernel) (by decide +kernel)
theorem wd_971 : Jvm.Cond.methodLinkNest RX6 122 yX11_rowOf "BlockCast" ∈ am_ok := am_wd 971 (by decide +kernel) (by decide +kernel)
theorem wd_757 : Jvm.Cond.static yX11_rowOf ∈ am_ok := am_wd 757 (by decide +kernel) (by decide +kernel)
theorem wd_972 : Jvm.Cond.methodLinkNest RX6 125 yX11_columnOf "BlockCast" ∈ am_ok := am_wd 972 (by decide +kernel) (by decide +kernel)
theorem wd_754 : Jvm.Cond.static yX11_columnOf ∈ am_ok := am_wd 754 (by decide +kernel) (by decide +kernel)
theorem wd_966 : Jvm.Cond.methodLink RX6 85 yX6_isSplitAt ∈ am_ok := am_wd 966 (by decide +kernel) (by decide +kernel)
theorem wd_940 : Jvm.Cond.instanceMethod yX6_isSplitAt ∈ am_ok := am_wd 940 (by decide +kernel) (by decide +kernel)
theorem wd_941 : Jvm.Cond.selects RX6 yX6_isSplitAt yX6_isSplitAt ∈ am_ok := am_wd 941 (by decide +kernel) (by decide +kernel)
theorem wd_973 : Jvm.Cond.methodLink RX6 128 yX6_topOf ∈ am_ok := am_wd 973 (by decide +kernel) (by decide +kernel)
theorem wd_778 : Jvm.Cond.instanceMethod yX6_topOf ∈ am_ok := am_wd 778 (by decide +kernel) (by decide +kernel)
theorem wd_779 : Jvm.Cond.selects RX6 yX6_topOf yX6_topOf ∈ am_ok := am_wd 779 (by decide +kernel) (by decide +kernel)
theorem wd_974 : Jvm.Cond.methodLink RX6 131 yX5_lay ∈ am_ok := am_wd 974 (by decide +kernel) (by decide +kernel)
theorem wd_786 : Jvm.Cond.instanceMethod yX5_lay ∈ am_ok := am_wd 786 (by decide +kernel) (by decide +kernel)
theorem wd_787 : Jvm.Cond.selects RX5 yX5_lay yX5_lay ∈ am_ok := am_wd 787 (by decide +kernel) (by decide +kernel)
theorem wd_965 : Jvm.Cond.methodLinkNest RX6 81 yX11_startsBlock "BlockCast" ∈ am_ok := am_wd 965 (by decide +kernel) (by decide +kernel)
theorem wd_760 : Jvm.Cond.static yX11_startsBlock ∈ am_ok := am_wd 760 (by decide +kernel) (by decide +kernel)
theorem wd_299 : Jvm.Cond.methodLink RX8 3 Lib.objectInit ∈ am_ok := am_wd 299 (by decide +kernel) (by decide +kernel)
theorem wd_300 : Jvm.Cond.classLink RX8 9 RX10 ∈ am_ok := am_wd 300 (by decide +kernel) (by decide +kernel)
theorem wd_301 : Jvm.Cond.instantiable RX10 5 ∈ am_ok := am_wd 301 (by decide +kernel) (by decide +kernel)
theorem wd_302 : Jvm.Cond.methodLinkNest RX8 11 yX10_init "BlockCast" ∈ am_ok := am_wd 302 (by decide +kernel) (by decide +kernel)
theorem wd_303 : Jvm.Cond.instanceMethod yX10_init ∈ am_ok := am_wd 303 (by decide +kernel) (by decide +kernel)
theorem wd_328 : Jvm.Cond.fieldLink RX8 21 "BlockCast$Scribe" "writer" "LBlockCast$Writer;" ∈ am_ok := am_wd 328 (by decide +kernel) (by decide +kernel)
theorem wd_324 : Jvm.Cond.classLink RX8 24 RX5 ∈ am_ok := am_wd 324 (by decide +kernel) (by decide +kernel)
theorem wd_238 : Jvm.Cond.instantiable RX5 7 ∈ am_ok := am_wd 238 (by decide +kernel) (by decide +kernel)
theorem wd_325 : Jvm.Cond.methodLinkNest RX8 26 yX5_init "BlockCast" ∈ am_ok := am_wd 325 (by decide +kernel) (by decide +kernel)
theorem wd_240 : Jvm.Cond.instanceMethod yX5_init ∈ am_ok := am_wd 240 (by decide +kernel) (by decide +kernel)
theorem wd_329 : Jvm.Cond.fieldLink RX8 27 "BlockCast$Scribe" "part" "LBlockCast$Part;" ∈ am_ok := am_wd 329 (by decide +kernel) (by decide +kernel)
theorem wd_1054 : Jvm.Cond.methodLink RX8 115 yX10_written ∈ am_ok := am_wd 1054 (by decide +kernel) (by decide +kernel)
theorem wd_1055 : Jvm.Cond.instanceMethod yX10_written ∈ am_ok := am_wd 1055 (by decide +kernel) (by decide +kernel)
theorem wd_1056 : Jvm.Cond.selects RX10 yX10_written yX10_written ∈ am_ok := am_wd 1056 (by decide +kernel) (by decide +kernel)
theorem wd_994 : Jvm.Cond.methodLink RX10 64 yX10_bit ∈ am_ok := am_wd 994 (by decide +kernel) (by decide +kernel)
theorem wd_945 : Jvm.Cond.instanceMethod yX10_bit ∈ am_ok := am_wd 945 (by decide +kernel) (by decide +kernel)
theorem wd_946 : Jvm.Cond.selects RX10 yX10_bit yX10_bit ∈ am_ok := am_wd 946 (by decide +kernel) (by decide +kernel)
theorem wd_995 : Jvm.Cond.methodLink RX10 68 yX10_plain ∈ am_ok := am_wd 995 (by decide +kernel) (by decide +kernel)
theorem wd_996 : Jvm.Cond.instanceMethod yX10_plain ∈ am_ok := am_wd 996 (by decide +kernel) (by decide +kernel)
theorem wd_997 : Jvm.Cond.selects RX10 yX10_plain yX10_plain ∈ am_ok := am_wd 997 (by decide +kernel) (by decide +kernel)
theorem wd_1754 : Jvm.Cond.methodLink RX12 335 yX12_noPlace ∈ am_ok := am_wd 1754 (by decide +kernel) (by decide +kernel)
theorem wd_1756 : Jvm.Cond.instanceMethod yX12_noPlace ∈ am_ok := am_wd 1756 (by decide +kernel) (by decide +kernel)
theorem wd_50 : Jvm.Cond.selects RX12 yX12_noPlace yX12_noPlace ∈ am_ok := am_wd 50 (by decide +kernel) (by decide +kernel)
theorem wd_1609 : Jvm.Cond.methodLink RX12 147 yX12_at ∈ am_ok := am_wd 1609 (by decide +kernel) (by decide +kernel)
theorem wd_1610 : Jvm.Cond.static yX12_at ∈ am_ok := am_wd 1610 (by decide +kernel) (by decide +kernel)
theorem wd_1758 : Jvm.Cond.methodLink RX12 338 yX12_square ∈ am_ok := am_wd 1758 (by decide +kernel) (by decide +kernel)
theorem wd_1759 : Jvm.Cond.static yX12_square ∈ am_ok := am_wd 1759 (by decide +kernel) (by decide +kernel)
theorem wd_1686 : Jvm.Cond.methodLink RX12 264 yX12_placeOf ∈ am_ok := am_wd 1686 (by decide +kernel) (by decide +kernel)
theorem wd_1687 : Jvm.Cond.static yX12_placeOf ∈ am_ok := am_wd 1687 (by decide +kernel) (by decide +kernel)
theorem bi_bipush_48 : (Int8.ofInt (48)).toInt32 = mI (48) := by decide +kernel
theorem wd_1673 : Jvm.Cond.methodLink RX12 254 yX12_saysNumber ∈ am_ok := am_wd 1673 (by decide +kernel) (by decide +kernel)
theorem wd_1675 : Jvm.Cond.instanceMethod yX12_saysNumber ∈ am_ok := am_wd 1675 (by decide +kernel) (by decide +kernel)
theorem wd_43 : Jvm.Cond.selects RX12 yX12_saysNumber yX12_saysNumber ∈ am_ok := am_wd 43 (by decide +kernel) (by decide +kernel)
theorem wd_148 : Jvm.Cond.fieldLinkNest RX1 118 "BlockCast$Picture" "levels" "[I" "BlockCast" ∈ am_ok := am_wd 148 (by decide +kernel) (by decide +kernel)
theorem wd_898 : Jvm.Cond.methodLinkNest RX1 112 yX11_inPicture "BlockCast" ∈ am_ok := am_wd 898 (by decide +kernel) (by decide +kernel)
theorem wd_901 : Jvm.Cond.methodLink RX1 115 yX1_transform ∈ am_ok := am_wd 901 (by decide +kernel) (by decide +kernel)
theorem wd_903 : Jvm.Cond.instanceMethod yX1_transform ∈ am_ok := am_wd 903 (by decide +kernel) (by decide +kernel)
theorem wd_9 : Jvm.Cond.selects RX1 yX1_transform yX1_transform ∈ am_ok := am_wd 9 (by decide +kernel) (by decide +kernel)
theorem wd_846 : Jvm.Cond.methodLink RX1 73 yX5_isOfBorder ∈ am_ok := am_wd 846 (by decide +kernel) (by decide +kernel)
theorem wd_258 : Jvm.Cond.fieldLinkNest RX1 77 "BlockCast$Part" "mode" "I" "BlockCast" ∈ am_ok := am_wd 258 (by decide +kernel) (by decide +kernel)
theorem wd_850 : Jvm.Cond.methodLink RX1 80 yX1_fromBorder ∈ am_ok := am_wd 850 (by decide +kernel) (by decide +kernel)
theorem wd_852 : Jvm.Cond.instanceMethod yX1_fromBorder ∈ am_ok := am_wd 852 (by decide +kernel) (by decide +kernel)
theorem wd_7 : Jvm.Cond.selects RX1 yX1_fromBorder yX1_fromBorder ∈ am_ok := am_wd 7 (by decide +kernel) (by decide +kernel)
theorem wd_855 : Jvm.Cond.methodLink RX1 84 yX1_fromKept ∈ am_ok := am_wd 855 (by decide +kernel) (by decide +kernel)
theorem wd_857 : Jvm.Cond.instanceMethod yX1_fromKept ∈ am_ok := am_wd 857 (by decide +kernel) (by decide +kernel)
theorem wd_8 : Jvm.Cond.selects RX1 yX1_fromKept yX1_fromKept ∈ am_ok := am_wd 8 (by decide +kernel) (by decide +kernel)
theorem wd_909 : Jvm.Cond.methodLink RX1 126 yX1_levelOf ∈ am_ok := am_wd 909 (by decide +kernel) (by decide +kernel)
theorem wd_910 : Jvm.Cond.static yX1_levelOf ∈ am_ok := am_wd 910 (by decide +kernel) (by decide +kernel)
theorem wd_191 : Jvm.Cond.methodLink RX2 3 Lib.objectInit ∈ am_ok := am_wd 191 (by decide +kernel) (by decide +kernel)
theorem wd_192 : Jvm.Cond.classLink RX2 9 RX1 ∈ am_ok := am_wd 192 (by decide +kernel) (by decide +kernel)
theorem wd_193 : Jvm.Cond.instantiable RX1 8 ∈ am_ok := am_wd 193 (by decide +kernel) (by decide +kernel)
theorem wd_194 : Jvm.Cond.methodLinkNest RX2 11 yX1_init "BlockCast" ∈ am_ok := am_wd 194 (by decide +kernel) (by decide +kernel)
theorem wd_195 : Jvm.Cond.instanceMethod yX1_init ∈ am_ok := am_wd 195 (by decide +kernel) (by decide +kernel)
theorem wd_287 : Jvm.Cond.fieldLink RX2 12 "BlockCast$Chooser" "builder" "LBlockCast$Builder;" ∈ am_ok := am_wd 287 (by decide +kernel) (by decide +kernel)
theorem wd_237 : Jvm.Cond.classLink RX2 18 RX5 ∈ am_ok := am_wd 237 (by decide +kernel) (by decide +kernel)
theorem wd_239 : Jvm.Cond.methodLinkNest RX2 20 yX5_init "BlockCast" ∈ am_ok := am_wd 239 (by decide +kernel) (by decide +kernel)
theorem wd_288 : Jvm.Cond.fieldLink RX2 21 "BlockCast$Chooser" "part" "LBlockCast$Part;" ∈ am_ok := am_wd 288 (by decide +kernel) (by decide +kernel)
theorem wd_729 : Jvm.Cond.methodLink RX2 25 yX6_leansOnFirst ∈ am_ok := am_wd 729 (by decide +kernel) (by decide +kernel)
theorem wd_209 : Jvm.Cond.fieldLinkNest RX2 31 "BlockCast$Builder" "first" "LBlockCast$Halves;" "BlockCast" ∈ am_ok := am_wd 209 (by decide +kernel) (by decide +kernel)
theorem wd_733 : Jvm.Cond.methodLink RX2 35 yX4_take ∈ am_ok := am_wd 733 (by decide +kernel) (by decide +kernel)
theorem wd_734 : Jvm.Cond.instanceMethod yX4_take ∈ am_ok := am_wd 734 (by decide +kernel) (by decide +kernel)
theorem wd_735 : Jvm.Cond.selects RX4 yX4_take yX4_take ∈ am_ok := am_wd 735 (by decide +kernel) (by decide +kernel)
theorem wd_745 : Jvm.Cond.methodLink RX2 41 yX6_leansOnSecond ∈ am_ok := am_wd 745 (by decide +kernel) (by decide +kernel)
theorem wd_212 : Jvm.Cond.fieldLinkNest RX2 44 "BlockCast$Builder" "second" "LBlockCast$Halves;" "BlockCast" ∈ am_ok := am_wd 212 (by decide +kernel) (by decide +kernel)
theorem wd_797 : Jvm.Cond.methodLink RX2 148 yX9_of ∈ am_ok := am_wd 797 (by decide +kernel) (by decide +kernel)
theorem wd_798 : Jvm.Cond.static yX9_of ∈ am_ok := am_wd 798 (by decide +kernel) (by decide +kernel)
theorem wd_800 : Jvm.Cond.constant RX2 126 (mI (1000000)) ∈ am_ok := am_wd 800 (by decide +kernel) (by decide +kernel)
theorem bi_bipush_m8 : (Int8.ofInt (-8)).toInt32 = mI (-8) := by decide +kernel
theorem wd_801 : Jvm.Cond.methodLink RX2 153 yX4_costOf ∈ am_ok := am_wd 801 (by decide +kernel) (by decide +kernel)
theorem wd_802 : Jvm.Cond.instanceMethod yX4_costOf ∈ am_ok := am_wd 802 (by decide +kernel) (by decide +kernel)
theorem wd_803 : Jvm.Cond.selects RX4 yX4_costOf yX4_costOf ∈ am_ok := am_wd 803 (by decide +kernel) (by decide +kernel)
theorem wd_344 : Jvm.Cond.methodLink RX3 3 Lib.objectInit ∈ am_ok := am_wd 344 (by decide +kernel) (by decide +kernel)
theorem wd_345 : Jvm.Cond.classLink RX3 9 RX1 ∈ am_ok := am_wd 345 (by decide +kernel) (by decide +kernel)
theorem wd_346 : Jvm.Cond.methodLinkNest RX3 11 yX1_init "BlockCast" ∈ am_ok := am_wd 346 (by decide +kernel) (by decide +kernel)
theorem wd_349 : Jvm.Cond.fieldLink RX3 12 "BlockCast$Decoder" "builder" "LBlockCast$Builder;" ∈ am_ok := am_wd 349 (by decide +kernel) (by decide +kernel)
theorem wd_347 : Jvm.Cond.classLink RX3 18 RX5 ∈ am_ok := am_wd 347 (by decide +kernel) (by decide +kernel)
theorem wd_348 : Jvm.Cond.methodLinkNest RX3 20 yX5_init "BlockCast" ∈ am_ok := am_wd 348 (by decide +kernel) (by decide +kernel)
theorem wd_350 : Jvm.Cond.fieldLink RX3 21 "BlockCast$Decoder" "part" "LBlockCast$Part;" ∈ am_ok := am_wd 350 (by decide +kernel) (by decide +kernel)
theorem bi_sipush_768 : (Int16.ofInt (768)).toInt32 = mI (768) := by decide +kernel
theorem wd_364 : Jvm.Cond.fieldLink RX3 52 "BlockCast$Decoder" "sentCount" "I" ∈ am_ok := am_wd 364 (by decide +kernel) (by decide +kernel)
theorem wd_366 : Jvm.Cond.fieldLink RX3 55 "BlockCast$Decoder" "cleanCount" "I" ∈ am_ok := am_wd 366 (by decide +kernel) (by decide +kernel)
theorem wd_1218 : Jvm.Cond.methodLink RX6 135 yX6_startsPart ∈ am_ok := am_wd 1218 (by decide +kernel) (by decide +kernel)
theorem wd_962 : Jvm.Cond.instanceMethod yX6_startsPart ∈ am_ok := am_wd 962 (by decide +kernel) (by decide +kernel)
theorem wd_963 : Jvm.Cond.selects RX6 yX6_startsPart yX6_startsPart ∈ am_ok := am_wd 963 (by decide +kernel) (by decide +kernel)
theorem wd_944 : Jvm.Cond.methodLink RX8 59 yX10_bit ∈ am_ok := am_wd 944 (by decide +kernel) (by decide +kernel)
theorem wd_979 : Jvm.Cond.methodLink RX8 119 yX6_leansOnFirst ∈ am_ok := am_wd 979 (by decide +kernel) (by decide +kernel)
theorem wd_980 : Jvm.Cond.methodLink RX8 122 yX5_isOfBorder ∈ am_ok := am_wd 980 (by decide +kernel) (by decide +kernel)
theorem wd_259 : Jvm.Cond.fieldLinkNest RX8 125 "BlockCast$Part" "mode" "I" "BlockCast" ∈ am_ok := am_wd 259 (by decide +kernel) (by decide +kernel)
theorem wd_981 : Jvm.Cond.methodLink RX8 128 yX6_leansOnSecond ∈ am_ok := am_wd 981 (by decide +kernel) (by decide +kernel)
theorem wd_87 : Jvm.Cond.methodLink RX11 1 Lib.objectInit ∈ am_ok := am_wd 87 (by decide +kernel) (by decide +kernel)
theorem wd_400 : Jvm.Cond.fieldLink RX11 9 "BlockCast" "canvas" "[I" ∈ am_ok := am_wd 400 (by decide +kernel) (by decide +kernel)
theorem wd_401 : Jvm.Cond.fieldLink RX11 13 "BlockCast" "moved" "[I" ∈ am_ok := am_wd 401 (by decide +kernel) (by decide +kernel)
theorem wd_403 : Jvm.Cond.fieldLink RX11 20 "BlockCast" "nextTools" "I" ∈ am_ok := am_wd 403 (by decide +kernel) (by decide +kernel)
theorem wd_404 : Jvm.Cond.fieldLink RX11 23 "BlockCast" "nextSlices" "I" ∈ am_ok := am_wd 404 (by decide +kernel) (by decide +kernel)
theorem wd_90 : Jvm.Cond.classLink RX11 30 RX0 ∈ am_ok := am_wd 90 (by decide +kernel) (by decide +kernel)
theorem wd_91 : Jvm.Cond.instantiable RX0 3 ∈ am_ok := am_wd 91 (by decide +kernel) (by decide +kernel)
theorem wd_92 : Jvm.Cond.methodLinkNest RX11 32 yX0_init "BlockCast" ∈ am_ok := am_wd 92 (by decide +kernel) (by decide +kernel)
theorem wd_93 : Jvm.Cond.instanceMethod yX0_init ∈ am_ok := am_wd 93 (by decide +kernel) (by decide +kernel)
theorem wd_406 : Jvm.Cond.fieldLink RX11 33 "BlockCast" "bucketOfBits" "LBlockCast$Bucket;" ∈ am_ok := am_wd 406 (by decide +kernel) (by decide +kernel)
theorem wd_186 : Jvm.Cond.classLink RX11 57 RX2 ∈ am_ok := am_wd 186 (by decide +kernel) (by decide +kernel)
theorem wd_187 : Jvm.Cond.instantiable RX2 2 ∈ am_ok := am_wd 187 (by decide +kernel) (by decide +kernel)
theorem wd_188 : Jvm.Cond.methodLinkNest RX11 59 yX2_init "BlockCast" ∈ am_ok := am_wd 188 (by decide +kernel) (by decide +kernel)
theorem wd_189 : Jvm.Cond.instanceMethod yX2_init ∈ am_ok := am_wd 189 (by decide +kernel) (by decide +kernel)
theorem wd_412 : Jvm.Cond.fieldLink RX11 60 "BlockCast" "chooser" "LBlockCast$Chooser;" ∈ am_ok := am_wd 412 (by decide +kernel) (by decide +kernel)
theorem wd_294 : Jvm.Cond.classLink RX11 64 RX8 ∈ am_ok := am_wd 294 (by decide +kernel) (by decide +kernel)
theorem wd_295 : Jvm.Cond.instantiable RX8 4 ∈ am_ok := am_wd 295 (by decide +kernel) (by decide +kernel)
theorem wd_296 : Jvm.Cond.methodLinkNest RX11 66 yX8_init "BlockCast" ∈ am_ok := am_wd 296 (by decide +kernel) (by decide +kernel)
theorem wd_297 : Jvm.Cond.instanceMethod yX8_init ∈ am_ok := am_wd 297 (by decide +kernel) (by decide +kernel)
theorem wd_413 : Jvm.Cond.fieldLink RX11 67 "BlockCast" "scribe" "LBlockCast$Scribe;" ∈ am_ok := am_wd 413 (by decide +kernel) (by decide +kernel)
theorem wd_339 : Jvm.Cond.classLink RX11 71 RX3 ∈ am_ok := am_wd 339 (by decide +kernel) (by decide +kernel)
theorem wd_340 : Jvm.Cond.instantiable RX3 12 ∈ am_ok := am_wd 340 (by decide +kernel) (by decide +kernel)
theorem wd_341 : Jvm.Cond.methodLinkNest RX11 73 yX3_init "BlockCast" ∈ am_ok := am_wd 341 (by decide +kernel) (by decide +kernel)
theorem wd_342 : Jvm.Cond.instanceMethod yX3_init ∈ am_ok := am_wd 342 (by decide +kernel) (by decide +kernel)
theorem wd_414 : Jvm.Cond.fieldLink RX11 74 "BlockCast" "decoder" "LBlockCast$Decoder;" ∈ am_ok := am_wd 414 (by decide +kernel) (by decide +kernel)
theorem wd_393 : Jvm.Cond.methodLink RX11 78 yX3_startAt ∈ am_ok := am_wd 393 (by decide +kernel) (by decide +kernel)
theorem wd_394 : Jvm.Cond.instanceMethod yX3_startAt ∈ am_ok := am_wd 394 (by decide +kernel) (by decide +kernel)
theorem wd_395 : Jvm.Cond.selects RX3 yX3_startAt yX3_startAt ∈ am_ok := am_wd 395 (by decide +kernel) (by decide +kernel)
theorem wd_1606 : Jvm.Cond.methodLink RX12 151 yX12_byVector ∈ am_ok := am_wd 1606 (by decide +kernel) (by decide +kernel)
theorem wd_1607 : Jvm.Cond.static yX12_byVector ∈ am_ok := am_wd 1607 (by decide +kernel) (by decide +kernel)
theorem wd_1669 : Jvm.Cond.methodLink RX12 261 yX12_saysVector ∈ am_ok := am_wd 1669 (by decide +kernel) (by decide +kernel)
theorem wd_1671 : Jvm.Cond.instanceMethod yX12_saysVector ∈ am_ok := am_wd 1671 (by decide +kernel) (by decide +kernel)
theorem wd_42 : Jvm.Cond.selects RX12 yX12_saysVector yX12_saysVector ∈ am_ok := am_wd 42 (by decide +kernel) (by decide +kernel)
theorem wd_793 : Jvm.Cond.methodLink RX2 112 yX2_search ∈ am_ok := am_wd 793 (by decide +kernel) (by decide +kernel)
theorem wd_795 : Jvm.Cond.instanceMethod yX2_search ∈ am_ok := am_wd 795 (by decide +kernel) (by decide +kernel)
theorem wd_5 : Jvm.Cond.selects RX2 yX2_search yX2_search ∈ am_ok := am_wd 5 (by decide +kernel) (by decide +kernel)
theorem wd_264 : Jvm.Cond.fieldLinkNest RX2 116 "BlockCast$Part" "firstVector" "I" "BlockCast" ∈ am_ok := am_wd 264 (by decide +kernel) (by decide +kernel)
theorem wd_269 : Jvm.Cond.fieldLinkNest RX2 119 "BlockCast$Part" "secondVector" "I" "BlockCast" ∈ am_ok := am_wd 269 (by decide +kernel) (by decide +kernel)
theorem wd_151 : Jvm.Cond.fieldLinkNest RX2 81 "BlockCast$Picture" "pixels" "[I" "BlockCast" ∈ am_ok := am_wd 151 (by decide +kernel) (by decide +kernel)
theorem wd_826 : Jvm.Cond.methodLink RX2 122 yX1_takeBorder ∈ am_ok := am_wd 826 (by decide +kernel) (by decide +kernel)
theorem wd_827 : Jvm.Cond.instanceMethod yX1_takeBorder ∈ am_ok := am_wd 827 (by decide +kernel) (by decide +kernel)
theorem wd_828 : Jvm.Cond.selects RX1 yX1_takeBorder yX1_takeBorder ∈ am_ok := am_wd 828 (by decide +kernel) (by decide +kernel)
theorem wd_836 : Jvm.Cond.methodLink RX2 127 yX6_modeCount ∈ am_ok := am_wd 836 (by decide +kernel) (by decide +kernel)
theorem wd_837 : Jvm.Cond.instanceMethod yX6_modeCount ∈ am_ok := am_wd 837 (by decide +kernel) (by decide +kernel)
theorem wd_838 : Jvm.Cond.selects RX6 yX6_modeCount yX6_modeCount ∈ am_ok := am_wd 838 (by decide +kernel) (by decide +kernel)
theorem wd_260 : Jvm.Cond.fieldLinkNest RX2 131 "BlockCast$Part" "mode" "I" "BlockCast" ∈ am_ok := am_wd 260 (by decide +kernel) (by decide +kernel)
theorem wd_842 : Jvm.Cond.methodLink RX2 134 yX1_guessPart ∈ am_ok := am_wd 842 (by decide +kernel) (by decide +kernel)
theorem wd_843 : Jvm.Cond.instanceMethod yX1_guessPart ∈ am_ok := am_wd 843 (by decide +kernel) (by decide +kernel)
theorem wd_844 : Jvm.Cond.selects RX1 yX1_guessPart yX1_guessPart ∈ am_ok := am_wd 844 (by decide +kernel) (by decide +kernel)
theorem wd_871 : Jvm.Cond.methodLink RX2 138 yX1_guessError ∈ am_ok := am_wd 871 (by decide +kernel) (by decide +kernel)
theorem wd_872 : Jvm.Cond.instanceMethod yX1_guessError ∈ am_ok := am_wd 872 (by decide +kernel) (by decide +kernel)
theorem wd_873 : Jvm.Cond.selects RX1 yX1_guessError yX1_guessError ∈ am_ok := am_wd 873 (by decide +kernel) (by decide +kernel)
theorem wd_876 : Jvm.Cond.methodLink RX2 142 yX5_extraCost ∈ am_ok := am_wd 876 (by decide +kernel) (by decide +kernel)
theorem wd_877 : Jvm.Cond.instanceMethod yX5_extraCost ∈ am_ok := am_wd 877 (by decide +kernel) (by decide +kernel)
theorem wd_878 : Jvm.Cond.selects RX5 yX5_extraCost yX5_extraCost ∈ am_ok := am_wd 878 (by decide +kernel) (by decide +kernel)
theorem wd_884 : Jvm.Cond.methodLink RX2 145 yX6_note ∈ am_ok := am_wd 884 (by decide +kernel) (by decide +kernel)
theorem wd_885 : Jvm.Cond.instanceMethod yX6_note ∈ am_ok := am_wd 885 (by decide +kernel) (by decide +kernel)
theorem wd_886 : Jvm.Cond.selects RX6 yX6_note yX6_note ∈ am_ok := am_wd 886 (by decide +kernel) (by decide +kernel)
theorem wd_210 : Jvm.Cond.fieldLinkNest RX3 114 "BlockCast$Builder" "first" "LBlockCast$Halves;" "BlockCast" ∈ am_ok := am_wd 210 (by decide +kernel) (by decide +kernel)
theorem wd_1237 : Jvm.Cond.methodLink RX3 117 yX4_take ∈ am_ok := am_wd 1237 (by decide +kernel) (by decide +kernel)
theorem wd_213 : Jvm.Cond.fieldLinkNest RX3 122 "BlockCast$Builder" "second" "LBlockCast$Halves;" "BlockCast" ∈ am_ok := am_wd 213 (by decide +kernel) (by decide +kernel)
theorem wd_1239 : Jvm.Cond.methodLinkNest RX3 124 yX11_columnOf "BlockCast" ∈ am_ok := am_wd 1239 (by decide +kernel) (by decide +kernel)
theorem wd_1240 : Jvm.Cond.methodLinkNest RX3 128 yX11_rowOf "BlockCast" ∈ am_ok := am_wd 1240 (by decide +kernel) (by decide +kernel)
theorem wd_1241 : Jvm.Cond.methodLinkNest RX3 131 yX11_placeOf "BlockCast" ∈ am_ok := am_wd 1241 (by decide +kernel) (by decide +kernel)
theorem wd_1242 : Jvm.Cond.methodLink RX3 134 yX6_sliceOf ∈ am_ok := am_wd 1242 (by decide +kernel) (by decide +kernel)
theorem wd_1243 : Jvm.Cond.methodLink RX3 137 yX3_conceal ∈ am_ok := am_wd 1243 (by decide +kernel) (by decide +kernel)
theorem wd_1245 : Jvm.Cond.instanceMethod yX3_conceal ∈ am_ok := am_wd 1245 (by decide +kernel) (by decide +kernel)
theorem wd_22 : Jvm.Cond.selects RX3 yX3_conceal yX3_conceal ∈ am_ok := am_wd 22 (by decide +kernel) (by decide +kernel)
theorem wd_1250 : Jvm.Cond.methodLink RX3 141 yX6_startsPart ∈ am_ok := am_wd 1250 (by decide +kernel) (by decide +kernel)
theorem wd_1251 : Jvm.Cond.methodLink RX3 145 yX6_recall ∈ am_ok := am_wd 1251 (by decide +kernel) (by decide +kernel)
theorem wd_968 : Jvm.Cond.instanceMethod yX6_recall ∈ am_ok := am_wd 968 (by decide +kernel) (by decide +kernel)
theorem wd_969 : Jvm.Cond.selects RX6 yX6_recall yX6_recall ∈ am_ok := am_wd 969 (by decide +kernel) (by decide +kernel)
theorem wd_1252 : Jvm.Cond.methodLink RX3 149 yX1_takeBorder ∈ am_ok := am_wd 1252 (by decide +kernel) (by decide +kernel)
theorem wd_1253 : Jvm.Cond.methodLink RX3 153 yX1_guessPart ∈ am_ok := am_wd 1253 (by decide +kernel) (by decide +kernel)
theorem wd_1254 : Jvm.Cond.methodLink RX3 157 yX1_buildSquare ∈ am_ok := am_wd 1254 (by decide +kernel) (by decide +kernel)
theorem wd_913 : Jvm.Cond.instanceMethod yX1_buildSquare ∈ am_ok := am_wd 913 (by decide +kernel) (by decide +kernel)
theorem wd_914 : Jvm.Cond.selects RX1 yX1_buildSquare yX1_buildSquare ∈ am_ok := am_wd 914 (by decide +kernel) (by decide +kernel)
theorem wd_1255 : Jvm.Cond.methodLink RX3 161 yX1_smooth ∈ am_ok := am_wd 1255 (by decide +kernel) (by decide +kernel)
theorem wd_917 : Jvm.Cond.instanceMethod yX1_smooth ∈ am_ok := am_wd 917 (by decide +kernel) (by decide +kernel)
theorem wd_918 : Jvm.Cond.selects RX1 yX1_smooth yX1_smooth ∈ am_ok := am_wd 918 (by decide +kernel) (by decide +kernel)
theorem wd_1009 : Jvm.Cond.fieldLink RX8 150 "BlockCast$Scribe" "ROW" "[I" ∈ am_ok := am_wd 1009 (by decide +kernel) (by decide +kernel)
theorem wd_1011 : Jvm.Cond.methodLinkNest RX8 153 yX11_inPicture "BlockCast" ∈ am_ok := am_wd 1011 (by decide +kernel) (by decide +kernel)
theorem wd_1012 : Jvm.Cond.methodLink RX8 156 yX7_get ∈ am_ok := am_wd 1012 (by decide +kernel) (by decide +kernel)
theorem wd_1013 : Jvm.Cond.methodLink RX8 162 yX8_writeLastPlace ∈ am_ok := am_wd 1013 (by decide +kernel) (by decide +kernel)
theorem wd_1015 : Jvm.Cond.instanceMethod yX8_writeLastPlace ∈ am_ok := am_wd 1015 (by decide +kernel) (by decide +kernel)
theorem wd_16 : Jvm.Cond.selects RX8 yX8_writeLastPlace yX8_writeLastPlace ∈ am_ok := am_wd 16 (by decide +kernel) (by decide +kernel)
theorem wd_1000 : Jvm.Cond.methodLink RX8 143 yX10_plain ∈ am_ok := am_wd 1000 (by decide +kernel) (by decide +kernel)
theorem wd_988 : Jvm.Cond.methodLink RX8 134 Lib.Math.abs.name ∈ am_ok := am_wd 988 (by decide +kernel) (by decide +kernel)
theorem wd_989 : Jvm.Cond.methodLink RX8 139 yX10_number ∈ am_ok := am_wd 989 (by decide +kernel) (by decide +kernel)
theorem wd_990 : Jvm.Cond.instanceMethod yX10_number ∈ am_ok := am_wd 990 (by decide +kernel) (by decide +kernel)
theorem wd_991 : Jvm.Cond.selects RX10 yX10_number yX10_number ∈ am_ok := am_wd 991 (by decide +kernel) (by decide +kernel)
theorem wd_987 : Jvm.Cond.methodLink RX8 131 yX9_right ∈ am_ok := am_wd 987 (by decide +kernel) (by decide +kernel)
theorem wd_1001 : Jvm.Cond.methodLink RX8 147 yX9_down ∈ am_ok := am_wd 1001 (by decide +kernel) (by decide +kernel)
theorem wd_1594 : Jvm.Cond.methodLink RX12 158 yX12_byBorder ∈ am_ok := am_wd 1594 (by decide +kernel) (by decide +kernel)
theorem wd_1595 : Jvm.Cond.static yX12_byBorder ∈ am_ok := am_wd 1595 (by decide +kernel) (by decide +kernel)
theorem wd_1374 : Jvm.Cond.fieldLink RX12 162 "BlockCastModel" "first" "[I" ∈ am_ok := am_wd 1374 (by decide +kernel) (by decide +kernel)
theorem wd_1375 : Jvm.Cond.fieldLink RX12 165 "BlockCastModel" "second" "[I" ∈ am_ok := am_wd 1375 (by decide +kernel) (by decide +kernel)
theorem wd_1603 : Jvm.Cond.methodLink RX12 171 yX12_byPictures ∈ am_ok := am_wd 1603 (by decide +kernel) (by decide +kernel)
theorem wd_1604 : Jvm.Cond.static yX12_byPictures ∈ am_ok := am_wd 1604 (by decide +kernel) (by decide +kernel)
theorem wd_1665 : Jvm.Cond.methodLink RX12 267 yX12_saysMode ∈ am_ok := am_wd 1665 (by decide +kernel) (by decide +kernel)
theorem wd_1667 : Jvm.Cond.instanceMethod yX12_saysMode ∈ am_ok := am_wd 1667 (by decide +kernel) (by decide +kernel)
theorem wd_41 : Jvm.Cond.selects RX12 yX12_saysMode yX12_saysMode ∈ am_ok := am_wd 41 (by decide +kernel) (by decide +kernel)
theorem wd_1682 : Jvm.Cond.methodLink RX12 271 yX12_saysSquare ∈ am_ok := am_wd 1682 (by decide +kernel) (by decide +kernel)
theorem wd_1684 : Jvm.Cond.instanceMethod yX12_saysSquare ∈ am_ok := am_wd 1684 (by decide +kernel) (by decide +kernel)
theorem wd_45 : Jvm.Cond.selects RX12 yX12_saysSquare yX12_saysSquare ∈ am_ok := am_wd 45 (by decide +kernel) (by decide +kernel)
theorem wd_753 : Jvm.Cond.methodLinkNest RX2 47 yX11_columnOf "BlockCast" ∈ am_ok := am_wd 753 (by decide +kernel) (by decide +kernel)
theorem wd_756 : Jvm.Cond.methodLinkNest RX2 51 yX11_rowOf "BlockCast" ∈ am_ok := am_wd 756 (by decide +kernel) (by decide +kernel)
theorem wd_759 : Jvm.Cond.methodLinkNest RX2 54 yX11_startsBlock "BlockCast" ∈ am_ok := am_wd 759 (by decide +kernel) (by decide +kernel)
theorem wd_762 : Jvm.Cond.methodLink RX2 58 yX2_isToSplit ∈ am_ok := am_wd 762 (by decide +kernel) (by decide +kernel)
theorem wd_763 : Jvm.Cond.static yX2_isToSplit ∈ am_ok := am_wd 763 (by decide +kernel) (by decide +kernel)
theorem wd_777 : Jvm.Cond.methodLink RX2 62 yX6_topOf ∈ am_ok := am_wd 777 (by decide +kernel) (by decide +kernel)
theorem wd_785 : Jvm.Cond.methodLink RX2 65 yX5_lay ∈ am_ok := am_wd 785 (by decide +kernel) (by decide +kernel)
theorem wd_789 : Jvm.Cond.methodLink RX2 69 yX2_choosePart ∈ am_ok := am_wd 789 (by decide +kernel) (by decide +kernel)
theorem wd_791 : Jvm.Cond.instanceMethod yX2_choosePart ∈ am_ok := am_wd 791 (by decide +kernel) (by decide +kernel)
theorem wd_4 : Jvm.Cond.selects RX2 yX2_choosePart yX2_choosePart ∈ am_ok := am_wd 4 (by decide +kernel) (by decide +kernel)
theorem wd_894 : Jvm.Cond.methodLink RX2 77 yX1_levelSquare ∈ am_ok := am_wd 894 (by decide +kernel) (by decide +kernel)
theorem wd_895 : Jvm.Cond.instanceMethod yX1_levelSquare ∈ am_ok := am_wd 895 (by decide +kernel) (by decide +kernel)
theorem wd_896 : Jvm.Cond.selects RX1 yX1_levelSquare yX1_levelSquare ∈ am_ok := am_wd 896 (by decide +kernel) (by decide +kernel)
theorem wd_912 : Jvm.Cond.methodLink RX2 85 yX1_buildSquare ∈ am_ok := am_wd 912 (by decide +kernel) (by decide +kernel)
theorem wd_916 : Jvm.Cond.methodLink RX2 88 yX1_smooth ∈ am_ok := am_wd 916 (by decide +kernel) (by decide +kernel)
theorem wd_1232 : Jvm.Cond.methodLink RX3 64 yX3_build ∈ am_ok := am_wd 1232 (by decide +kernel) (by decide +kernel)
theorem wd_1234 : Jvm.Cond.instanceMethod yX3_build ∈ am_ok := am_wd 1234 (by decide +kernel) (by decide +kernel)
theorem wd_21 : Jvm.Cond.selects RX3 yX3_build yX3_build ∈ am_ok := am_wd 21 (by decide +kernel) (by decide +kernel)
theorem wd_1256 : Jvm.Cond.methodLink RX3 68 yX3_leansOnClean ∈ am_ok := am_wd 1256 (by decide +kernel) (by decide +kernel)
theorem wd_1258 : Jvm.Cond.instanceMethod yX3_leansOnClean ∈ am_ok := am_wd 1258 (by decide +kernel) (by decide +kernel)
theorem wd_23 : Jvm.Cond.selects RX3 yX3_leansOnClean yX3_leansOnClean ∈ am_ok := am_wd 23 (by decide +kernel) (by decide +kernel)
theorem wd_130 : Jvm.Cond.fieldLinkNest RX3 76 "BlockCast$Picture" "isKept" "Z" "BlockCast" ∈ am_ok := am_wd 130 (by decide +kernel) (by decide +kernel)
theorem wd_1261 : Jvm.Cond.methodLink RX3 81 yX3_keep ∈ am_ok := am_wd 1261 (by decide +kernel) (by decide +kernel)
theorem wd_1263 : Jvm.Cond.instanceMethod yX3_keep ∈ am_ok := am_wd 1263 (by decide +kernel) (by decide +kernel)
theorem wd_24 : Jvm.Cond.selects RX3 yX3_keep yX3_keep ∈ am_ok := am_wd 24 (by decide +kernel) (by decide +kernel)
theorem wd_929 : Jvm.Cond.methodLink RX8 31 yX9_of ∈ am_ok := am_wd 929 (by decide +kernel) (by decide +kernel)
theorem wd_930 : Jvm.Cond.methodLink RX8 37 yX10_start ∈ am_ok := am_wd 930 (by decide +kernel) (by decide +kernel)
theorem wd_931 : Jvm.Cond.instanceMethod yX10_start ∈ am_ok := am_wd 931 (by decide +kernel) (by decide +kernel)
theorem wd_932 : Jvm.Cond.selects RX10 yX10_start yX10_start ∈ am_ok := am_wd 932 (by decide +kernel) (by decide +kernel)
theorem wd_935 : Jvm.Cond.methodLinkNest RX8 40 yX11_rowOf "BlockCast" ∈ am_ok := am_wd 935 (by decide +kernel) (by decide +kernel)
theorem wd_936 : Jvm.Cond.methodLink RX8 44 yX6_sliceOf ∈ am_ok := am_wd 936 (by decide +kernel) (by decide +kernel)
theorem wd_937 : Jvm.Cond.methodLinkNest RX8 49 yX11_startsBlock "BlockCast" ∈ am_ok := am_wd 937 (by decide +kernel) (by decide +kernel)
theorem wd_938 : Jvm.Cond.methodLink RX8 53 yX6_has ∈ am_ok := am_wd 938 (by decide +kernel) (by decide +kernel)
theorem wd_939 : Jvm.Cond.methodLink RX8 56 yX6_isSplitAt ∈ am_ok := am_wd 939 (by decide +kernel) (by decide +kernel)
theorem wd_961 : Jvm.Cond.methodLink RX8 63 yX6_startsPart ∈ am_ok := am_wd 961 (by decide +kernel) (by decide +kernel)
theorem wd_967 : Jvm.Cond.methodLink RX8 66 yX6_recall ∈ am_ok := am_wd 967 (by decide +kernel) (by decide +kernel)
theorem wd_975 : Jvm.Cond.methodLink RX8 70 yX8_writeMode ∈ am_ok := am_wd 975 (by decide +kernel) (by decide +kernel)
theorem wd_977 : Jvm.Cond.instanceMethod yX8_writeMode ∈ am_ok := am_wd 977 (by decide +kernel) (by decide +kernel)
theorem wd_13 : Jvm.Cond.selects RX8 yX8_writeMode yX8_writeMode ∈ am_ok := am_wd 13 (by decide +kernel) (by decide +kernel)
theorem wd_982 : Jvm.Cond.methodLink RX8 74 yX5_usesFirst ∈ am_ok := am_wd 982 (by decide +kernel) (by decide +kernel)
theorem wd_263 : Jvm.Cond.fieldLinkNest RX8 78 "BlockCast$Part" "firstVector" "I" "BlockCast" ∈ am_ok := am_wd 263 (by decide +kernel) (by decide +kernel)
theorem wd_983 : Jvm.Cond.methodLink RX8 82 yX8_writeVector ∈ am_ok := am_wd 983 (by decide +kernel) (by decide +kernel)
theorem wd_985 : Jvm.Cond.instanceMethod yX8_writeVector ∈ am_ok := am_wd 985 (by decide +kernel) (by decide +kernel)
theorem wd_14 : Jvm.Cond.selects RX8 yX8_writeVector yX8_writeVector ∈ am_ok := am_wd 14 (by decide +kernel) (by decide +kernel)
theorem wd_1002 : Jvm.Cond.methodLink RX8 86 yX5_usesSecond ∈ am_ok := am_wd 1002 (by decide +kernel) (by decide +kernel)
theorem wd_268 : Jvm.Cond.fieldLinkNest RX8 89 "BlockCast$Part" "secondVector" "I" "BlockCast" ∈ am_ok := am_wd 268 (by decide +kernel) (by decide +kernel)
theorem wd_147 : Jvm.Cond.fieldLinkNest RX8 92 "BlockCast$Picture" "levels" "[I" "BlockCast" ∈ am_ok := am_wd 147 (by decide +kernel) (by decide +kernel)
theorem wd_1003 : Jvm.Cond.methodLinkNest RX8 96 yX11_columnOf "BlockCast" ∈ am_ok := am_wd 1003 (by decide +kernel) (by decide +kernel)
theorem wd_1004 : Jvm.Cond.methodLinkNest RX8 99 yX11_placeOf "BlockCast" ∈ am_ok := am_wd 1004 (by decide +kernel) (by decide +kernel)
theorem wd_1005 : Jvm.Cond.methodLink RX8 102 yX8_writeSquare ∈ am_ok := am_wd 1005 (by decide +kernel) (by decide +kernel)
theorem wd_1007 : Jvm.Cond.instanceMethod yX8_writeSquare ∈ am_ok := am_wd 1007 (by decide +kernel) (by decide +kernel)
theorem wd_15 : Jvm.Cond.selects RX8 yX8_writeSquare yX8_writeSquare ∈ am_ok := am_wd 15 (by decide +kernel) (by decide +kernel)
theorem wd_127 : Jvm.Cond.fieldLinkNest RX8 106 "BlockCast$Picture" "slices" "I" "BlockCast" ∈ am_ok := am_wd 127 (by decide +kernel) (by decide +kernel)
theorem wd_1017 : Jvm.Cond.methodLink RX8 109 yX10_end ∈ am_ok := am_wd 1017 (by decide +kernel) (by decide +kernel)
theorem wd_1018 : Jvm.Cond.instanceMethod yX10_end ∈ am_ok := am_wd 1018 (by decide +kernel) (by decide +kernel)
theorem wd_1019 : Jvm.Cond.selects RX10 yX10_end yX10_end ∈ am_ok := am_wd 1019 (by decide +kernel) (by decide +kernel)
theorem wd_1616 : Jvm.Cond.methodLink RX12 208 yX12_guesses ∈ am_ok := am_wd 1616 (by decide +kernel) (by decide +kernel)
theorem wd_1617 : Jvm.Cond.static yX12_guesses ∈ am_ok := am_wd 1617 (by decide +kernel) (by decide +kernel)
theorem wd_1633 : Jvm.Cond.methodLink RX12 212 yX12_back ∈ am_ok := am_wd 1633 (by decide +kernel) (by decide +kernel)
theorem wd_1634 : Jvm.Cond.static yX12_back ∈ am_ok := am_wd 1634 (by decide +kernel) (by decide +kernel)
theorem wd_1585 : Jvm.Cond.constant RX12 180 (mI (2147483647)) ∈ am_ok := am_wd 1585 (by decide +kernel) (by decide +kernel)
theorem wd_1586 : Jvm.Cond.methodLink RX12 181 yX12_setsVector ∈ am_ok := am_wd 1586 (by decide +kernel) (by decide +kernel)
theorem wd_1588 : Jvm.Cond.instanceMethod yX12_setsVector ∈ am_ok := am_wd 1588 (by decide +kernel) (by decide +kernel)
theorem wd_32 : Jvm.Cond.selects RX12 yX12_setsVector yX12_setsVector ∈ am_ok := am_wd 32 (by decide +kernel) (by decide +kernel)
theorem wd_1590 : Jvm.Cond.methodLink RX12 185 yX12_costOf ∈ am_ok := am_wd 1590 (by decide +kernel) (by decide +kernel)
theorem wd_1592 : Jvm.Cond.instanceMethod yX12_costOf ∈ am_ok := am_wd 1592 (by decide +kernel) (by decide +kernel)
theorem wd_33 : Jvm.Cond.selects RX12 yX12_costOf yX12_costOf ∈ am_ok := am_wd 33 (by decide +kernel) (by decide +kernel)
theorem wd_1640 : Jvm.Cond.methodLink RX12 274 yX12_begins ∈ am_ok := am_wd 1640 (by decide +kernel) (by decide +kernel)
theorem wd_1642 : Jvm.Cond.instanceMethod yX12_begins ∈ am_ok := am_wd 1642 (by decide +kernel) (by decide +kernel)
theorem wd_36 : Jvm.Cond.selects RX12 yX12_begins yX12_begins ∈ am_ok := am_wd 36 (by decide +kernel) (by decide +kernel)
theorem wd_1661 : Jvm.Cond.methodLink RX12 277 yX12_saysPart ∈ am_ok := am_wd 1661 (by decide +kernel) (by decide +kernel)
theorem wd_1663 : Jvm.Cond.instanceMethod yX12_saysPart ∈ am_ok := am_wd 1663 (by decide +kernel) (by decide +kernel)
theorem wd_40 : Jvm.Cond.selects RX12 yX12_saysPart yX12_saysPart ∈ am_ok := am_wd 40 (by decide +kernel) (by decide +kernel)
theorem wd_669 : Jvm.Cond.methodLink RX11 141 yX0_isThere ∈ am_ok := am_wd 669 (by decide +kernel) (by decide +kernel)
theorem wd_1096 : Jvm.Cond.classLink RX11 218 "java/util/NoSuchElementException" ∈ am_ok := am_wd 1096 (by decide +kernel) (by decide +kernel)
theorem wd_80 : Jvm.Cond.initialized "java/util/NoSuchElementException" ∈ am_ok := am_wd 80 (by decide +kernel) (by decide +kernel)
set_option maxRecDepth 20000 in
theorem ats_0 : ∀ w ∈ vx_atX RX11 222 "java/util/NoSuchElementException" 13 prog_28_method_4_code ["java/lang/RuntimeException", "java/lang/Exception"], w ∈ am_ok ∧ vx_ot w = true := am_ats (by decide +kernel)
theorem wd_99 : Jvm.Cond.fieldLinkNest RX11 145 "BlockCast$Bucket" "bits" "I" "BlockCast" ∈ am_ok := am_wd 99 (by decide +kernel) (by decide +kernel)
theorem wd_365 : Jvm.Cond.fieldLinkNest RX11 309 "BlockCast$Decoder" "sentCount" "I" "BlockCast" ∈ am_ok := am_wd 365 (by decide +kernel) (by decide +kernel)
theorem wd_1328 : Jvm.Cond.classLink RX11 305 "java/lang/ArithmeticException" ∈ am_ok := am_wd 1328 (by decide +kernel) (by decide +kernel)
theorem wd_81 : Jvm.Cond.initialized "java/lang/ArithmeticException" ∈ am_ok := am_wd 81 (by decide +kernel) (by decide +kernel)
set_option maxRecDepth 20000 in
theorem ats_1 : ∀ w ∈ vx_atX RX11 307 "java/lang/ArithmeticException" 7 Bundle.six ["java/lang/RuntimeException", "java/lang/Exception"], w ∈ am_ok ∧ vx_ot w = true := am_ats (by decide +kernel)
theorem wd_367 : Jvm.Cond.fieldLinkNest RX11 314 "BlockCast$Decoder" "cleanCount" "I" "BlockCast" ∈ am_ok := am_wd 367 (by decide +kernel) (by decide +kernel)
theorem wd_470 : Jvm.Cond.methodLink RX11 82 yX11_isOnCanvas ∈ am_ok := am_wd 470 (by decide +kernel) (by decide +kernel)
theorem wd_471 : Jvm.Cond.static yX11_isOnCanvas ∈ am_ok := am_wd 471 (by decide +kernel) (by decide +kernel)
theorem wd_473 : Jvm.Cond.classLink RX11 86 "java/lang/IllegalArgumentException" ∈ am_ok := am_wd 473 (by decide +kernel) (by decide +kernel)
theorem wd_72 : Jvm.Cond.initialized "java/lang/IllegalArgumentException" ∈ am_ok := am_wd 72 (by decide +kernel) (by decide +kernel)
set_option maxRecDepth 20000 in
theorem ats_2 : ∀ w ∈ vx_atX RX11 90 "java/lang/IllegalArgumentException" 7 Bundle.six ["java/lang/RuntimeException", "java/lang/Exception"], w ∈ am_ok ∧ vx_ot w = true := am_ats (by decide +kernel)
theorem wd_545 : Jvm.Cond.methodLink RX11 93 yX11_isValue ∈ am_ok := am_wd 545 (by decide +kernel) (by decide +kernel)
theorem wd_546 : Jvm.Cond.static yX11_isValue ∈ am_ok := am_wd 546 (by decide +kernel) (by decide +kernel)
theorem wd_549 : Jvm.Cond.methodLink RX11 99 yX11_placeOf ∈ am_ok := am_wd 549 (by decide +kernel) (by decide +kernel)
theorem wd_552 : Jvm.Cond.methodLink RX11 103 yX7_get ∈ am_ok := am_wd 552 (by decide +kernel) (by decide +kernel)
theorem wd_575 : Jvm.Cond.constant RX11 119 (mI (1103515245)) ∈ am_ok := am_wd 575 (by decide +kernel) (by decide +kernel)
theorem wd_576 : Jvm.Cond.methodLink RX11 120 yX11_withinValues ∈ am_ok := am_wd 576 (by decide +kernel) (by decide +kernel)
theorem wd_624 : Jvm.Cond.classLink RX11 155 "java/lang/IndexOutOfBoundsException" ∈ am_ok := am_wd 624 (by decide +kernel) (by decide +kernel)
theorem wd_74 : Jvm.Cond.initialized "java/lang/IndexOutOfBoundsException" ∈ am_ok := am_wd 74 (by decide +kernel) (by decide +kernel)
set_option maxRecDepth 20000 in
theorem ats_3 : ∀ w ∈ vx_atX RX11 159 "java/lang/IndexOutOfBoundsException" 7 Bundle.six ["java/lang/RuntimeException", "java/lang/Exception"], w ∈ am_ok ∧ vx_ot w = true := am_ats (by decide +kernel)
theorem wd_361 : Jvm.Cond.fieldLinkNest RX11 295 "BlockCast$Decoder" "keptCount" "I" "BlockCast" ∈ am_ok := am_wd 361 (by decide +kernel) (by decide +kernel)
theorem wd_687 : Jvm.Cond.methodLink RX11 152 yX11_isKeptPlace ∈ am_ok := am_wd 687 (by decide +kernel) (by decide +kernel)
theorem wd_689 : Jvm.Cond.instanceMethod yX11_isKeptPlace ∈ am_ok := am_wd 689 (by decide +kernel) (by decide +kernel)
theorem wd_1 : Jvm.Cond.selects RX11 yX11_isKeptPlace yX11_isKeptPlace ∈ am_ok := am_wd 1 (by decide +kernel) (by decide +kernel)
theorem bi_bipush_m16 : (Int8.ofInt (-16)).toInt32 = mI (-16) := by decide +kernel
theorem wd_587 : Jvm.Cond.methodLink RX11 126 yX7_copy ∈ am_ok := am_wd 587 (by decide +kernel) (by decide +kernel)
theorem wd_355 : Jvm.Cond.fieldLinkNest RX11 299 "BlockCast$Decoder" "shownNumber" "I" "BlockCast" ∈ am_ok := am_wd 355 (by decide +kernel) (by decide +kernel)
theorem wd_668 : Jvm.Cond.constant RX11 140 (mI (99999)) ∈ am_ok := am_wd 668 (by decide +kernel) (by decide +kernel)
theorem wd_673 : Jvm.Cond.methodLink RX11 148 yX0_put ∈ am_ok := am_wd 673 (by decide +kernel) (by decide +kernel)
theorem wd_674 : Jvm.Cond.instanceMethod yX0_put ∈ am_ok := am_wd 674 (by decide +kernel) (by decide +kernel)
theorem wd_675 : Jvm.Cond.selects RX0 yX0_put yX0_put ∈ am_ok := am_wd 675 (by decide +kernel) (by decide +kernel)
theorem wd_1801 : Jvm.Cond.methodLink RX12 347 yX12_leant ∈ am_ok := am_wd 1801 (by decide +kernel) (by decide +kernel)
theorem wd_1803 : Jvm.Cond.instanceMethod yX12_leant ∈ am_ok := am_wd 1803 (by decide +kernel) (by decide +kernel)
theorem wd_53 : Jvm.Cond.selects RX12 yX12_leant yX12_leant ∈ am_ok := am_wd 53 (by decide +kernel) (by decide +kernel)
theorem wd_1805 : Jvm.Cond.methodLink RX12 351 yX12_conceals ∈ am_ok := am_wd 1805 (by decide +kernel) (by decide +kernel)
theorem wd_1807 : Jvm.Cond.instanceMethod yX12_conceals ∈ am_ok := am_wd 1807 (by decide +kernel) (by decide +kernel)
theorem wd_54 : Jvm.Cond.selects RX12 yX12_conceals yX12_conceals ∈ am_ok := am_wd 54 (by decide +kernel) (by decide +kernel)
theorem wd_1630 : Jvm.Cond.methodLink RX12 289 yX12_builds ∈ am_ok := am_wd 1630 (by decide +kernel) (by decide +kernel)
theorem wd_1631 : Jvm.Cond.static yX12_builds ∈ am_ok := am_wd 1631 (by decide +kernel) (by decide +kernel)
theorem wd_1689 : Jvm.Cond.methodLink RX12 316 yX12_smooths ∈ am_ok := am_wd 1689 (by decide +kernel) (by decide +kernel)
theorem wd_1690 : Jvm.Cond.static yX12_smooths ∈ am_ok := am_wd 1690 (by decide +kernel) (by decide +kernel)
theorem bi_bipush_112 : (Int8.ofInt (112)).toInt32 = mI (112) := by decide +kernel
theorem wd_1581 : Jvm.Cond.methodLink RX12 193 yX12_findsVector ∈ am_ok := am_wd 1581 (by decide +kernel) (by decide +kernel)
theorem wd_1583 : Jvm.Cond.instanceMethod yX12_findsVector ∈ am_ok := am_wd 1583 (by decide +kernel) (by decide +kernel)
theorem wd_31 : Jvm.Cond.selects RX12 yX12_findsVector yX12_findsVector ∈ am_ok := am_wd 31 (by decide +kernel) (by decide +kernel)
theorem wd_1092 : Jvm.Cond.methodLink RL 55 yX11_bucket ∈ am_ok := am_wd 1092 (by decide +kernel) (by decide +kernel)
theorem wd_1091 : Jvm.Cond.classLink RL 59 "java/util/NoSuchElementException" ∈ am_ok := am_wd 1091 (by decide +kernel) (by decide +kernel)
theorem wd_1098 : Jvm.Cond.castable "java/util/NoSuchElementException" "java/util/NoSuchElementException" ∈ am_ok := am_wd 1098 (by decide +kernel) (by decide +kernel)
theorem wd_1093 : Jvm.Cond.instanceMethod yX11_bucket ∈ am_ok := am_wd 1093 (by decide +kernel) (by decide +kernel)
theorem wd_1094 : Jvm.Cond.selects RX11 yX11_bucket yX11_bucket ∈ am_ok := am_wd 1094 (by decide +kernel) (by decide +kernel)
theorem wd_1333 : Jvm.Cond.methodLink RL 125 yX11_cleanShare ∈ am_ok := am_wd 1333 (by decide +kernel) (by decide +kernel)
theorem wd_1310 : Jvm.Cond.classLink RL 123 "java/lang/ArithmeticException" ∈ am_ok := am_wd 1310 (by decide +kernel) (by decide +kernel)
theorem wd_1322 : Jvm.Cond.castable "java/lang/ArithmeticException" "java/lang/ArithmeticException" ∈ am_ok := am_wd 1322 (by decide +kernel) (by decide +kernel)
theorem wd_1334 : Jvm.Cond.instanceMethod yX11_cleanShare ∈ am_ok := am_wd 1334 (by decide +kernel) (by decide +kernel)
theorem wd_1335 : Jvm.Cond.selects RX11 yX11_cleanShare yX11_cleanShare ∈ am_ok := am_wd 1335 (by decide +kernel) (by decide +kernel)
theorem wd_466 : Jvm.Cond.methodLink RL 7 yX11_fill ∈ am_ok := am_wd 466 (by decide +kernel) (by decide +kernel)
theorem wd_465 : Jvm.Cond.classLink RL 13 "java/lang/IllegalArgumentException" ∈ am_ok := am_wd 465 (by decide +kernel) (by decide +kernel)
theorem wd_475 : Jvm.Cond.castable "java/lang/IllegalArgumentException" "java/lang/IllegalArgumentException" ∈ am_ok := am_wd 475 (by decide +kernel) (by decide +kernel)
theorem wd_467 : Jvm.Cond.instanceMethod yX11_fill ∈ am_ok := am_wd 467 (by decide +kernel) (by decide +kernel)
theorem wd_468 : Jvm.Cond.selects RX11 yX11_fill yX11_fill ∈ am_ok := am_wd 468 (by decide +kernel) (by decide +kernel)
theorem wd_570 : Jvm.Cond.methodLink RL 19 yX11_grain ∈ am_ok := am_wd 570 (by decide +kernel) (by decide +kernel)
theorem wd_571 : Jvm.Cond.instanceMethod yX11_grain ∈ am_ok := am_wd 571 (by decide +kernel) (by decide +kernel)
theorem wd_572 : Jvm.Cond.selects RX11 yX11_grain yX11_grain ∈ am_ok := am_wd 572 (by decide +kernel) (by decide +kernel)
theorem wd_1270 : Jvm.Cond.methodLink RL 103 yX11_join ∈ am_ok := am_wd 1270 (by decide +kernel) (by decide +kernel)
theorem wd_593 : Jvm.Cond.classLink RL 29 "java/lang/IndexOutOfBoundsException" ∈ am_ok := am_wd 593 (by decide +kernel) (by decide +kernel)
theorem wd_626 : Jvm.Cond.castable "java/lang/IndexOutOfBoundsException" "java/lang/IndexOutOfBoundsException" ∈ am_ok := am_wd 626 (by decide +kernel) (by decide +kernel)
theorem wd_1271 : Jvm.Cond.instanceMethod yX11_join ∈ am_ok := am_wd 1271 (by decide +kernel) (by decide +kernel)
theorem wd_1272 : Jvm.Cond.selects RX11 yX11_join yX11_join ∈ am_ok := am_wd 1272 (by decide +kernel) (by decide +kernel)
theorem wd_1083 : Jvm.Cond.methodLink RL 52 yX11_keptAt ∈ am_ok := am_wd 1083 (by decide +kernel) (by decide +kernel)
theorem wd_1084 : Jvm.Cond.instanceMethod yX11_keptAt ∈ am_ok := am_wd 1084 (by decide +kernel) (by decide +kernel)
theorem wd_1085 : Jvm.Cond.selects RX11 yX11_keptAt yX11_keptAt ∈ am_ok := am_wd 1085 (by decide +kernel) (by decide +kernel)
theorem wd_582 : Jvm.Cond.methodLink RL 23 yX11_move ∈ am_ok := am_wd 582 (by decide +kernel) (by decide +kernel)
theorem wd_583 : Jvm.Cond.instanceMethod yX11_move ∈ am_ok := am_wd 583 (by decide +kernel) (by decide +kernel)
theorem wd_584 : Jvm.Cond.selects RX11 yX11_move yX11_move ∈ am_ok := am_wd 584 (by decide +kernel) (by decide +kernel)
theorem wd_664 : Jvm.Cond.methodLink RL 41 yX11_setBucket ∈ am_ok := am_wd 664 (by decide +kernel) (by decide +kernel)
theorem wd_665 : Jvm.Cond.instanceMethod yX11_setBucket ∈ am_ok := am_wd 665 (by decide +kernel) (by decide +kernel)
theorem wd_666 : Jvm.Cond.selects RX11 yX11_setBucket yX11_setBucket ∈ am_ok := am_wd 666 (by decide +kernel) (by decide +kernel)
theorem wd_640 : Jvm.Cond.methodLink RL 31 yX11_setCoarseness ∈ am_ok := am_wd 640 (by decide +kernel) (by decide +kernel)
theorem wd_641 : Jvm.Cond.instanceMethod yX11_setCoarseness ∈ am_ok := am_wd 641 (by decide +kernel) (by decide +kernel)
theorem wd_642 : Jvm.Cond.selects RX11 yX11_setCoarseness yX11_setCoarseness ∈ am_ok := am_wd 642 (by decide +kernel) (by decide +kernel)
theorem wd_656 : Jvm.Cond.methodLink RL 38 yX11_setSlices ∈ am_ok := am_wd 656 (by decide +kernel) (by decide +kernel)
theorem wd_657 : Jvm.Cond.instanceMethod yX11_setSlices ∈ am_ok := am_wd 657 (by decide +kernel) (by decide +kernel)
theorem wd_658 : Jvm.Cond.selects RX11 yX11_setSlices yX11_setSlices ∈ am_ok := am_wd 658 (by decide +kernel) (by decide +kernel)
theorem wd_648 : Jvm.Cond.methodLink RL 35 yX11_setTools ∈ am_ok := am_wd 648 (by decide +kernel) (by decide +kernel)
theorem wd_649 : Jvm.Cond.instanceMethod yX11_setTools ∈ am_ok := am_wd 649 (by decide +kernel) (by decide +kernel)
theorem wd_650 : Jvm.Cond.selects RX11 yX11_setTools yX11_setTools ∈ am_ok := am_wd 650 (by decide +kernel) (by decide +kernel)
theorem wd_561 : Jvm.Cond.methodLink RL 15 yX11_slope ∈ am_ok := am_wd 561 (by decide +kernel) (by decide +kernel)
theorem wd_562 : Jvm.Cond.instanceMethod yX11_slope ∈ am_ok := am_wd 562 (by decide +kernel) (by decide +kernel)
theorem wd_563 : Jvm.Cond.selects RX11 yX11_slope yX11_slope ∈ am_ok := am_wd 563 (by decide +kernel) (by decide +kernel)
theorem wd_720 : Jvm.Cond.methodLink RX11 223 yX11_pictureAt ∈ am_ok := am_wd 720 (by decide +kernel) (by decide +kernel)
theorem wd_722 : Jvm.Cond.instanceMethod yX11_pictureAt ∈ am_ok := am_wd 722 (by decide +kernel) (by decide +kernel)
theorem wd_3 : Jvm.Cond.selects RX11 yX11_pictureAt yX11_pictureAt ∈ am_ok := am_wd 3 (by decide +kernel) (by decide +kernel)
theorem wd_621 : Jvm.Cond.methodLink RX11 130 yX11_refuseNoPixel ∈ am_ok := am_wd 621 (by decide +kernel) (by decide +kernel)
theorem wd_622 : Jvm.Cond.static yX11_refuseNoPixel ∈ am_ok := am_wd 622 (by decide +kernel) (by decide +kernel)
theorem wd_152 : Jvm.Cond.fieldLinkNest RX11 260 "BlockCast$Picture" "pixels" "[I" "BlockCast" ∈ am_ok := am_wd 152 (by decide +kernel) (by decide +kernel)
theorem wd_124 : Jvm.Cond.fieldLinkNest RX11 231 "BlockCast$Picture" "step" "I" "BlockCast" ∈ am_ok := am_wd 124 (by decide +kernel) (by decide +kernel)
theorem wd_1214 : Jvm.Cond.methodLink RX11 274 yX6_partsInMode ∈ am_ok := am_wd 1214 (by decide +kernel) (by decide +kernel)
theorem wd_1215 : Jvm.Cond.instanceMethod yX6_partsInMode ∈ am_ok := am_wd 1215 (by decide +kernel) (by decide +kernel)
theorem wd_1216 : Jvm.Cond.selects RX6 yX6_partsInMode yX6_partsInMode ∈ am_ok := am_wd 1216 (by decide +kernel) (by decide +kernel)
theorem wd_1281 : Jvm.Cond.methodLink RX11 296 yX11_refuseNothingShown ∈ am_ok := am_wd 1281 (by decide +kernel) (by decide +kernel)
theorem wd_1283 : Jvm.Cond.instanceMethod yX11_refuseNothingShown ∈ am_ok := am_wd 1283 (by decide +kernel) (by decide +kernel)
theorem wd_25 : Jvm.Cond.selects RX11 yX11_refuseNothingShown yX11_refuseNothingShown ∈ am_ok := am_wd 25 (by decide +kernel) (by decide +kernel)
theorem wd_359 : Jvm.Cond.fieldLinkNest RX11 302 "BlockCast$Decoder" "shownPixels" "[I" "BlockCast" ∈ am_ok := am_wd 359 (by decide +kernel) (by decide +kernel)
theorem wd_133 : Jvm.Cond.fieldLinkNest RX11 263 "BlockCast$Picture" "error" "J" "BlockCast" ∈ am_ok := am_wd 133 (by decide +kernel) (by decide +kernel)
theorem wd_1202 : Jvm.Cond.methodLink RX11 308 yX6_bits ∈ am_ok := am_wd 1202 (by decide +kernel) (by decide +kernel)
theorem wd_1203 : Jvm.Cond.instanceMethod yX6_bits ∈ am_ok := am_wd 1203 (by decide +kernel) (by decide +kernel)
theorem wd_1204 : Jvm.Cond.selects RX6 yX6_bits yX6_bits ∈ am_ok := am_wd 1204 (by decide +kernel) (by decide +kernel)
theorem wd_357 : Jvm.Cond.fieldLinkNest RX11 290 "BlockCast$Decoder" "isShownClean" "Z" "BlockCast" ∈ am_ok := am_wd 357 (by decide +kernel) (by decide +kernel)
theorem wd_116 : Jvm.Cond.fieldLinkNest RX11 227 "BlockCast$Picture" "kind" "C" "BlockCast" ∈ am_ok := am_wd 116 (by decide +kernel) (by decide +kernel)
theorem wd_149 : Jvm.Cond.fieldLinkNest RX11 257 "BlockCast$Picture" "levels" "[I" "BlockCast" ∈ am_ok := am_wd 149 (by decide +kernel) (by decide +kernel)
theorem wd_141 : Jvm.Cond.fieldLinkNest RX11 246 "BlockCast$Picture" "modes" "[I" "BlockCast" ∈ am_ok := am_wd 141 (by decide +kernel) (by decide +kernel)
theorem wd_1153 : Jvm.Cond.methodLink RX11 243 yX11_squareAt ∈ am_ok := am_wd 1153 (by decide +kernel) (by decide +kernel)
theorem wd_139 : Jvm.Cond.fieldLinkNest RX11 240 "BlockCast$Picture" "sizes" "[I" "BlockCast" ∈ am_ok := am_wd 139 (by decide +kernel) (by decide +kernel)
theorem wd_353 : Jvm.Cond.fieldLinkNest RX11 277 "BlockCast$Decoder" "next" "I" "BlockCast" ∈ am_ok := am_wd 353 (by decide +kernel) (by decide +kernel)
theorem wd_128 : Jvm.Cond.fieldLinkNest RX11 282 "BlockCast$Picture" "slices" "I" "BlockCast" ∈ am_ok := am_wd 128 (by decide +kernel) (by decide +kernel)
theorem wd_1228 : Jvm.Cond.methodLink RX11 287 yX3_receive ∈ am_ok := am_wd 1228 (by decide +kernel) (by decide +kernel)
theorem wd_1229 : Jvm.Cond.instanceMethod yX3_receive ∈ am_ok := am_wd 1229 (by decide +kernel) (by decide +kernel)
theorem wd_1230 : Jvm.Cond.selects RX3 yX3_receive yX3_receive ∈ am_ok := am_wd 1230 (by decide +kernel) (by decide +kernel)
theorem wd_135 : Jvm.Cond.fieldLinkNest RX11 323 "BlockCast$Picture" "upperBytes" "[I" "BlockCast" ∈ am_ok := am_wd 135 (by decide +kernel) (by decide +kernel)
theorem wd_137 : Jvm.Cond.fieldLinkNest RX11 326 "BlockCast$Picture" "lowerBytes" "[I" "BlockCast" ∈ am_ok := am_wd 137 (by decide +kernel) (by decide +kernel)
theorem wd_145 : Jvm.Cond.fieldLinkNest RX11 249 "BlockCast$Picture" "secondVectors" "[I" "BlockCast" ∈ am_ok := am_wd 145 (by decide +kernel) (by decide +kernel)
theorem wd_143 : Jvm.Cond.fieldLinkNest RX11 252 "BlockCast$Picture" "firstVectors" "[I" "BlockCast" ∈ am_ok := am_wd 143 (by decide +kernel) (by decide +kernel)
theorem wd_1577 : Jvm.Cond.methodLink RX12 281 yX12_modeFor ∈ am_ok := am_wd 1577 (by decide +kernel) (by decide +kernel)
theorem wd_1579 : Jvm.Cond.instanceMethod yX12_modeFor ∈ am_ok := am_wd 1579 (by decide +kernel) (by decide +kernel)
theorem wd_30 : Jvm.Cond.selects RX12 yX12_modeFor yX12_modeFor ∈ am_ok := am_wd 30 (by decide +kernel) (by decide +kernel)
theorem wd_1619 : Jvm.Cond.methodLink RX12 285 yX12_codesSquare ∈ am_ok := am_wd 1619 (by decide +kernel) (by decide +kernel)
theorem wd_1621 : Jvm.Cond.instanceMethod yX12_codesSquare ∈ am_ok := am_wd 1621 (by decide +kernel) (by decide +kernel)
theorem wd_34 : Jvm.Cond.selects RX12 yX12_codesSquare yX12_codesSquare ∈ am_ok := am_wd 34 (by decide +kernel) (by decide +kernel)
theorem wd_1793 : Jvm.Cond.methodLink RX12 358 yX12_isGood ∈ am_ok := am_wd 1793 (by decide +kernel) (by decide +kernel)
theorem wd_1795 : Jvm.Cond.instanceMethod yX12_isGood ∈ am_ok := am_wd 1795 (by decide +kernel) (by decide +kernel)
theorem wd_51 : Jvm.Cond.selects RX12 yX12_isGood yX12_isGood ∈ am_ok := am_wd 51 (by decide +kernel) (by decide +kernel)
theorem wd_1797 : Jvm.Cond.methodLink RX12 361 yX12_decodes ∈ am_ok := am_wd 1797 (by decide +kernel) (by decide +kernel)
theorem wd_1799 : Jvm.Cond.instanceMethod yX12_decodes ∈ am_ok := am_wd 1799 (by decide +kernel) (by decide +kernel)
theorem wd_52 : Jvm.Cond.selects RX12 yX12_decodes yX12_decodes ∈ am_ok := am_wd 52 (by decide +kernel) (by decide +kernel)
theorem wd_1179 : Jvm.Cond.methodLink RL 87 yX11_built ∈ am_ok := am_wd 1179 (by decide +kernel) (by decide +kernel)
theorem wd_1180 : Jvm.Cond.instanceMethod yX11_built ∈ am_ok := am_wd 1180 (by decide +kernel) (by decide +kernel)
theorem wd_1181 : Jvm.Cond.selects RX11 yX11_built yX11_built ∈ am_ok := am_wd 1181 (by decide +kernel) (by decide +kernel)
theorem wd_1122 : Jvm.Cond.methodLink RL 65 yX11_coarsenessOf ∈ am_ok := am_wd 1122 (by decide +kernel) (by decide +kernel)
theorem wd_1123 : Jvm.Cond.instanceMethod yX11_coarsenessOf ∈ am_ok := am_wd 1123 (by decide +kernel) (by decide +kernel)
theorem wd_1124 : Jvm.Cond.selects RX11 yX11_coarsenessOf yX11_coarsenessOf ∈ am_ok := am_wd 1124 (by decide +kernel) (by decide +kernel)
theorem wd_1209 : Jvm.Cond.methodLink RL 97 yX11_commonest ∈ am_ok := am_wd 1209 (by decide +kernel) (by decide +kernel)
theorem wd_1210 : Jvm.Cond.instanceMethod yX11_commonest ∈ am_ok := am_wd 1210 (by decide +kernel) (by decide +kernel)
theorem wd_1211 : Jvm.Cond.selects RX11 yX11_commonest yX11_commonest ∈ am_ok := am_wd 1211 (by decide +kernel) (by decide +kernel)
theorem wd_1303 : Jvm.Cond.methodLink RL 116 yX11_drift ∈ am_ok := am_wd 1303 (by decide +kernel) (by decide +kernel)
theorem wd_1304 : Jvm.Cond.instanceMethod yX11_drift ∈ am_ok := am_wd 1304 (by decide +kernel) (by decide +kernel)
theorem wd_1305 : Jvm.Cond.selects RX11 yX11_drift yX11_drift ∈ am_ok := am_wd 1305 (by decide +kernel) (by decide +kernel)
theorem wd_1186 : Jvm.Cond.methodLink RL 90 yX11_errorOf ∈ am_ok := am_wd 1186 (by decide +kernel) (by decide +kernel)
theorem wd_1187 : Jvm.Cond.instanceMethod yX11_errorOf ∈ am_ok := am_wd 1187 (by decide +kernel) (by decide +kernel)
theorem wd_1188 : Jvm.Cond.selects RX11 yX11_errorOf yX11_errorOf ∈ am_ok := am_wd 1188 (by decide +kernel) (by decide +kernel)
theorem wd_1296 : Jvm.Cond.methodLink RL 112 yX11_isClean ∈ am_ok := am_wd 1296 (by decide +kernel) (by decide +kernel)
theorem wd_1297 : Jvm.Cond.instanceMethod yX11_isClean ∈ am_ok := am_wd 1297 (by decide +kernel) (by decide +kernel)
theorem wd_1298 : Jvm.Cond.selects RX11 yX11_isClean yX11_isClean ∈ am_ok := am_wd 1298 (by decide +kernel) (by decide +kernel)
theorem wd_1115 : Jvm.Cond.methodLink RL 61 yX11_kindOf ∈ am_ok := am_wd 1115 (by decide +kernel) (by decide +kernel)
theorem wd_1116 : Jvm.Cond.instanceMethod yX11_kindOf ∈ am_ok := am_wd 1116 (by decide +kernel) (by decide +kernel)
theorem wd_1117 : Jvm.Cond.selects RX11 yX11_kindOf yX11_kindOf ∈ am_ok := am_wd 1117 (by decide +kernel) (by decide +kernel)
theorem wd_1172 : Jvm.Cond.methodLink RL 84 yX11_levelAt ∈ am_ok := am_wd 1172 (by decide +kernel) (by decide +kernel)
theorem wd_1173 : Jvm.Cond.instanceMethod yX11_levelAt ∈ am_ok := am_wd 1173 (by decide +kernel) (by decide +kernel)
theorem wd_1174 : Jvm.Cond.selects RX11 yX11_levelAt yX11_levelAt ∈ am_ok := am_wd 1174 (by decide +kernel) (by decide +kernel)
theorem wd_1324 : Jvm.Cond.methodLink RL 119 yX11_meanBits ∈ am_ok := am_wd 1324 (by decide +kernel) (by decide +kernel)
theorem wd_1325 : Jvm.Cond.instanceMethod yX11_meanBits ∈ am_ok := am_wd 1325 (by decide +kernel) (by decide +kernel)
theorem wd_1326 : Jvm.Cond.selects RX11 yX11_meanBits yX11_meanBits ∈ am_ok := am_wd 1326 (by decide +kernel) (by decide +kernel)
theorem wd_1157 : Jvm.Cond.methodLink RL 77 yX11_modeAt ∈ am_ok := am_wd 1157 (by decide +kernel) (by decide +kernel)
theorem wd_1158 : Jvm.Cond.instanceMethod yX11_modeAt ∈ am_ok := am_wd 1158 (by decide +kernel) (by decide +kernel)
theorem wd_1159 : Jvm.Cond.selects RX11 yX11_modeAt yX11_modeAt ∈ am_ok := am_wd 1159 (by decide +kernel) (by decide +kernel)
theorem wd_1149 : Jvm.Cond.methodLink RL 74 yX11_partAt ∈ am_ok := am_wd 1149 (by decide +kernel) (by decide +kernel)
theorem wd_1150 : Jvm.Cond.instanceMethod yX11_partAt ∈ am_ok := am_wd 1150 (by decide +kernel) (by decide +kernel)
theorem wd_1151 : Jvm.Cond.selects RX11 yX11_partAt yX11_partAt ∈ am_ok := am_wd 1151 (by decide +kernel) (by decide +kernel)
theorem wd_617 : Jvm.Cond.methodLink RL 26 yX11_pixel ∈ am_ok := am_wd 617 (by decide +kernel) (by decide +kernel)
theorem wd_618 : Jvm.Cond.instanceMethod yX11_pixel ∈ am_ok := am_wd 618 (by decide +kernel) (by decide +kernel)
theorem wd_619 : Jvm.Cond.selects RX11 yX11_pixel yX11_pixel ∈ am_ok := am_wd 619 (by decide +kernel) (by decide +kernel)
theorem wd_1222 : Jvm.Cond.methodLink RL 100 yX11_send ∈ am_ok := am_wd 1222 (by decide +kernel) (by decide +kernel)
theorem wd_1223 : Jvm.Cond.instanceMethod yX11_send ∈ am_ok := am_wd 1223 (by decide +kernel) (by decide +kernel)
theorem wd_1224 : Jvm.Cond.selects RX11 yX11_send yX11_send ∈ am_ok := am_wd 1224 (by decide +kernel) (by decide +kernel)
theorem wd_1277 : Jvm.Cond.methodLink RL 106 yX11_shown ∈ am_ok := am_wd 1277 (by decide +kernel) (by decide +kernel)
theorem wd_1278 : Jvm.Cond.instanceMethod yX11_shown ∈ am_ok := am_wd 1278 (by decide +kernel) (by decide +kernel)
theorem wd_1279 : Jvm.Cond.selects RX11 yX11_shown yX11_shown ∈ am_ok := am_wd 1279 (by decide +kernel) (by decide +kernel)
theorem wd_1289 : Jvm.Cond.methodLink RL 109 yX11_shownAt ∈ am_ok := am_wd 1289 (by decide +kernel) (by decide +kernel)
theorem wd_1290 : Jvm.Cond.instanceMethod yX11_shownAt ∈ am_ok := am_wd 1290 (by decide +kernel) (by decide +kernel)
theorem wd_1291 : Jvm.Cond.selects RX11 yX11_shownAt yX11_shownAt ∈ am_ok := am_wd 1291 (by decide +kernel) (by decide +kernel)
theorem wd_1164 : Jvm.Cond.methodLink RL 80 yX11_vectorAt ∈ am_ok := am_wd 1164 (by decide +kernel) (by decide +kernel)
theorem wd_1165 : Jvm.Cond.instanceMethod yX11_vectorAt ∈ am_ok := am_wd 1165 (by decide +kernel) (by decide +kernel)
theorem wd_1166 : Jvm.Cond.selects RX11 yX11_vectorAt yX11_vectorAt ∈ am_ok := am_wd 1166 (by decide +kernel) (by decide +kernel)
theorem wd_1133 : Jvm.Cond.methodLink RX11 234 yX11_sliceAt ∈ am_ok := am_wd 1133 (by decide +kernel) (by decide +kernel)
theorem wd_1135 : Jvm.Cond.instanceMethod yX11_sliceAt ∈ am_ok := am_wd 1135 (by decide +kernel) (by decide +kernel)
theorem wd_19 : Jvm.Cond.selects RX11 yX11_sliceAt yX11_sliceAt ∈ am_ok := am_wd 19 (by decide +kernel) (by decide +kernel)
theorem wd_692 : Jvm.Cond.classLink RX11 160 "java/lang/IllegalStateException" ∈ am_ok := am_wd 692 (by decide +kernel) (by decide +kernel)
theorem wd_77 : Jvm.Cond.initialized "java/lang/IllegalStateException" ∈ am_ok := am_wd 77 (by decide +kernel) (by decide +kernel)
set_option maxRecDepth 20000 in
theorem ats_4 : ∀ w ∈ vx_atX RX11 164 "java/lang/IllegalStateException" 7 Bundle.six ["java/lang/RuntimeException", "java/lang/Exception"], w ∈ am_ok ∧ vx_ot w = true := am_ats (by decide +kernel)
theorem wd_708 : Jvm.Cond.methodLink RX11 165 yX6_describe ∈ am_ok := am_wd 708 (by decide +kernel) (by decide +kernel)
theorem wd_709 : Jvm.Cond.instanceMethod yX6_describe ∈ am_ok := am_wd 709 (by decide +kernel) (by decide +kernel)
theorem wd_710 : Jvm.Cond.selects RX6 yX6_describe yX6_describe ∈ am_ok := am_wd 710 (by decide +kernel) (by decide +kernel)
theorem wd_712 : Jvm.Cond.methodLink RX11 169 yX6_useSettings ∈ am_ok := am_wd 712 (by decide +kernel) (by decide +kernel)
theorem wd_713 : Jvm.Cond.instanceMethod yX6_useSettings ∈ am_ok := am_wd 713 (by decide +kernel) (by decide +kernel)
theorem wd_714 : Jvm.Cond.selects RX6 yX6_useSettings yX6_useSettings ∈ am_ok := am_wd 714 (by decide +kernel) (by decide +kernel)
theorem wd_716 : Jvm.Cond.methodLink RX11 173 yX11_keptPixels ∈ am_ok := am_wd 716 (by decide +kernel) (by decide +kernel)
theorem wd_718 : Jvm.Cond.instanceMethod yX11_keptPixels ∈ am_ok := am_wd 718 (by decide +kernel) (by decide +kernel)
theorem wd_2 : Jvm.Cond.selects RX11 yX11_keptPixels yX11_keptPixels ∈ am_ok := am_wd 2 (by decide +kernel) (by decide +kernel)
theorem wd_725 : Jvm.Cond.methodLink RX11 177 yX2_lean ∈ am_ok := am_wd 725 (by decide +kernel) (by decide +kernel)
theorem wd_726 : Jvm.Cond.instanceMethod yX2_lean ∈ am_ok := am_wd 726 (by decide +kernel) (by decide +kernel)
theorem wd_727 : Jvm.Cond.selects RX2 yX2_lean yX2_lean ∈ am_ok := am_wd 727 (by decide +kernel) (by decide +kernel)
theorem wd_749 : Jvm.Cond.methodLink RX11 181 yX2_choose ∈ am_ok := am_wd 749 (by decide +kernel) (by decide +kernel)
theorem wd_750 : Jvm.Cond.instanceMethod yX2_choose ∈ am_ok := am_wd 750 (by decide +kernel) (by decide +kernel)
theorem wd_751 : Jvm.Cond.selects RX2 yX2_choose yX2_choose ∈ am_ok := am_wd 751 (by decide +kernel) (by decide +kernel)
theorem wd_925 : Jvm.Cond.methodLink RX11 185 yX8_writeSlice ∈ am_ok := am_wd 925 (by decide +kernel) (by decide +kernel)
theorem wd_926 : Jvm.Cond.instanceMethod yX8_writeSlice ∈ am_ok := am_wd 926 (by decide +kernel) (by decide +kernel)
theorem wd_927 : Jvm.Cond.selects RX8 yX8_writeSlice yX8_writeSlice ∈ am_ok := am_wd 927 (by decide +kernel) (by decide +kernel)
theorem wd_1021 : Jvm.Cond.methodLink RX11 189 yX8_bits ∈ am_ok := am_wd 1021 (by decide +kernel) (by decide +kernel)
theorem wd_1022 : Jvm.Cond.instanceMethod yX8_bits ∈ am_ok := am_wd 1022 (by decide +kernel) (by decide +kernel)
theorem wd_1023 : Jvm.Cond.selects RX8 yX8_bits yX8_bits ∈ am_ok := am_wd 1023 (by decide +kernel) (by decide +kernel)
theorem wd_1025 : Jvm.Cond.methodLink RX11 192 yX0_hasRoomFor ∈ am_ok := am_wd 1025 (by decide +kernel) (by decide +kernel)
theorem wd_1026 : Jvm.Cond.instanceMethod yX0_hasRoomFor ∈ am_ok := am_wd 1026 (by decide +kernel) (by decide +kernel)
theorem wd_1027 : Jvm.Cond.selects RX0 yX0_hasRoomFor yX0_hasRoomFor ∈ am_ok := am_wd 1027 (by decide +kernel) (by decide +kernel)
theorem wd_1034 : Jvm.Cond.classLink RX11 195 "java/lang/UnsupportedOperationException" ∈ am_ok := am_wd 1034 (by decide +kernel) (by decide +kernel)
theorem wd_79 : Jvm.Cond.initialized "java/lang/UnsupportedOperationException" ∈ am_ok := am_wd 79 (by decide +kernel) (by decide +kernel)
set_option maxRecDepth 20000 in
theorem ats_5 : ∀ w ∈ vx_atX RX11 199 "java/lang/UnsupportedOperationException" 7 Bundle.six ["java/lang/RuntimeException", "java/lang/Exception"], w ∈ am_ok ∧ vx_ot w = true := am_ats (by decide +kernel)
theorem wd_1050 : Jvm.Cond.methodLink RX11 200 yX8_slice ∈ am_ok := am_wd 1050 (by decide +kernel) (by decide +kernel)
theorem wd_1051 : Jvm.Cond.instanceMethod yX8_slice ∈ am_ok := am_wd 1051 (by decide +kernel) (by decide +kernel)
theorem wd_1052 : Jvm.Cond.selects RX8 yX8_slice yX8_slice ∈ am_ok := am_wd 1052 (by decide +kernel) (by decide +kernel)
theorem wd_1060 : Jvm.Cond.methodLink RX11 203 yX6_finish ∈ am_ok := am_wd 1060 (by decide +kernel) (by decide +kernel)
theorem wd_1061 : Jvm.Cond.instanceMethod yX6_finish ∈ am_ok := am_wd 1061 (by decide +kernel) (by decide +kernel)
theorem wd_1062 : Jvm.Cond.selects RX6 yX6_finish yX6_finish ∈ am_ok := am_wd 1062 (by decide +kernel) (by decide +kernel)
theorem wd_1064 : Jvm.Cond.methodLink RX11 207 yX0_take ∈ am_ok := am_wd 1064 (by decide +kernel) (by decide +kernel)
theorem wd_1065 : Jvm.Cond.instanceMethod yX0_take ∈ am_ok := am_wd 1065 (by decide +kernel) (by decide +kernel)
theorem wd_1066 : Jvm.Cond.selects RX0 yX0_take yX0_take ∈ am_ok := am_wd 1066 (by decide +kernel) (by decide +kernel)
theorem wd_1068 : Jvm.Cond.methodLink RX11 210 yX0_steer ∈ am_ok := am_wd 1068 (by decide +kernel) (by decide +kernel)
theorem wd_1069 : Jvm.Cond.instanceMethod yX0_steer ∈ am_ok := am_wd 1069 (by decide +kernel) (by decide +kernel)
theorem wd_1070 : Jvm.Cond.selects RX0 yX0_steer yX0_steer ∈ am_ok := am_wd 1070 (by decide +kernel) (by decide +kernel)
theorem wd_1072 : Jvm.Cond.methodLink RX11 213 yX11_takeDraft ∈ am_ok := am_wd 1072 (by decide +kernel) (by decide +kernel)
theorem wd_1074 : Jvm.Cond.instanceMethod yX11_takeDraft ∈ am_ok := am_wd 1074 (by decide +kernel) (by decide +kernel)
theorem wd_18 : Jvm.Cond.selects RX11 yX11_takeDraft yX11_takeDraft ∈ am_ok := am_wd 18 (by decide +kernel) (by decide +kernel)
theorem wd_1198 : Jvm.Cond.methodLink RX11 269 yX11_heavierThan ∈ am_ok := am_wd 1198 (by decide +kernel) (by decide +kernel)
theorem wd_1200 : Jvm.Cond.instanceMethod yX11_heavierThan ∈ am_ok := am_wd 1200 (by decide +kernel) (by decide +kernel)
theorem wd_20 : Jvm.Cond.selects RX11 yX11_heavierThan yX11_heavierThan ∈ am_ok := am_wd 20 (by decide +kernel) (by decide +kernel)
theorem wd_1569 : Jvm.Cond.methodLink RX12 293 yX12_isSplit ∈ am_ok := am_wd 1569 (by decide +kernel) (by decide +kernel)
theorem wd_1571 : Jvm.Cond.instanceMethod yX12_isSplit ∈ am_ok := am_wd 1571 (by decide +kernel) (by decide +kernel)
theorem wd_28 : Jvm.Cond.selects RX12 yX12_isSplit yX12_isSplit ∈ am_ok := am_wd 28 (by decide +kernel) (by decide +kernel)
theorem wd_1573 : Jvm.Cond.methodLink RX12 296 yX12_codesPart ∈ am_ok := am_wd 1573 (by decide +kernel) (by decide +kernel)
theorem wd_1575 : Jvm.Cond.instanceMethod yX12_codesPart ∈ am_ok := am_wd 1575 (by decide +kernel) (by decide +kernel)
theorem wd_29 : Jvm.Cond.selects RX12 yX12_codesPart yX12_codesPart ∈ am_ok := am_wd 29 (by decide +kernel) (by decide +kernel)
theorem wd_1141 : Jvm.Cond.methodLink RL 71 yX11_byteAt ∈ am_ok := am_wd 1141 (by decide +kernel) (by decide +kernel)
theorem wd_1142 : Jvm.Cond.instanceMethod yX11_byteAt ∈ am_ok := am_wd 1142 (by decide +kernel) (by decide +kernel)
theorem wd_1143 : Jvm.Cond.selects RX11 yX11_byteAt yX11_byteAt ∈ am_ok := am_wd 1143 (by decide +kernel) (by decide +kernel)
theorem wd_1129 : Jvm.Cond.methodLink RL 68 yX11_bytes ∈ am_ok := am_wd 1129 (by decide +kernel) (by decide +kernel)
theorem wd_1130 : Jvm.Cond.instanceMethod yX11_bytes ∈ am_ok := am_wd 1130 (by decide +kernel) (by decide +kernel)
theorem wd_1131 : Jvm.Cond.selects RX11 yX11_bytes yX11_bytes ∈ am_ok := am_wd 1131 (by decide +kernel) (by decide +kernel)
theorem wd_682 : Jvm.Cond.methodLink RL 44 yX11_code ∈ am_ok := am_wd 682 (by decide +kernel) (by decide +kernel)
theorem wd_680 : Jvm.Cond.classLink RL 48 "java/lang/IllegalStateException" ∈ am_ok := am_wd 680 (by decide +kernel) (by decide +kernel)
theorem wd_694 : Jvm.Cond.castable "java/lang/IllegalStateException" "java/lang/IllegalStateException" ∈ am_ok := am_wd 694 (by decide +kernel) (by decide +kernel)
theorem wd_681 : Jvm.Cond.classLink RL 50 "java/lang/UnsupportedOperationException" ∈ am_ok := am_wd 681 (by decide +kernel) (by decide +kernel)
theorem wd_1036 : Jvm.Cond.castable "java/lang/UnsupportedOperationException" "java/lang/UnsupportedOperationException" ∈ am_ok := am_wd 1036 (by decide +kernel) (by decide +kernel)
theorem wd_683 : Jvm.Cond.instanceMethod yX11_code ∈ am_ok := am_wd 683 (by decide +kernel) (by decide +kernel)
theorem wd_684 : Jvm.Cond.selects RX11 yX11_code yX11_code ∈ am_ok := am_wd 684 (by decide +kernel) (by decide +kernel)
theorem wd_1193 : Jvm.Cond.methodLink RL 94 yX11_heaviest ∈ am_ok := am_wd 1193 (by decide +kernel) (by decide +kernel)
theorem wd_1194 : Jvm.Cond.instanceMethod yX11_heaviest ∈ am_ok := am_wd 1194 (by decide +kernel) (by decide +kernel)
theorem wd_1195 : Jvm.Cond.selects RX11 yX11_heaviest yX11_heaviest ∈ am_ok := am_wd 1195 (by decide +kernel) (by decide +kernel)
theorem wd_1561 : Jvm.Cond.methodLink RX12 299 yX12_raises ∈ am_ok := am_wd 1561 (by decide +kernel) (by decide +kernel)
theorem wd_1563 : Jvm.Cond.instanceMethod yX12_raises ∈ am_ok := am_wd 1563 (by decide +kernel) (by decide +kernel)
theorem wd_26 : Jvm.Cond.selects RX12 yX12_raises yX12_raises ∈ am_ok := am_wd 26 (by decide +kernel) (by decide +kernel)
theorem wd_1565 : Jvm.Cond.methodLink RX12 308 yX12_codesParts ∈ am_ok := am_wd 1565 (by decide +kernel) (by decide +kernel)
theorem wd_1567 : Jvm.Cond.instanceMethod yX12_codesParts ∈ am_ok := am_wd 1567 (by decide +kernel) (by decide +kernel)
theorem wd_27 : Jvm.Cond.selects RX12 yX12_codesParts yX12_codesParts ∈ am_ok := am_wd 27 (by decide +kernel) (by decide +kernel)
theorem wd_1636 : Jvm.Cond.methodLink RX12 312 yX12_slice ∈ am_ok := am_wd 1636 (by decide +kernel) (by decide +kernel)
theorem wd_1638 : Jvm.Cond.instanceMethod yX12_slice ∈ am_ok := am_wd 1638 (by decide +kernel) (by decide +kernel)
theorem wd_35 : Jvm.Cond.selects RX12 yX12_slice yX12_slice ∈ am_ok := am_wd 35 (by decide +kernel) (by decide +kernel)
theorem wd_1695 : Jvm.Cond.methodLink RX12 319 yX12_keeps ∈ am_ok := am_wd 1695 (by decide +kernel) (by decide +kernel)
theorem wd_1697 : Jvm.Cond.instanceMethod yX12_keeps ∈ am_ok := am_wd 1697 (by decide +kernel) (by decide +kernel)
theorem wd_46 : Jvm.Cond.selects RX12 yX12_keeps yX12_keeps ∈ am_ok := am_wd 46 (by decide +kernel) (by decide +kernel)
theorem wd_82 : Jvm.Cond.classLink RL 8 RX11 ∈ am_ok := am_wd 82 (by decide +kernel) (by decide +kernel)
theorem wd_83 : Jvm.Cond.instantiable RX11 15 ∈ am_ok := am_wd 83 (by decide +kernel) (by decide +kernel)
theorem wd_84 : Jvm.Cond.methodLink RL 129 yX11_init ∈ am_ok := am_wd 84 (by decide +kernel) (by decide +kernel)
theorem wd_85 : Jvm.Cond.instanceMethod yX11_init ∈ am_ok := am_wd 85 (by decide +kernel) (by decide +kernel)
theorem wd_1338 : Jvm.Cond.classLink RL 130 RX12 ∈ am_ok := am_wd 1338 (by decide +kernel) (by decide +kernel)
theorem wd_1339 : Jvm.Cond.instantiable RX12 48 ∈ am_ok := am_wd 1339 (by decide +kernel) (by decide +kernel)
theorem wd_1340 : Jvm.Cond.methodLink RL 132 yX12_init ∈ am_ok := am_wd 1340 (by decide +kernel) (by decide +kernel)
theorem wd_1341 : Jvm.Cond.instanceMethod yX12_init ∈ am_ok := am_wd 1341 (by decide +kernel) (by decide +kernel)
theorem wd_1841 : Jvm.Cond.arrayClass .double ∈ am_ok := am_wd 1841 (by decide +kernel) (by decide +kernel)
theorem bi_bipush_63 : (Int8.ofInt (63)).toInt32 = mI (63) := by decide +kernel
theorem wd_462 : Jvm.Cond.methodLink RL 133 yL_fill ∈ am_ok := am_wd 462 (by decide +kernel) (by decide +kernel)
theorem wd_463 : Jvm.Cond.static yL_fill ∈ am_ok := am_wd 463 (by decide +kernel) (by decide +kernel)
theorem wd_1498 : Jvm.Cond.methodLink RL 138 yX12_fill ∈ am_ok := am_wd 1498 (by decide +kernel) (by decide +kernel)
theorem wd_1499 : Jvm.Cond.instanceMethod yX12_fill ∈ am_ok := am_wd 1499 (by decide +kernel) (by decide +kernel)
theorem wd_1500 : Jvm.Cond.selects RX12 yX12_fill yX12_fill ∈ am_ok := am_wd 1500 (by decide +kernel) (by decide +kernel)
theorem wd_1494 : Jvm.Cond.methodLink RL 139 yX12_thrown ∈ am_ok := am_wd 1494 (by decide +kernel) (by decide +kernel)
theorem wd_1495 : Jvm.Cond.instanceMethod yX12_thrown ∈ am_ok := am_wd 1495 (by decide +kernel) (by decide +kernel)
theorem wd_1496 : Jvm.Cond.selects RX12 yX12_thrown yX12_thrown ∈ am_ok := am_wd 1496 (by decide +kernel) (by decide +kernel)
theorem wd_558 : Jvm.Cond.methodLink RL 142 yL_slope ∈ am_ok := am_wd 558 (by decide +kernel) (by decide +kernel)
theorem wd_559 : Jvm.Cond.static yL_slope ∈ am_ok := am_wd 559 (by decide +kernel) (by decide +kernel)
theorem wd_1505 : Jvm.Cond.methodLink RL 145 yX12_slope ∈ am_ok := am_wd 1505 (by decide +kernel) (by decide +kernel)
theorem wd_1506 : Jvm.Cond.instanceMethod yX12_slope ∈ am_ok := am_wd 1506 (by decide +kernel) (by decide +kernel)
theorem wd_1507 : Jvm.Cond.selects RX12 yX12_slope yX12_slope ∈ am_ok := am_wd 1507 (by decide +kernel) (by decide +kernel)
theorem wd_567 : Jvm.Cond.methodLink RL 146 yL_grain ∈ am_ok := am_wd 567 (by decide +kernel) (by decide +kernel)
theorem wd_568 : Jvm.Cond.static yL_grain ∈ am_ok := am_wd 568 (by decide +kernel) (by decide +kernel)
theorem wd_1509 : Jvm.Cond.methodLink RL 149 yX12_grain ∈ am_ok := am_wd 1509 (by decide +kernel) (by decide +kernel)
theorem wd_1510 : Jvm.Cond.instanceMethod yX12_grain ∈ am_ok := am_wd 1510 (by decide +kernel) (by decide +kernel)
theorem wd_1511 : Jvm.Cond.selects RX12 yX12_grain yX12_grain ∈ am_ok := am_wd 1511 (by decide +kernel) (by decide +kernel)
theorem wd_579 : Jvm.Cond.methodLink RL 150 yL_move ∈ am_ok := am_wd 579 (by decide +kernel) (by decide +kernel)
theorem wd_580 : Jvm.Cond.static yL_move ∈ am_ok := am_wd 580 (by decide +kernel) (by decide +kernel)
theorem wd_1519 : Jvm.Cond.methodLink RL 152 yX12_move ∈ am_ok := am_wd 1519 (by decide +kernel) (by decide +kernel)
theorem wd_1520 : Jvm.Cond.instanceMethod yX12_move ∈ am_ok := am_wd 1520 (by decide +kernel) (by decide +kernel)
theorem wd_1521 : Jvm.Cond.selects RX12 yX12_move yX12_move ∈ am_ok := am_wd 1521 (by decide +kernel) (by decide +kernel)
theorem wd_590 : Jvm.Cond.methodLink RL 153 yL_pixel ∈ am_ok := am_wd 590 (by decide +kernel) (by decide +kernel)
theorem wd_591 : Jvm.Cond.static yL_pixel ∈ am_ok := am_wd 591 (by decide +kernel) (by decide +kernel)
theorem wd_1529 : Jvm.Cond.methodLink RL 155 yX12_pixel ∈ am_ok := am_wd 1529 (by decide +kernel) (by decide +kernel)
theorem wd_1530 : Jvm.Cond.instanceMethod yX12_pixel ∈ am_ok := am_wd 1530 (by decide +kernel) (by decide +kernel)
theorem wd_1531 : Jvm.Cond.selects RX12 yX12_pixel yX12_pixel ∈ am_ok := am_wd 1531 (by decide +kernel) (by decide +kernel)
theorem wd_637 : Jvm.Cond.methodLink RL 156 yL_setCoarseness ∈ am_ok := am_wd 637 (by decide +kernel) (by decide +kernel)
theorem wd_638 : Jvm.Cond.static yL_setCoarseness ∈ am_ok := am_wd 638 (by decide +kernel) (by decide +kernel)
theorem wd_1536 : Jvm.Cond.methodLink RL 159 yX12_setCoarseness ∈ am_ok := am_wd 1536 (by decide +kernel) (by decide +kernel)
theorem wd_1537 : Jvm.Cond.instanceMethod yX12_setCoarseness ∈ am_ok := am_wd 1537 (by decide +kernel) (by decide +kernel)
theorem wd_1538 : Jvm.Cond.selects RX12 yX12_setCoarseness yX12_setCoarseness ∈ am_ok := am_wd 1538 (by decide +kernel) (by decide +kernel)
theorem wd_645 : Jvm.Cond.methodLink RL 160 yL_setTools ∈ am_ok := am_wd 645 (by decide +kernel) (by decide +kernel)
theorem wd_646 : Jvm.Cond.static yL_setTools ∈ am_ok := am_wd 646 (by decide +kernel) (by decide +kernel)
theorem wd_1540 : Jvm.Cond.methodLink RL 162 yX12_setTools ∈ am_ok := am_wd 1540 (by decide +kernel) (by decide +kernel)
theorem wd_1541 : Jvm.Cond.instanceMethod yX12_setTools ∈ am_ok := am_wd 1541 (by decide +kernel) (by decide +kernel)
theorem wd_1542 : Jvm.Cond.selects RX12 yX12_setTools yX12_setTools ∈ am_ok := am_wd 1542 (by decide +kernel) (by decide +kernel)
theorem wd_653 : Jvm.Cond.methodLink RL 163 yL_setSlices ∈ am_ok := am_wd 653 (by decide +kernel) (by decide +kernel)
theorem wd_654 : Jvm.Cond.static yL_setSlices ∈ am_ok := am_wd 654 (by decide +kernel) (by decide +kernel)
theorem wd_1544 : Jvm.Cond.methodLink RL 165 yX12_setSlices ∈ am_ok := am_wd 1544 (by decide +kernel) (by decide +kernel)
theorem wd_1545 : Jvm.Cond.instanceMethod yX12_setSlices ∈ am_ok := am_wd 1545 (by decide +kernel) (by decide +kernel)
theorem wd_1546 : Jvm.Cond.selects RX12 yX12_setSlices yX12_setSlices ∈ am_ok := am_wd 1546 (by decide +kernel) (by decide +kernel)
theorem wd_446 : Jvm.Cond.methodLink RL 166 yX11_setKept ∈ am_ok := am_wd 446 (by decide +kernel) (by decide +kernel)
theorem wd_447 : Jvm.Cond.instanceMethod yX11_setKept ∈ am_ok := am_wd 447 (by decide +kernel) (by decide +kernel)
theorem wd_448 : Jvm.Cond.selects RX11 yX11_setKept yX11_setKept ∈ am_ok := am_wd 448 (by decide +kernel) (by decide +kernel)
theorem wd_1548 : Jvm.Cond.methodLink RL 170 yX12_setKept ∈ am_ok := am_wd 1548 (by decide +kernel) (by decide +kernel)
theorem wd_1549 : Jvm.Cond.instanceMethod yX12_setKept ∈ am_ok := am_wd 1549 (by decide +kernel) (by decide +kernel)
theorem wd_1550 : Jvm.Cond.selects RX12 yX12_setKept yX12_setKept ∈ am_ok := am_wd 1550 (by decide +kernel) (by decide +kernel)
theorem wd_661 : Jvm.Cond.methodLink RL 171 yL_setBucket ∈ am_ok := am_wd 661 (by decide +kernel) (by decide +kernel)
theorem wd_662 : Jvm.Cond.static yL_setBucket ∈ am_ok := am_wd 662 (by decide +kernel) (by decide +kernel)
theorem wd_1552 : Jvm.Cond.methodLink RL 173 yX12_setBucket ∈ am_ok := am_wd 1552 (by decide +kernel) (by decide +kernel)
theorem wd_1553 : Jvm.Cond.instanceMethod yX12_setBucket ∈ am_ok := am_wd 1553 (by decide +kernel) (by decide +kernel)
theorem wd_1554 : Jvm.Cond.selects RX12 yX12_setBucket yX12_setBucket ∈ am_ok := am_wd 1554 (by decide +kernel) (by decide +kernel)
theorem wd_677 : Jvm.Cond.methodLink RL 174 yL_code ∈ am_ok := am_wd 677 (by decide +kernel) (by decide +kernel)
theorem wd_678 : Jvm.Cond.static yL_code ∈ am_ok := am_wd 678 (by decide +kernel) (by decide +kernel)
theorem wd_1557 : Jvm.Cond.methodLink RL 177 yX12_code ∈ am_ok := am_wd 1557 (by decide +kernel) (by decide +kernel)
theorem wd_1558 : Jvm.Cond.instanceMethod yX12_code ∈ am_ok := am_wd 1558 (by decide +kernel) (by decide +kernel)
theorem wd_1559 : Jvm.Cond.selects RX12 yX12_code yX12_code ∈ am_ok := am_wd 1559 (by decide +kernel) (by decide +kernel)
theorem wd_450 : Jvm.Cond.methodLink RL 178 yX11_pictures ∈ am_ok := am_wd 450 (by decide +kernel) (by decide +kernel)
theorem wd_451 : Jvm.Cond.instanceMethod yX11_pictures ∈ am_ok := am_wd 451 (by decide +kernel) (by decide +kernel)
theorem wd_452 : Jvm.Cond.selects RX11 yX11_pictures yX11_pictures ∈ am_ok := am_wd 452 (by decide +kernel) (by decide +kernel)
theorem wd_1706 : Jvm.Cond.methodLink RL 181 yX12_pictures ∈ am_ok := am_wd 1706 (by decide +kernel) (by decide +kernel)
theorem wd_1707 : Jvm.Cond.instanceMethod yX12_pictures ∈ am_ok := am_wd 1707 (by decide +kernel) (by decide +kernel)
theorem wd_1708 : Jvm.Cond.selects RX12 yX12_pictures yX12_pictures ∈ am_ok := am_wd 1708 (by decide +kernel) (by decide +kernel)
theorem wd_454 : Jvm.Cond.methodLink RL 182 yX11_kept ∈ am_ok := am_wd 454 (by decide +kernel) (by decide +kernel)
theorem wd_455 : Jvm.Cond.instanceMethod yX11_kept ∈ am_ok := am_wd 455 (by decide +kernel) (by decide +kernel)
theorem wd_456 : Jvm.Cond.selects RX11 yX11_kept yX11_kept ∈ am_ok := am_wd 456 (by decide +kernel) (by decide +kernel)
theorem wd_1710 : Jvm.Cond.methodLink RL 185 yX12_kept ∈ am_ok := am_wd 1710 (by decide +kernel) (by decide +kernel)
theorem wd_1711 : Jvm.Cond.instanceMethod yX12_kept ∈ am_ok := am_wd 1711 (by decide +kernel) (by decide +kernel)
theorem wd_1712 : Jvm.Cond.selects RX12 yX12_kept yX12_kept ∈ am_ok := am_wd 1712 (by decide +kernel) (by decide +kernel)
theorem wd_1080 : Jvm.Cond.methodLink RL 186 yL_keptAt ∈ am_ok := am_wd 1080 (by decide +kernel) (by decide +kernel)
theorem wd_1081 : Jvm.Cond.static yL_keptAt ∈ am_ok := am_wd 1081 (by decide +kernel) (by decide +kernel)
theorem wd_1714 : Jvm.Cond.methodLink RL 188 yX12_keptAt ∈ am_ok := am_wd 1714 (by decide +kernel) (by decide +kernel)
theorem wd_1715 : Jvm.Cond.instanceMethod yX12_keptAt ∈ am_ok := am_wd 1715 (by decide +kernel) (by decide +kernel)
theorem wd_1716 : Jvm.Cond.selects RX12 yX12_keptAt yX12_keptAt ∈ am_ok := am_wd 1716 (by decide +kernel) (by decide +kernel)
theorem wd_458 : Jvm.Cond.methodLink RL 189 yX11_coarseness ∈ am_ok := am_wd 458 (by decide +kernel) (by decide +kernel)
theorem wd_459 : Jvm.Cond.instanceMethod yX11_coarseness ∈ am_ok := am_wd 459 (by decide +kernel) (by decide +kernel)
theorem wd_460 : Jvm.Cond.selects RX11 yX11_coarseness yX11_coarseness ∈ am_ok := am_wd 460 (by decide +kernel) (by decide +kernel)
theorem wd_1718 : Jvm.Cond.methodLink RL 192 yX12_coarseness ∈ am_ok := am_wd 1718 (by decide +kernel) (by decide +kernel)
theorem wd_1719 : Jvm.Cond.instanceMethod yX12_coarseness ∈ am_ok := am_wd 1719 (by decide +kernel) (by decide +kernel)
theorem wd_1720 : Jvm.Cond.selects RX12 yX12_coarseness yX12_coarseness ∈ am_ok := am_wd 1720 (by decide +kernel) (by decide +kernel)
theorem wd_1088 : Jvm.Cond.methodLink RL 193 yL_bucket ∈ am_ok := am_wd 1088 (by decide +kernel) (by decide +kernel)
theorem wd_1089 : Jvm.Cond.static yL_bucket ∈ am_ok := am_wd 1089 (by decide +kernel) (by decide +kernel)
theorem wd_1722 : Jvm.Cond.methodLink RL 196 yX12_bucket ∈ am_ok := am_wd 1722 (by decide +kernel) (by decide +kernel)
theorem wd_1723 : Jvm.Cond.instanceMethod yX12_bucket ∈ am_ok := am_wd 1723 (by decide +kernel) (by decide +kernel)
theorem wd_1724 : Jvm.Cond.selects RX12 yX12_bucket yX12_bucket ∈ am_ok := am_wd 1724 (by decide +kernel) (by decide +kernel)
theorem wd_1112 : Jvm.Cond.methodLink RL 197 yL_kindOf ∈ am_ok := am_wd 1112 (by decide +kernel) (by decide +kernel)
theorem wd_1113 : Jvm.Cond.static yL_kindOf ∈ am_ok := am_wd 1113 (by decide +kernel) (by decide +kernel)
theorem wd_1726 : Jvm.Cond.methodLink RL 199 yX12_kindOf ∈ am_ok := am_wd 1726 (by decide +kernel) (by decide +kernel)
theorem wd_1727 : Jvm.Cond.instanceMethod yX12_kindOf ∈ am_ok := am_wd 1727 (by decide +kernel) (by decide +kernel)
theorem wd_1728 : Jvm.Cond.selects RX12 yX12_kindOf yX12_kindOf ∈ am_ok := am_wd 1728 (by decide +kernel) (by decide +kernel)
theorem wd_1119 : Jvm.Cond.methodLink RL 200 yL_coarsenessOf ∈ am_ok := am_wd 1119 (by decide +kernel) (by decide +kernel)
theorem wd_1120 : Jvm.Cond.static yL_coarsenessOf ∈ am_ok := am_wd 1120 (by decide +kernel) (by decide +kernel)
theorem wd_1734 : Jvm.Cond.methodLink RL 202 yX12_coarsenessOf ∈ am_ok := am_wd 1734 (by decide +kernel) (by decide +kernel)
theorem wd_1735 : Jvm.Cond.instanceMethod yX12_coarsenessOf ∈ am_ok := am_wd 1735 (by decide +kernel) (by decide +kernel)
theorem wd_1736 : Jvm.Cond.selects RX12 yX12_coarsenessOf yX12_coarsenessOf ∈ am_ok := am_wd 1736 (by decide +kernel) (by decide +kernel)
theorem wd_1126 : Jvm.Cond.methodLink RL 203 yL_bytes ∈ am_ok := am_wd 1126 (by decide +kernel) (by decide +kernel)
theorem wd_1127 : Jvm.Cond.static yL_bytes ∈ am_ok := am_wd 1127 (by decide +kernel) (by decide +kernel)
theorem wd_1738 : Jvm.Cond.methodLink RL 205 yX12_bytes ∈ am_ok := am_wd 1738 (by decide +kernel) (by decide +kernel)
theorem wd_1739 : Jvm.Cond.instanceMethod yX12_bytes ∈ am_ok := am_wd 1739 (by decide +kernel) (by decide +kernel)
theorem wd_1740 : Jvm.Cond.selects RX12 yX12_bytes yX12_bytes ∈ am_ok := am_wd 1740 (by decide +kernel) (by decide +kernel)
theorem wd_1138 : Jvm.Cond.methodLink RL 206 yL_byteAt ∈ am_ok := am_wd 1138 (by decide +kernel) (by decide +kernel)
theorem wd_1139 : Jvm.Cond.static yL_byteAt ∈ am_ok := am_wd 1139 (by decide +kernel) (by decide +kernel)
theorem wd_1746 : Jvm.Cond.methodLink RL 208 yX12_byteAt ∈ am_ok := am_wd 1746 (by decide +kernel) (by decide +kernel)
theorem wd_1747 : Jvm.Cond.instanceMethod yX12_byteAt ∈ am_ok := am_wd 1747 (by decide +kernel) (by decide +kernel)
theorem wd_1748 : Jvm.Cond.selects RX12 yX12_byteAt yX12_byteAt ∈ am_ok := am_wd 1748 (by decide +kernel) (by decide +kernel)
theorem wd_1146 : Jvm.Cond.methodLink RL 209 yL_partAt ∈ am_ok := am_wd 1146 (by decide +kernel) (by decide +kernel)
theorem wd_1147 : Jvm.Cond.static yL_partAt ∈ am_ok := am_wd 1147 (by decide +kernel) (by decide +kernel)
theorem wd_1750 : Jvm.Cond.methodLink RL 211 yX12_partAt ∈ am_ok := am_wd 1750 (by decide +kernel) (by decide +kernel)
theorem wd_1751 : Jvm.Cond.instanceMethod yX12_partAt ∈ am_ok := am_wd 1751 (by decide +kernel) (by decide +kernel)
theorem wd_1752 : Jvm.Cond.selects RX12 yX12_partAt yX12_partAt ∈ am_ok := am_wd 1752 (by decide +kernel) (by decide +kernel)
theorem wd_1154 : Jvm.Cond.methodLink RL 212 yL_modeAt ∈ am_ok := am_wd 1154 (by decide +kernel) (by decide +kernel)
theorem wd_1155 : Jvm.Cond.static yL_modeAt ∈ am_ok := am_wd 1155 (by decide +kernel) (by decide +kernel)
theorem wd_1761 : Jvm.Cond.methodLink RL 214 yX12_modeAt ∈ am_ok := am_wd 1761 (by decide +kernel) (by decide +kernel)
theorem wd_1762 : Jvm.Cond.instanceMethod yX12_modeAt ∈ am_ok := am_wd 1762 (by decide +kernel) (by decide +kernel)
theorem wd_1763 : Jvm.Cond.selects RX12 yX12_modeAt yX12_modeAt ∈ am_ok := am_wd 1763 (by decide +kernel) (by decide +kernel)
theorem wd_1161 : Jvm.Cond.methodLink RL 215 yL_vectorAt ∈ am_ok := am_wd 1161 (by decide +kernel) (by decide +kernel)
theorem wd_1162 : Jvm.Cond.static yL_vectorAt ∈ am_ok := am_wd 1162 (by decide +kernel) (by decide +kernel)
theorem wd_1765 : Jvm.Cond.methodLink RL 218 yX12_vectorAt ∈ am_ok := am_wd 1765 (by decide +kernel) (by decide +kernel)
theorem wd_1766 : Jvm.Cond.instanceMethod yX12_vectorAt ∈ am_ok := am_wd 1766 (by decide +kernel) (by decide +kernel)
theorem wd_1767 : Jvm.Cond.selects RX12 yX12_vectorAt yX12_vectorAt ∈ am_ok := am_wd 1767 (by decide +kernel) (by decide +kernel)
theorem wd_1169 : Jvm.Cond.methodLink RL 219 yL_levelAt ∈ am_ok := am_wd 1169 (by decide +kernel) (by decide +kernel)
theorem wd_1170 : Jvm.Cond.static yL_levelAt ∈ am_ok := am_wd 1170 (by decide +kernel) (by decide +kernel)
theorem wd_1769 : Jvm.Cond.methodLink RL 221 yX12_levelAt ∈ am_ok := am_wd 1769 (by decide +kernel) (by decide +kernel)
theorem wd_1770 : Jvm.Cond.instanceMethod yX12_levelAt ∈ am_ok := am_wd 1770 (by decide +kernel) (by decide +kernel)
theorem wd_1771 : Jvm.Cond.selects RX12 yX12_levelAt yX12_levelAt ∈ am_ok := am_wd 1771 (by decide +kernel) (by decide +kernel)
theorem wd_1176 : Jvm.Cond.methodLink RL 222 yL_built ∈ am_ok := am_wd 1176 (by decide +kernel) (by decide +kernel)
theorem wd_1177 : Jvm.Cond.static yL_built ∈ am_ok := am_wd 1177 (by decide +kernel) (by decide +kernel)
theorem wd_1773 : Jvm.Cond.methodLink RL 224 yX12_built ∈ am_ok := am_wd 1773 (by decide +kernel) (by decide +kernel)
theorem wd_1774 : Jvm.Cond.instanceMethod yX12_built ∈ am_ok := am_wd 1774 (by decide +kernel) (by decide +kernel)
theorem wd_1775 : Jvm.Cond.selects RX12 yX12_built yX12_built ∈ am_ok := am_wd 1775 (by decide +kernel) (by decide +kernel)
theorem wd_1183 : Jvm.Cond.methodLink RL 225 yL_errorOf ∈ am_ok := am_wd 1183 (by decide +kernel) (by decide +kernel)
theorem wd_1184 : Jvm.Cond.static yL_errorOf ∈ am_ok := am_wd 1184 (by decide +kernel) (by decide +kernel)
theorem wd_1777 : Jvm.Cond.methodLink RL 227 yX12_errorOf ∈ am_ok := am_wd 1777 (by decide +kernel) (by decide +kernel)
theorem wd_1778 : Jvm.Cond.instanceMethod yX12_errorOf ∈ am_ok := am_wd 1778 (by decide +kernel) (by decide +kernel)
theorem wd_1779 : Jvm.Cond.selects RX12 yX12_errorOf yX12_errorOf ∈ am_ok := am_wd 1779 (by decide +kernel) (by decide +kernel)
theorem wd_1190 : Jvm.Cond.methodLink RL 228 yL_heaviest ∈ am_ok := am_wd 1190 (by decide +kernel) (by decide +kernel)
theorem wd_1191 : Jvm.Cond.static yL_heaviest ∈ am_ok := am_wd 1191 (by decide +kernel) (by decide +kernel)
theorem wd_1781 : Jvm.Cond.methodLink RL 230 yX12_heaviest ∈ am_ok := am_wd 1781 (by decide +kernel) (by decide +kernel)
theorem wd_1782 : Jvm.Cond.instanceMethod yX12_heaviest ∈ am_ok := am_wd 1782 (by decide +kernel) (by decide +kernel)
theorem wd_1783 : Jvm.Cond.selects RX12 yX12_heaviest yX12_heaviest ∈ am_ok := am_wd 1783 (by decide +kernel) (by decide +kernel)
theorem wd_1206 : Jvm.Cond.methodLink RL 231 yL_commonest ∈ am_ok := am_wd 1206 (by decide +kernel) (by decide +kernel)
theorem wd_1207 : Jvm.Cond.static yL_commonest ∈ am_ok := am_wd 1207 (by decide +kernel) (by decide +kernel)
theorem wd_1785 : Jvm.Cond.methodLink RL 233 yX12_commonest ∈ am_ok := am_wd 1785 (by decide +kernel) (by decide +kernel)
theorem wd_1786 : Jvm.Cond.instanceMethod yX12_commonest ∈ am_ok := am_wd 1786 (by decide +kernel) (by decide +kernel)
theorem wd_1787 : Jvm.Cond.selects RX12 yX12_commonest yX12_commonest ∈ am_ok := am_wd 1787 (by decide +kernel) (by decide +kernel)
theorem wd_1219 : Jvm.Cond.methodLink RL 234 yL_send ∈ am_ok := am_wd 1219 (by decide +kernel) (by decide +kernel)
theorem wd_1220 : Jvm.Cond.static yL_send ∈ am_ok := am_wd 1220 (by decide +kernel) (by decide +kernel)
theorem wd_1789 : Jvm.Cond.methodLink RL 236 yX12_send ∈ am_ok := am_wd 1789 (by decide +kernel) (by decide +kernel)
theorem wd_1790 : Jvm.Cond.instanceMethod yX12_send ∈ am_ok := am_wd 1790 (by decide +kernel) (by decide +kernel)
theorem wd_1791 : Jvm.Cond.selects RX12 yX12_send yX12_send ∈ am_ok := am_wd 1791 (by decide +kernel) (by decide +kernel)
theorem wd_1267 : Jvm.Cond.methodLink RL 237 yL_join ∈ am_ok := am_wd 1267 (by decide +kernel) (by decide +kernel)
theorem wd_1268 : Jvm.Cond.static yL_join ∈ am_ok := am_wd 1268 (by decide +kernel) (by decide +kernel)
theorem wd_1809 : Jvm.Cond.methodLink RL 239 yX12_join ∈ am_ok := am_wd 1809 (by decide +kernel) (by decide +kernel)
theorem wd_1810 : Jvm.Cond.instanceMethod yX12_join ∈ am_ok := am_wd 1810 (by decide +kernel) (by decide +kernel)
theorem wd_1811 : Jvm.Cond.selects RX12 yX12_join yX12_join ∈ am_ok := am_wd 1811 (by decide +kernel) (by decide +kernel)
theorem wd_1274 : Jvm.Cond.methodLink RL 240 yL_shown ∈ am_ok := am_wd 1274 (by decide +kernel) (by decide +kernel)
theorem wd_1275 : Jvm.Cond.static yL_shown ∈ am_ok := am_wd 1275 (by decide +kernel) (by decide +kernel)
theorem wd_1813 : Jvm.Cond.methodLink RL 242 yX12_shown ∈ am_ok := am_wd 1813 (by decide +kernel) (by decide +kernel)
theorem wd_1814 : Jvm.Cond.instanceMethod yX12_shown ∈ am_ok := am_wd 1814 (by decide +kernel) (by decide +kernel)
theorem wd_1815 : Jvm.Cond.selects RX12 yX12_shown yX12_shown ∈ am_ok := am_wd 1815 (by decide +kernel) (by decide +kernel)
theorem wd_1286 : Jvm.Cond.methodLink RL 243 yL_shownAt ∈ am_ok := am_wd 1286 (by decide +kernel) (by decide +kernel)
theorem wd_1287 : Jvm.Cond.static yL_shownAt ∈ am_ok := am_wd 1287 (by decide +kernel) (by decide +kernel)
theorem wd_1821 : Jvm.Cond.methodLink RL 245 yX12_shownAt ∈ am_ok := am_wd 1821 (by decide +kernel) (by decide +kernel)
theorem wd_1822 : Jvm.Cond.instanceMethod yX12_shownAt ∈ am_ok := am_wd 1822 (by decide +kernel) (by decide +kernel)
theorem wd_1823 : Jvm.Cond.selects RX12 yX12_shownAt yX12_shownAt ∈ am_ok := am_wd 1823 (by decide +kernel) (by decide +kernel)
theorem wd_1293 : Jvm.Cond.methodLink RL 246 yL_isClean ∈ am_ok := am_wd 1293 (by decide +kernel) (by decide +kernel)
theorem wd_1294 : Jvm.Cond.static yL_isClean ∈ am_ok := am_wd 1294 (by decide +kernel) (by decide +kernel)
theorem wd_1825 : Jvm.Cond.methodLink RL 248 yX12_isClean ∈ am_ok := am_wd 1825 (by decide +kernel) (by decide +kernel)
theorem wd_1826 : Jvm.Cond.instanceMethod yX12_isClean ∈ am_ok := am_wd 1826 (by decide +kernel) (by decide +kernel)
theorem wd_1827 : Jvm.Cond.selects RX12 yX12_isClean yX12_isClean ∈ am_ok := am_wd 1827 (by decide +kernel) (by decide +kernel)
theorem wd_1300 : Jvm.Cond.methodLink RL 249 yL_drift ∈ am_ok := am_wd 1300 (by decide +kernel) (by decide +kernel)
theorem wd_1301 : Jvm.Cond.static yL_drift ∈ am_ok := am_wd 1301 (by decide +kernel) (by decide +kernel)
theorem wd_1829 : Jvm.Cond.methodLink RL 251 yX12_drift ∈ am_ok := am_wd 1829 (by decide +kernel) (by decide +kernel)
theorem wd_1830 : Jvm.Cond.instanceMethod yX12_drift ∈ am_ok := am_wd 1830 (by decide +kernel) (by decide +kernel)
theorem wd_1831 : Jvm.Cond.selects RX12 yX12_drift yX12_drift ∈ am_ok := am_wd 1831 (by decide +kernel) (by decide +kernel)
theorem wd_1307 : Jvm.Cond.methodLink RL 252 yL_meanBits ∈ am_ok := am_wd 1307 (by decide +kernel) (by decide +kernel)
theorem wd_1308 : Jvm.Cond.static yL_meanBits ∈ am_ok := am_wd 1308 (by decide +kernel) (by decide +kernel)
theorem wd_1833 : Jvm.Cond.methodLink RL 255 yX12_meanBits ∈ am_ok := am_wd 1833 (by decide +kernel) (by decide +kernel)
theorem wd_1834 : Jvm.Cond.instanceMethod yX12_meanBits ∈ am_ok := am_wd 1834 (by decide +kernel) (by decide +kernel)
theorem wd_1835 : Jvm.Cond.selects RX12 yX12_meanBits yX12_meanBits ∈ am_ok := am_wd 1835 (by decide +kernel) (by decide +kernel)
theorem wd_1330 : Jvm.Cond.methodLink RL 256 yL_cleanShare ∈ am_ok := am_wd 1330 (by decide +kernel) (by decide +kernel)
theorem wd_1331 : Jvm.Cond.static yL_cleanShare ∈ am_ok := am_wd 1331 (by decide +kernel) (by decide +kernel)
theorem wd_1837 : Jvm.Cond.methodLink RL 258 yX12_cleanShare ∈ am_ok := am_wd 1837 (by decide +kernel) (by decide +kernel)
theorem wd_1838 : Jvm.Cond.instanceMethod yX12_cleanShare ∈ am_ok := am_wd 1838 (by decide +kernel) (by decide +kernel)
theorem wd_1839 : Jvm.Cond.selects RX12 yX12_cleanShare yX12_cleanShare ∈ am_ok := am_wd 1839 (by decide +kernel) (by decide +kernel)
