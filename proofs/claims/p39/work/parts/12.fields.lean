/-! ===== the classes ===== -/
set_option maxRecDepth 20000 in
theorem am_in_X0 : ∀ w ∈ u_ws RX0 TX0 3, w ∈ am_ok := by
  have h : (u_ws RX0 TX0 3).all (fun w => decide (w ∈ lw_tbl) && am_mv w) = true := by decide +kernel
  intro w hw
  have h1 := List.all_eq_true.mp h w hw
  simp only [Bool.and_eq_true, decide_eq_true_eq] at h1
  exact List.mem_filter.mpr h1
set_option maxRecDepth 20000 in
theorem am_in_X1 : ∀ w ∈ u_ws RX1 TX1 8, w ∈ am_ok := by
  have h : (u_ws RX1 TX1 8).all (fun w => decide (w ∈ lw_tbl) && am_mv w) = true := by decide +kernel
  intro w hw
  have h1 := List.all_eq_true.mp h w hw
  simp only [Bool.and_eq_true, decide_eq_true_eq] at h1
  exact List.mem_filter.mpr h1
set_option maxRecDepth 20000 in
theorem am_in_X2 : ∀ w ∈ u_ws RX2 TX2 2, w ∈ am_ok := by
  have h : (u_ws RX2 TX2 2).all (fun w => decide (w ∈ lw_tbl) && am_mv w) = true := by decide +kernel
  intro w hw
  have h1 := List.all_eq_true.mp h w hw
  simp only [Bool.and_eq_true, decide_eq_true_eq] at h1
  exact List.mem_filter.mpr h1
set_option maxRecDepth 20000 in
theorem am_in_X3 : ∀ w ∈ u_ws RX3 TX3 12, w ∈ am_ok := by
  have h : (u_ws RX3 TX3 12).all (fun w => decide (w ∈ lw_tbl) && am_mv w) = true := by decide +kernel
  intro w hw
  have h1 := List.all_eq_true.mp h w hw
  simp only [Bool.and_eq_true, decide_eq_true_eq] at h1
  exact List.mem_filter.mpr h1
set_option maxRecDepth 20000 in
theorem am_in_X4 : ∀ w ∈ u_ws RX4 TX4 1, w ∈ am_ok := by
  have h : (u_ws RX4 TX4 1).all (fun w => decide (w ∈ lw_tbl) && am_mv w) = true := by decide +kernel
  intro w hw
  have h1 := List.all_eq_true.mp h w hw
  simp only [Bool.and_eq_true, decide_eq_true_eq] at h1
  exact List.mem_filter.mpr h1
set_option maxRecDepth 20000 in
theorem am_in_X5 : ∀ w ∈ u_ws RX5 TX5 7, w ∈ am_ok := by
  have h : (u_ws RX5 TX5 7).all (fun w => decide (w ∈ lw_tbl) && am_mv w) = true := by decide +kernel
  intro w hw
  have h1 := List.all_eq_true.mp h w hw
  simp only [Bool.and_eq_true, decide_eq_true_eq] at h1
  exact List.mem_filter.mpr h1
set_option maxRecDepth 20000 in
theorem am_in_X6 : ∀ w ∈ u_ws RX6 TX6 16, w ∈ am_ok := by
  have h : (u_ws RX6 TX6 16).all (fun w => decide (w ∈ lw_tbl) && am_mv w) = true := by decide +kernel
  intro w hw
  have h1 := List.all_eq_true.mp h w hw
  simp only [Bool.and_eq_true, decide_eq_true_eq] at h1
  exact List.mem_filter.mpr h1
set_option maxRecDepth 20000 in
theorem am_in_X8 : ∀ w ∈ u_ws RX8 TX8 4, w ∈ am_ok := by
  have h : (u_ws RX8 TX8 4).all (fun w => decide (w ∈ lw_tbl) && am_mv w) = true := by decide +kernel
  intro w hw
  have h1 := List.all_eq_true.mp h w hw
  simp only [Bool.and_eq_true, decide_eq_true_eq] at h1
  exact List.mem_filter.mpr h1
set_option maxRecDepth 20000 in
theorem am_in_X10 : ∀ w ∈ u_ws RX10 TX10 5, w ∈ am_ok := by
  have h : (u_ws RX10 TX10 5).all (fun w => decide (w ∈ lw_tbl) && am_mv w) = true := by decide +kernel
  intro w hw
  have h1 := List.all_eq_true.mp h w hw
  simp only [Bool.and_eq_true, decide_eq_true_eq] at h1
  exact List.mem_filter.mpr h1
set_option maxRecDepth 20000 in
theorem am_in_X11 : ∀ w ∈ u_ws RX11 TX11 15, w ∈ am_ok := by
  have h : (u_ws RX11 TX11 15).all (fun w => decide (w ∈ lw_tbl) && am_mv w) = true := by decide +kernel
  intro w hw
  have h1 := List.all_eq_true.mp h w hw
  simp only [Bool.and_eq_true, decide_eq_true_eq] at h1
  exact List.mem_filter.mpr h1
/-- what the tables say of a class by its number -/
def am_cI (ci : Nat) (C : String) (T : u_T) (N : Nat) : Prop := (∀ w ∈ u_ws C T N, w ∈ am_ok) ∧ (∀ k, k < N → parseFieldDescriptor (T k).2.2.1 = some (am_ft ci k)) ∧ (∀ a, a < N → ∀ b, b < N → a ≠ b → (T a).2.1 ≠ (T b).2.1) ∧ N = am_nf ci
theorem am_cok {ci : Nat} {C : String} {T : u_T} {N : Nat} (h : am_cs[ci]? = some (C, T, N)) : am_cI ci C T N := by
  match ci, h with
  | 0, h => cases h; exact ⟨am_in_X0, tyX0_ok, nmX0, rfl⟩
  | 1, h => cases h; exact ⟨am_in_X1, tyX1_ok, nmX1, rfl⟩
  | 2, h => cases h; exact ⟨am_in_X2, tyX2_ok, nmX2, rfl⟩
  | 3, h => cases h; exact ⟨am_in_X3, tyX3_ok, nmX3, rfl⟩
  | 4, h => cases h; exact ⟨am_in_X4, tyX4_ok, nmX4, rfl⟩
  | 5, h => cases h; exact ⟨am_in_X5, tyX5_ok, nmX5, rfl⟩
  | 6, h => cases h; exact ⟨am_in_X6, tyX6_ok, nmX6, rfl⟩
  | 7, h => cases h; exact ⟨am_in_X8, tyX8_ok, nmX8, rfl⟩
  | 8, h => cases h; exact ⟨am_in_X10, tyX10_ok, nmX10, rfl⟩
  | 9, h => cases h; exact ⟨am_in_X11, tyX11_ok, nmX11, rfl⟩
  | n + 10, h => simp [am_cs] at h
section AGF
variable {A : Nat → Prop} {D : va_G} {ty : Nat → ClassId} {a0 a1 N : Nat} {xs : Int → Int32} {p : Program} {l : Launch} {e : Env} {R : Room} {s : State} {m : MethodId} {args : Array Value} {below : List Frame} {meth : Method} {c : Code} {mi : Nat} {adb : Nat → Nat} {nb c0 s0 : Nat} {Q : State → Prop}
variable {pc : Nat} {L st : List Value} {h : am_H}

theorem am_fl_get {ad : Nat → Nat} {ci k : Nat} {fs : Nat → Value} (hk : k < am_nf ci) : (am_fl ad ci fs)[k]? = some (am_cv ad (fs k)) := by
  simp only [am_fl, List.getElem?_map]
  rw [List.getElem?_range hk]
  rfl
theorem am_fl_set {ad : Nat → Nat} {ci k : Nat} {fs : Nat → Value} {v : Value} (hk : k < am_nf ci) : (am_fl ad ci fs).set k (am_cv ad v) = am_fl ad ci (am_fu fs k v) := by
  apply List.ext_getElem?
  intro i
  rw [List.getElem?_set]
  simp only [am_fl, List.getElem?_map, List.length_map, List.length_range]
  by_cases hi : i < am_nf ci
  · rw [List.getElem?_range hi]
    simp only [Option.map_some, am_fu]
    by_cases e : k = i
    · rw [if_pos e, if_pos (by omega), if_pos e.symm]
    · rw [if_neg e, if_neg (fun z => e z.symm)]
  · rw [List.getElem?_eq_none (by simpa using Nat.not_lt.mp hi)]
    rw [if_neg (by omega)]
    rfl
theorem am_ok_fit {ty : FieldType} {v : Value} (ad : Nat → Nat) (h : am_okV ty v = true) : narrow ty (am_cv ad v) = am_cv ad v ∧ fits ty (am_cv ad v) = true := by
  match ty, v, h with
  | .int, .int x, _ => exact ⟨rfl, rfl⟩
  | .boolean, .int x, h =>
    simp only [am_okV, Bool.or_eq_true, decide_eq_true_eq] at h
    rcases h with rfl | rfl
    · exact ⟨rfl, rfl⟩
    · exact ⟨rfl, rfl⟩
  | .char, .int x, h =>
    simp only [am_okV, Bool.and_eq_true, decide_eq_true_eq] at h
    have e : x = nI x.toInt.toNat := by
      apply Int32.toInt_inj.mp
      rw [nI_toInt (by omega)]
      omega
    have q := pk_charN (q := x.toInt.toNat) (by omega)
    rw [← e] at q
    exact q
  | .long, .long x, _ => exact ⟨rfl, rfl⟩
  | .float, .float x, _ => exact ⟨rfl, rfl⟩
  | .double, .double x, _ => exact ⟨rfl, rfl⟩
  | .object _, .ref _, _ => exact ⟨rfl, rfl⟩
  | .object _, .null, _ => exact ⟨rfl, rfl⟩
  | .array _, .ref _, _ => exact ⟨rfl, rfl⟩
  | .array _, .null, _ => exact ⟨rfl, rfl⟩
theorem am_fu_vo {n : Nat} {fs : Nat → Value} (h : ∀ k, am_vo n (fs k)) {k : Nat} {v : Value} (hv : am_vo n v) : ∀ j, am_vo n (am_fu fs k v j) := by
  intro j
  unfold am_fu
  by_cases e : j = k
  · rw [if_pos e]; exact hv
  · rw [if_neg e]; exact h j
theorem sg_getf (B : am_B A D ty a0 a1 N xs p l R s m args meth c mi) {a ci k ix : Nat} {C : String} {T : u_T} {NF : Nat} {fs : Nat → Value}  (hci : am_cs[ci]? = some (C, T, NF)) (hkN : k < NF) (hw : Jvm.Cond.fieldLink (am_o mi) ix (T k).1 (T k).2.1 (T k).2.2.1 ∈ am_ok) (hc : hget h a = some (.inr (ci, fs))) (hd : decode (am_b mi) pc = .ok (.getfield ix, 3)) (k' : am_Go A D ty a0 a1 N xs p l e R s m args below meth c mi adb nb c0 s0 Q (pc + 3) L (fs k :: st) h) : am_Go A D ty a0 a1 N xs p l e R s m args below meth c mi adb nb c0 s0 Q pc L (.ref a :: st) h := by
  intro ad H locs ls hag h1 h2 h3 r
  obtain ⟨g1, g2, g3, g4⟩ := am_cok hci
  obtain ⟨hlt, hws, -⟩ := r.1.at hc (r.1.bigO hc)
  refine va_get B.ex B.by B.hts g1 B.own B.K r.1.2.2.2.2.2.2.1 (a - 2) hws hci k hkN (B.hts _ hw) (fun x hx => hx) (am_fl_get (by rw [← g4]; exact hkN)) hd ?_
  exact k' ad H locs ls hag h1 h2 h3 (r.stk (vo_c (r.1.2.2.2.1 a _ hc k) (vo_t r.2.2.2.2.2)))
theorem sg_getfN (B : am_B A D ty a0 a1 N xs p l R s m args meth c mi) {a ci k ix : Nat} {C : String} {T : u_T} {NF : Nat} {fs : Nat → Value} {host : String} (hci : am_cs[ci]? = some (C, T, NF)) (hkN : k < NF) (hw : Jvm.Cond.fieldLinkNest (am_o mi) ix (T k).1 (T k).2.1 (T k).2.2.1 host ∈ am_ok) (hc : hget h a = some (.inr (ci, fs))) (hd : decode (am_b mi) pc = .ok (.getfield ix, 3)) (k' : am_Go A D ty a0 a1 N xs p l e R s m args below meth c mi adb nb c0 s0 Q (pc + 3) L (fs k :: st) h) : am_Go A D ty a0 a1 N xs p l e R s m args below meth c mi adb nb c0 s0 Q pc L (.ref a :: st) h := by
  intro ad H locs ls hag h1 h2 h3 r
  obtain ⟨g1, g2, g3, g4⟩ := am_cok hci
  obtain ⟨hlt, hws, -⟩ := r.1.at hc (r.1.bigO hc)
  refine va_getN B.ex B.by B.hts g1 B.own B.K r.1.2.2.2.2.2.2.1 (a - 2) hws hci k hkN (B.hts _ hw) (fun x hx => hx) (am_fl_get (by rw [← g4]; exact hkN)) hd ?_
  exact k' ad H locs ls hag h1 h2 h3 (r.stk (vo_c (r.1.2.2.2.1 a _ hc k) (vo_t r.2.2.2.2.2)))
theorem sg_putf (B : am_B A D ty a0 a1 N xs p l R s m args meth c mi) {a ci k ix : Nat} {C : String} {T : u_T} {NF : Nat} {fs : Nat → Value} {v : Value}  (hci : am_cs[ci]? = some (C, T, NF)) (hkN : k < NF) (hw : Jvm.Cond.fieldLink (am_o mi) ix (T k).1 (T k).2.1 (T k).2.2.1 ∈ am_ok) (hfin : (T k).2.2.2 = false)  (hc : hget h a = some (.inr (ci, fs))) (hv : am_okV (am_ft ci k) v = true) (hd : decode (am_b mi) pc = .ok (.putfield ix, 3)) (k' : am_Go A D ty a0 a1 N xs p l e R s m args below meth c mi adb nb c0 s0 Q (pc + 3) L st (hset h a (.inr (ci, am_fu fs k v)))) : am_Go A D ty a0 a1 N xs p l e R s m args below meth c mi adb nb c0 s0 Q pc L (v :: .ref a :: st) h := by
  intro ad H locs ls hag h1 h2 h3 r
  obtain ⟨g1, g2, g3, g4⟩ := am_cok hci
  have hb := r.1.bigO hc
  obtain ⟨hlt, hws, -⟩ := r.1.at hc hb
  have hkn : k < am_nf ci := by rw [← g4]; exact hkN
  obtain ⟨f1, f2⟩ := am_ok_fit ad hv
  refine va_put B.ex B.by B.hts g1 (am_ft ci) g2 g3 B.own B.K r.1.2.2.2.2.2.2.1 r.1.2.2.2.2.2.2.2 r.2.1 (a - 2) hws hci k hkN (B.hts _ hw) (fun x hx => hx) hfin (g2 k hkN) f1 f2 (by simp only [am_fl, List.length_map, List.length_range]; exact hkn) hd (fun H1 locs1 hP hD hS => ?_)
  rw [am_fl_set hkn] at hP hD
  exact k' ad H1 locs1 ls hag h1 h2 h3 (r.wr hb hlt (cc := .inr (ci, am_fu fs k v)) (am_fu_vo (r.1.2.2.2.1 a _ hc) (vo_h r.2.2.2.2.2)) trivial (vo_t (vo_t r.2.2.2.2.2)) hP hD hS)
theorem sg_putfN (B : am_B A D ty a0 a1 N xs p l R s m args meth c mi) {a ci k ix : Nat} {C : String} {T : u_T} {NF : Nat} {fs : Nat → Value} {v : Value} {host : String} (hci : am_cs[ci]? = some (C, T, NF)) (hkN : k < NF) (hw : Jvm.Cond.fieldLinkNest (am_o mi) ix (T k).1 (T k).2.1 (T k).2.2.1 host ∈ am_ok) (hfin : (T k).2.2.2 = false)  (hc : hget h a = some (.inr (ci, fs))) (hv : am_okV (am_ft ci k) v = true) (hd : decode (am_b mi) pc = .ok (.putfield ix, 3)) (k' : am_Go A D ty a0 a1 N xs p l e R s m args below meth c mi adb nb c0 s0 Q (pc + 3) L st (hset h a (.inr (ci, am_fu fs k v)))) : am_Go A D ty a0 a1 N xs p l e R s m args below meth c mi adb nb c0 s0 Q pc L (v :: .ref a :: st) h := by
  intro ad H locs ls hag h1 h2 h3 r
  obtain ⟨g1, g2, g3, g4⟩ := am_cok hci
  have hb := r.1.bigO hc
  obtain ⟨hlt, hws, -⟩ := r.1.at hc hb
  have hkn : k < am_nf ci := by rw [← g4]; exact hkN
  obtain ⟨f1, f2⟩ := am_ok_fit ad hv
  refine va_putN B.ex B.by B.hts g1 (am_ft ci) g2 g3 B.own B.K r.1.2.2.2.2.2.2.1 r.1.2.2.2.2.2.2.2 r.2.1 (a - 2) hws hci k hkN (B.hts _ hw) (fun x hx => hx) hfin (g2 k hkN) f1 f2 (by simp only [am_fl, List.length_map, List.length_range]; exact hkn) hd (fun H1 locs1 hP hD hS => ?_)
  rw [am_fl_set hkn] at hP hD
  exact k' ad H1 locs1 ls hag h1 h2 h3 (r.wr hb hlt (cc := .inr (ci, am_fu fs k v)) (am_fu_vo (r.1.2.2.2.1 a _ hc) (vo_h r.2.2.2.2.2)) trivial (vo_t (vo_t r.2.2.2.2.2)) hP hD hS)
theorem sg_putfF (B : am_B A D ty a0 a1 N xs p l R s m args meth c mi) {a ci k ix : Nat} {C : String} {T : u_T} {NF : Nat} {fs : Nat → Value} {v : Value}  (hci : am_cs[ci]? = some (C, T, NF)) (hkN : k < NF) (hw : Jvm.Cond.fieldLink (am_o mi) ix (T k).1 (T k).2.1 (T k).2.2.1 ∈ am_ok) (hfin : (T k).2.2.2 = true) (hlaw : mi ≠ m_L_law) (hinit : (am_y mi).name = "<init>") (hdecl : (T k).1 = am_o mi) (hc : hget h a = some (.inr (ci, fs))) (hv : am_okV (am_ft ci k) v = true) (hd : decode (am_b mi) pc = .ok (.putfield ix, 3)) (k' : am_Go A D ty a0 a1 N xs p l e R s m args below meth c mi adb nb c0 s0 Q (pc + 3) L st (hset h a (.inr (ci, am_fu fs k v)))) : am_Go A D ty a0 a1 N xs p l e R s m args below meth c mi adb nb c0 s0 Q pc L (v :: .ref a :: st) h := by
  intro ad H locs ls hag h1 h2 h3 r
  obtain ⟨g1, g2, g3, g4⟩ := am_cok hci
  have hb := r.1.bigO hc
  obtain ⟨hlt, hws, -⟩ := r.1.at hc hb
  have hkn : k < am_nf ci := by rw [← g4]; exact hkN
  obtain ⟨f1, f2⟩ := am_ok_fit ad hv
  refine va_putF B.ex B.by B.hts g1 (am_ft ci) g2 g3 B.own B.K r.1.2.2.2.2.2.2.1 r.1.2.2.2.2.2.2.2 r.2.1 (a - 2) hws hci k hkN (B.hts _ hw) (fun x hx => hx) hfin (by rw [(B.2.2.2.2.2.2.1 hlaw).1, hinit]) hdecl (g2 k hkN) f1 f2 (by simp only [am_fl, List.length_map, List.length_range]; exact hkn) hd (fun H1 locs1 hP hD hS => ?_)
  rw [am_fl_set hkn] at hP hD
  exact k' ad H1 locs1 ls hag h1 h2 h3 (r.wr hb hlt (cc := .inr (ci, am_fu fs k v)) (am_fu_vo (r.1.2.2.2.1 a _ hc) (vo_h r.2.2.2.2.2)) trivial (vo_t (vo_t r.2.2.2.2.2)) hP hD hS)
/-- a frame's state after a cell is made at q -/
theorem am_RS.alc {ad : Nat → Nat} {H H1 : Heap} {locs : List Loc} {ls : Array Slot} {q n : Nat} {cc : am_C} {st' : List Value} (r : am_RS A D ty a0 a1 N xs s mi L st h ad H locs ls) (hc : am_co (hnx h) cc) (hd : am_kd cc) (hst : ∀ v ∈ st', am_vo (hnx h) v)
    (hP : va_P D am_cs (am_ws ad ty h ++ [(q, am_ce ad ty cc)]) H1) (hD : va_D A (am_ws ad ty h ++ [(q, am_ce ad ty cc)])) (hS : va_S A s.heap H1 locs) :
    ∃ ad' : Nat → Nat, (∀ k, k < hnx h → ad' k = ad k) ∧ am_RS A D ty a0 a1 N xs s mi L (.ref (hnx h) :: st') (halc h n cc) ad' H1 locs ls ∧ (Value.ref (hnx h) :: st').map (am_cv ad') = .ref q :: st'.map (am_cv ad) := by
  have hag : ∀ k, k < hnx h → (fun k => if k = hnx h then q else ad k) k = ad k := fun k hk => if_neg (by omega)
  have hq : (fun k => if k = hnx h then q else ad k) (hnx h) = q := if_pos rfl
  generalize (fun k => if k = hnx h then q else ad k) = ad' at hag hq
  refine ⟨ad', hag, ⟨r.1.alc hag hc hd (by rw [hq]; exact hP) (by rw [hq]; exact hD), hS, ?_, r.2.2.2.1, fun v hv => (r.2.2.2.2.1 v hv).le (by rw [hnx_alc]; exact Nat.le_succ _), vo_c (by rw [hnx_alc]; exact Nat.lt_succ_self _) (fun v hv => (hst v hv).le (by rw [hnx_alc]; exact Nat.le_succ _))⟩, ?_⟩
  · obtain ⟨lv, h1, h2⟩ := r.2.2.1
    exact ⟨lv, h1, h2.ag hag r.2.2.2.2.1⟩
  · rw [List.map_cons]
    have e1 : am_cv ad' (.ref (hnx h)) = .ref q := by simp only [am_cv]; rw [hq]
    have e2 : st'.map (am_cv ad') = st'.map (am_cv ad) := List.map_congr_left (fun v hv => am_cv_ag hag (hst v hv))
    rw [e1, e2]
theorem am_cv_dflt (ad : Nat → Nat) (t : FieldType) : am_cv ad (defaultValue t) = defaultValue t := by cases t <;> rfl
theorem am_vo_dflt (n : Nat) (t : FieldType) : am_vo n (defaultValue t) := by cases t <;> trivial
theorem sg_new (B : am_B A D ty a0 a1 N xs p l R s m args meth c mi) {ci ix : Nat} {C : String} {T : u_T} {NF : Nat} (hci : am_cs[ci]? = some (C, T, NF)) (hw : Jvm.Cond.classLink (am_o mi) ix C ∈ am_ok) (hw2 : Jvm.Cond.instantiable C NF ∈ am_ok) (hw3 : Jvm.Cond.initialized C ∈ am_ok) (hd : decode (am_b mi) pc = .ok (.new ix, 3)) (hrc : hcl h + 1 ≤ c0 + R.cells) (hrs : hsl h + NF ≤ s0 + R.slots)
    (k : am_Go A D ty a0 a1 N xs p l e R s m args below meth c mi adb nb c0 s0 Q (pc + 3) L (.ref (hnx h) :: st) (halc h (am_nf ci) (.inr (ci, fun k => defaultValue (am_ft ci k))))) : am_Go A D ty a0 a1 N xs p l e R s m args below meth c mi adb nb c0 s0 Q pc L st h := by
  intro ad H locs ls hag h1 h2 h3 r
  obtain ⟨g1, g2, g3, g4⟩ := am_cok hci
  refine va_new (fs := am_fl ad ci fun k => defaultValue (am_ft ci k)) B.ex B.by B.hts g1 (am_ft ci) g2 B.own (B.hts _ hw) (B.hts _ hw2) (B.hts _ hw3) B.K r.1.2.2.2.2.2.2.1 r.1.2.2.2.2.2.2.2 r.2.1 B.hA hci (fun j hj => ?_) (by omega) (by omega) hd (fun q H1 hP hD hS => ?_)
  · unfold vp_V
    rw [List.getD_eq_getElem?_getD, am_fl_get (by rw [← g4]; exact hj), am_cv_dflt]
    rfl
  · obtain ⟨ad', hag', r', e⟩ := r.alc (n := am_nf ci) (cc := .inr (ci, fun k => defaultValue (am_ft ci k))) (fun k => am_vo_dflt _ _) trivial r.2.2.2.2.2 hP hD hS
    have k' := k ad' H1 locs ls (fun k hk => (hag' k (by omega)).trans (hag k hk)) (by rw [hnx_alc]; omega) (by rw [hcl_alc]; omega) (by rw [hsl_alc]; omega) r'
    rw [e] at k'
    refine W.cs (by rw [hcl_alc]; omega) (by rw [hsl_alc, ← g4]; omega) k'
theorem am_tys_one {t : Nat} {T : FieldType} {cA : ClassId} (B : am_B A D ty a0 a1 N xs p l R s m args meth c mi) (ht : (am_tys ty)[t]? = some (ty t, T)) (hp : ∀ C, T ≠ .object C) (hK : va_K D am_cs (am_tys ty ++ [(cA, T)]) s) : cA = ty t := by
  have h1 := (B.K.2 t _ ht).2
  have h2 := (hK.2 6 (cA, T) rfl).2
  cases T with
  | object C => exact absurd rfl (hp C)
  | _ => exact Option.some.inj (h2.symm.trans h1)
theorem sg_newa_int (B : am_B A D ty a0 a1 N xs p l R s m args meth c mi) {x : Int32} (hw : Jvm.Cond.arrayClass .int ∈ am_ok) (hx0 : 0 ≤ x.toInt) (hx1 : x.toInt ≤ 65536) (hd : decode (am_b mi) pc = .ok (.newarray .int, 2)) (hrc : hcl h + 1 ≤ c0 + R.cells) (hrs : hsl h + x.toInt.toNat ≤ s0 + R.slots)
    (k : am_Go A D ty a0 a1 N xs p l e R s m args below meth c mi adb nb c0 s0 Q (pc + 2) L (.ref (hnx h) :: st) (halc h x.toInt.toNat (.inl (0, x.toInt.toNat, .inl fun _ => 0)))) : am_Go A D ty a0 a1 N xs p l e R s m args below meth c mi adb nb c0 s0 Q pc L (.int x :: st) h := by
  intro ad H locs ls hag h1 h2 h3 r
  have hst := vo_t r.2.2.2.2.2
  have e8 : componentBytes .int ≤ 8 := by decide
  have hby : x.toInt.toNat * componentBytes .int ≤ 536870912 := Nat.le_trans (Nat.mul_le_mul_left _ e8) (by omega)
  refine va_newa (atype := .int) (ty := .int) (a0 := am_ct ad x.toInt.toNat (.inl fun _ => 0)) (N' := x.toInt.toNat) B.ex B.by (B.hts _ hw) rfl B.K r.1.2.2.2.2.2.2.1 r.1.2.2.2.2.2.2.2 r.2.1 B.hA (fun cA => rfl) (by rw [Int32.lt_iff_toInt_lt, Int32.toInt_zero]; omega) rfl hby (by omega) (by omega) hd (fun q cA H1 hK hP hD hS => ?_)
  have hcA := am_tys_one (t := 0) B rfl (fun C h => by cases h) hK
  subst hcA
  obtain ⟨ad', hag', r', e⟩ := r.alc (n := x.toInt.toNat) (cc := .inl (0, x.toInt.toNat, .inl fun _ => 0)) trivial (by simp [am_kd]) hst hP hD hS
  have k' := k ad' H1 locs ls (fun k hk => (hag' k (by omega)).trans (hag k hk)) (by rw [hnx_alc]; omega) (by rw [hcl_alc]; omega) (by rw [hsl_alc]; omega) r'
  rw [e] at k'
  refine W.cs (by rw [hcl_alc]; omega) (by rw [hsl_alc]; omega) k'
end AGF
