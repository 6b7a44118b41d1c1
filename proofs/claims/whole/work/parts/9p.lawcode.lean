/-! ===== the law: where its instructions stand ===== -/
theorem find_skip {a b : List am_E} {pc s : Nat} (h : (a.all fun e => Nat.blt e.1 s) = true) (hp : s ≤ pc) : (a ++ b).find? (fun e => e.1 == pc) = b.find? (fun e => e.1 == pc) := by
  rw [List.find?_append]
  have e : a.find? (fun e => e.1 == pc) = none := by
    rw [List.find?_eq_none]
    intro x hx q
    have q1 := Nat.blt_eq.mp (List.all_eq_true.mp h x hx)
    have q2 := beq_iff_eq.mp q
    omega
  rw [e]
  rfl
abbrev kt_23 : List am_E := k_L_law_23
abbrev kt_22 : List am_E := k_L_law_22 ++ kt_23
abbrev kt_21 : List am_E := k_L_law_21 ++ kt_22
abbrev kt_20 : List am_E := k_L_law_20 ++ kt_21
abbrev kt_19 : List am_E := k_L_law_19 ++ kt_20
abbrev kt_18 : List am_E := k_L_law_18 ++ kt_19
abbrev kt_17 : List am_E := k_L_law_17 ++ kt_18
abbrev kt_16 : List am_E := k_L_law_16 ++ kt_17
abbrev kt_15 : List am_E := k_L_law_15 ++ kt_16
abbrev kt_14 : List am_E := k_L_law_14 ++ kt_15
abbrev kt_13 : List am_E := k_L_law_13 ++ kt_14
abbrev kt_12 : List am_E := k_L_law_12 ++ kt_13
abbrev kt_11 : List am_E := k_L_law_11 ++ kt_12
abbrev kt_10 : List am_E := k_L_law_10 ++ kt_11
abbrev kt_9 : List am_E := k_L_law_9 ++ kt_10
abbrev kt_8 : List am_E := k_L_law_8 ++ kt_9
abbrev kt_7 : List am_E := k_L_law_7 ++ kt_8
abbrev kt_6 : List am_E := k_L_law_6 ++ kt_7
abbrev kt_5 : List am_E := k_L_law_5 ++ kt_6
abbrev kt_4 : List am_E := k_L_law_4 ++ kt_5
abbrev kt_3 : List am_E := k_L_law_3 ++ kt_4
abbrev kt_2 : List am_E := k_L_law_2 ++ kt_3
abbrev kt_1 : List am_E := k_L_law_1 ++ kt_2
abbrev kt_0 : List am_E := k_L_law_0 ++ kt_1
theorem lk_0 {pc : Nat} : am_i m_L_law pc = kt_0.find? (fun e => e.1 == pc) := rfl
theorem lk_1 {pc : Nat} (hp : 245 ≤ pc) : am_i m_L_law pc = kt_1.find? (fun e => e.1 == pc) := lk_0.trans (find_skip (a := k_L_law_0) (b := kt_1) rfl hp)
theorem lk_2 {pc : Nat} (hp : 328 ≤ pc) : am_i m_L_law pc = kt_2.find? (fun e => e.1 == pc) := (lk_1 (Nat.le_trans (Nat.le_of_ble_eq_true rfl) hp)).trans (find_skip (a := k_L_law_1) (b := kt_2) rfl hp)
theorem lk_3 {pc : Nat} (hp : 417 ≤ pc) : am_i m_L_law pc = kt_3.find? (fun e => e.1 == pc) := (lk_2 (Nat.le_trans (Nat.le_of_ble_eq_true rfl) hp)).trans (find_skip (a := k_L_law_2) (b := kt_3) rfl hp)
theorem lk_4 {pc : Nat} (hp : 511 ≤ pc) : am_i m_L_law pc = kt_4.find? (fun e => e.1 == pc) := (lk_3 (Nat.le_trans (Nat.le_of_ble_eq_true rfl) hp)).trans (find_skip (a := k_L_law_3) (b := kt_4) rfl hp)
theorem lk_5 {pc : Nat} (hp : 600 ≤ pc) : am_i m_L_law pc = kt_5.find? (fun e => e.1 == pc) := (lk_4 (Nat.le_trans (Nat.le_of_ble_eq_true rfl) hp)).trans (find_skip (a := k_L_law_4) (b := kt_5) rfl hp)
theorem lk_6 {pc : Nat} (hp : 699 ≤ pc) : am_i m_L_law pc = kt_6.find? (fun e => e.1 == pc) := (lk_5 (Nat.le_trans (Nat.le_of_ble_eq_true rfl) hp)).trans (find_skip (a := k_L_law_5) (b := kt_6) rfl hp)
theorem lk_7 {pc : Nat} (hp : 796 ≤ pc) : am_i m_L_law pc = kt_7.find? (fun e => e.1 == pc) := (lk_6 (Nat.le_trans (Nat.le_of_ble_eq_true rfl) hp)).trans (find_skip (a := k_L_law_6) (b := kt_7) rfl hp)
theorem lk_8 {pc : Nat} (hp : 883 ≤ pc) : am_i m_L_law pc = kt_8.find? (fun e => e.1 == pc) := (lk_7 (Nat.le_trans (Nat.le_of_ble_eq_true rfl) hp)).trans (find_skip (a := k_L_law_7) (b := kt_8) rfl hp)
theorem lk_9 {pc : Nat} (hp : 978 ≤ pc) : am_i m_L_law pc = kt_9.find? (fun e => e.1 == pc) := (lk_8 (Nat.le_trans (Nat.le_of_ble_eq_true rfl) hp)).trans (find_skip (a := k_L_law_8) (b := kt_9) rfl hp)
theorem lk_10 {pc : Nat} (hp : 1080 ≤ pc) : am_i m_L_law pc = kt_10.find? (fun e => e.1 == pc) := (lk_9 (Nat.le_trans (Nat.le_of_ble_eq_true rfl) hp)).trans (find_skip (a := k_L_law_9) (b := kt_10) rfl hp)
theorem lk_11 {pc : Nat} (hp : 1175 ≤ pc) : am_i m_L_law pc = kt_11.find? (fun e => e.1 == pc) := (lk_10 (Nat.le_trans (Nat.le_of_ble_eq_true rfl) hp)).trans (find_skip (a := k_L_law_10) (b := kt_11) rfl hp)
theorem lk_12 {pc : Nat} (hp : 1267 ≤ pc) : am_i m_L_law pc = kt_12.find? (fun e => e.1 == pc) := (lk_11 (Nat.le_trans (Nat.le_of_ble_eq_true rfl) hp)).trans (find_skip (a := k_L_law_11) (b := kt_12) rfl hp)
theorem lk_13 {pc : Nat} (hp : 1355 ≤ pc) : am_i m_L_law pc = kt_13.find? (fun e => e.1 == pc) := (lk_12 (Nat.le_trans (Nat.le_of_ble_eq_true rfl) hp)).trans (find_skip (a := k_L_law_12) (b := kt_13) rfl hp)
theorem lk_14 {pc : Nat} (hp : 1441 ≤ pc) : am_i m_L_law pc = kt_14.find? (fun e => e.1 == pc) := (lk_13 (Nat.le_trans (Nat.le_of_ble_eq_true rfl) hp)).trans (find_skip (a := k_L_law_13) (b := kt_14) rfl hp)
theorem lk_15 {pc : Nat} (hp : 1527 ≤ pc) : am_i m_L_law pc = kt_15.find? (fun e => e.1 == pc) := (lk_14 (Nat.le_trans (Nat.le_of_ble_eq_true rfl) hp)).trans (find_skip (a := k_L_law_14) (b := kt_15) rfl hp)
theorem lk_16 {pc : Nat} (hp : 1619 ≤ pc) : am_i m_L_law pc = kt_16.find? (fun e => e.1 == pc) := (lk_15 (Nat.le_trans (Nat.le_of_ble_eq_true rfl) hp)).trans (find_skip (a := k_L_law_15) (b := kt_16) rfl hp)
theorem lk_17 {pc : Nat} (hp : 1705 ≤ pc) : am_i m_L_law pc = kt_17.find? (fun e => e.1 == pc) := (lk_16 (Nat.le_trans (Nat.le_of_ble_eq_true rfl) hp)).trans (find_skip (a := k_L_law_16) (b := kt_17) rfl hp)
theorem lk_18 {pc : Nat} (hp : 1793 ≤ pc) : am_i m_L_law pc = kt_18.find? (fun e => e.1 == pc) := (lk_17 (Nat.le_trans (Nat.le_of_ble_eq_true rfl) hp)).trans (find_skip (a := k_L_law_17) (b := kt_18) rfl hp)
theorem lk_19 {pc : Nat} (hp : 1891 ≤ pc) : am_i m_L_law pc = kt_19.find? (fun e => e.1 == pc) := (lk_18 (Nat.le_trans (Nat.le_of_ble_eq_true rfl) hp)).trans (find_skip (a := k_L_law_18) (b := kt_19) rfl hp)
theorem lk_20 {pc : Nat} (hp : 1991 ≤ pc) : am_i m_L_law pc = kt_20.find? (fun e => e.1 == pc) := (lk_19 (Nat.le_trans (Nat.le_of_ble_eq_true rfl) hp)).trans (find_skip (a := k_L_law_19) (b := kt_20) rfl hp)
theorem lk_21 {pc : Nat} (hp : 2091 ≤ pc) : am_i m_L_law pc = kt_21.find? (fun e => e.1 == pc) := (lk_20 (Nat.le_trans (Nat.le_of_ble_eq_true rfl) hp)).trans (find_skip (a := k_L_law_20) (b := kt_21) rfl hp)
theorem lk_22 {pc : Nat} (hp : 2188 ≤ pc) : am_i m_L_law pc = kt_22.find? (fun e => e.1 == pc) := (lk_21 (Nat.le_trans (Nat.le_of_ble_eq_true rfl) hp)).trans (find_skip (a := k_L_law_21) (b := kt_22) rfl hp)
theorem lk_23 {pc : Nat} (hp : 2296 ≤ pc) : am_i m_L_law pc = kt_23.find? (fun e => e.1 == pc) := (lk_22 (Nat.le_trans (Nat.le_of_ble_eq_true rfl) hp)).trans (find_skip (a := k_L_law_22) (b := kt_23) rfl hp)
section T2
variable {m pc pc1 len : Nat} {pl : List Nat} {kz : Int} {L st : List Value} {h : am_H}
theorem tq_dcmp2 {b : _} {x y : UInt64} (hi : am_i m pc = some (pc, .dcmp b, len, pl, kz)) (hp : pc + len = pc1) : rn m pc L (.double y :: .double x :: st) h = rn m pc1 L (.int (mI (Op.cmpValue (FP.dcmp x y) b).toInt) :: st) h := by
  rw [mI_toInt]
  exact tq_dcmp hi hp
theorem tq_fcmp2 {b : _} {x y : UInt32} (hi : am_i m pc = some (pc, .fcmp b, len, pl, kz)) (hp : pc + len = pc1) : rn m pc L (.float y :: .float x :: st) h = rn m pc1 L (.int (mI (Op.cmpValue (FP.fcmp x y) b).toInt) :: st) h := by
  rw [mI_toInt]
  exact tq_fcmp hi hp
end T2
