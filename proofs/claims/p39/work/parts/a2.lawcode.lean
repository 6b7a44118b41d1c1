/-! ===== long methods: where their instructions stand ===== -/
theorem find_skip {a b : List am_E} {pc s : Nat} (h : (a.all fun e => Nat.blt e.1 s) = true) (hp : s ≤ pc) : (a ++ b).find? (fun e => e.1 == pc) = b.find? (fun e => e.1 == pc) := by
  rw [List.find?_append]
  have e : a.find? (fun e => e.1 == pc) = none := by
    rw [List.find?_eq_none]
    intro x hx q
    have q1 := Nat.blt_eq.mp (List.all_eq_true.mp h x hx)
    have q2 := beq_iff_eq.mp q
    omega
  rw [e]
  rfl
abbrev kt_law_10 : List am_E := k_L_law_10
abbrev kt_law_9 : List am_E := k_L_law_9 ++ kt_law_10
abbrev kt_law_8 : List am_E := k_L_law_8 ++ kt_law_9
abbrev kt_law_7 : List am_E := k_L_law_7 ++ kt_law_8
abbrev kt_law_6 : List am_E := k_L_law_6 ++ kt_law_7
abbrev kt_law_5 : List am_E := k_L_law_5 ++ kt_law_6
abbrev kt_law_4 : List am_E := k_L_law_4 ++ kt_law_5
abbrev kt_law_3 : List am_E := k_L_law_3 ++ kt_law_4
abbrev kt_law_2 : List am_E := k_L_law_2 ++ kt_law_3
abbrev kt_law_1 : List am_E := k_L_law_1 ++ kt_law_2
abbrev kt_law_0 : List am_E := k_L_law_0 ++ kt_law_1
theorem lk_law_0 {pc : Nat} : am_i m_L_law pc = kt_law_0.find? (fun e => e.1 == pc) := rfl
theorem lk_law_1 {pc : Nat} (hp : 125 ≤ pc) : am_i m_L_law pc = kt_law_1.find? (fun e => e.1 == pc) := lk_law_0.trans (find_skip (a := k_L_law_0) (b := kt_law_1) rfl hp)
theorem lk_law_2 {pc : Nat} (hp : 240 ≤ pc) : am_i m_L_law pc = kt_law_2.find? (fun e => e.1 == pc) := (lk_law_1 (Nat.le_trans (Nat.le_of_ble_eq_true rfl) hp)).trans (find_skip (a := k_L_law_1) (b := kt_law_2) rfl hp)
theorem lk_law_3 {pc : Nat} (hp : 352 ≤ pc) : am_i m_L_law pc = kt_law_3.find? (fun e => e.1 == pc) := (lk_law_2 (Nat.le_trans (Nat.le_of_ble_eq_true rfl) hp)).trans (find_skip (a := k_L_law_2) (b := kt_law_3) rfl hp)
theorem lk_law_4 {pc : Nat} (hp : 473 ≤ pc) : am_i m_L_law pc = kt_law_4.find? (fun e => e.1 == pc) := (lk_law_3 (Nat.le_trans (Nat.le_of_ble_eq_true rfl) hp)).trans (find_skip (a := k_L_law_3) (b := kt_law_4) rfl hp)
theorem lk_law_5 {pc : Nat} (hp : 554 ≤ pc) : am_i m_L_law pc = kt_law_5.find? (fun e => e.1 == pc) := (lk_law_4 (Nat.le_trans (Nat.le_of_ble_eq_true rfl) hp)).trans (find_skip (a := k_L_law_4) (b := kt_law_5) rfl hp)
theorem lk_law_6 {pc : Nat} (hp : 628 ≤ pc) : am_i m_L_law pc = kt_law_6.find? (fun e => e.1 == pc) := (lk_law_5 (Nat.le_trans (Nat.le_of_ble_eq_true rfl) hp)).trans (find_skip (a := k_L_law_5) (b := kt_law_6) rfl hp)
theorem lk_law_7 {pc : Nat} (hp : 714 ≤ pc) : am_i m_L_law pc = kt_law_7.find? (fun e => e.1 == pc) := (lk_law_6 (Nat.le_trans (Nat.le_of_ble_eq_true rfl) hp)).trans (find_skip (a := k_L_law_6) (b := kt_law_7) rfl hp)
theorem lk_law_8 {pc : Nat} (hp : 807 ≤ pc) : am_i m_L_law pc = kt_law_8.find? (fun e => e.1 == pc) := (lk_law_7 (Nat.le_trans (Nat.le_of_ble_eq_true rfl) hp)).trans (find_skip (a := k_L_law_7) (b := kt_law_8) rfl hp)
theorem lk_law_9 {pc : Nat} (hp : 933 ≤ pc) : am_i m_L_law pc = kt_law_9.find? (fun e => e.1 == pc) := (lk_law_8 (Nat.le_trans (Nat.le_of_ble_eq_true rfl) hp)).trans (find_skip (a := k_L_law_8) (b := kt_law_9) rfl hp)
theorem lk_law_10 {pc : Nat} (hp : 1057 ≤ pc) : am_i m_L_law pc = kt_law_10.find? (fun e => e.1 == pc) := (lk_law_9 (Nat.le_trans (Nat.le_of_ble_eq_true rfl) hp)).trans (find_skip (a := k_L_law_9) (b := kt_law_10) rfl hp)
abbrev kt_pts_5 : List am_E := k_L_paints_5
abbrev kt_pts_4 : List am_E := k_L_paints_4 ++ kt_pts_5
abbrev kt_pts_3 : List am_E := k_L_paints_3 ++ kt_pts_4
abbrev kt_pts_2 : List am_E := k_L_paints_2 ++ kt_pts_3
abbrev kt_pts_1 : List am_E := k_L_paints_1 ++ kt_pts_2
abbrev kt_pts_0 : List am_E := k_L_paints_0 ++ kt_pts_1
theorem lk_pts_0 {pc : Nat} : am_i m_L_paints pc = kt_pts_0.find? (fun e => e.1 == pc) := rfl
theorem lk_pts_1 {pc : Nat} (hp : 120 ≤ pc) : am_i m_L_paints pc = kt_pts_1.find? (fun e => e.1 == pc) := lk_pts_0.trans (find_skip (a := k_L_paints_0) (b := kt_pts_1) rfl hp)
theorem lk_pts_2 {pc : Nat} (hp : 222 ≤ pc) : am_i m_L_paints pc = kt_pts_2.find? (fun e => e.1 == pc) := (lk_pts_1 (Nat.le_trans (Nat.le_of_ble_eq_true rfl) hp)).trans (find_skip (a := k_L_paints_1) (b := kt_pts_2) rfl hp)
theorem lk_pts_3 {pc : Nat} (hp : 320 ≤ pc) : am_i m_L_paints pc = kt_pts_3.find? (fun e => e.1 == pc) := (lk_pts_2 (Nat.le_trans (Nat.le_of_ble_eq_true rfl) hp)).trans (find_skip (a := k_L_paints_2) (b := kt_pts_3) rfl hp)
theorem lk_pts_4 {pc : Nat} (hp : 414 ≤ pc) : am_i m_L_paints pc = kt_pts_4.find? (fun e => e.1 == pc) := (lk_pts_3 (Nat.le_trans (Nat.le_of_ble_eq_true rfl) hp)).trans (find_skip (a := k_L_paints_3) (b := kt_pts_4) rfl hp)
theorem lk_pts_5 {pc : Nat} (hp : 506 ≤ pc) : am_i m_L_paints pc = kt_pts_5.find? (fun e => e.1 == pc) := (lk_pts_4 (Nat.le_trans (Nat.le_of_ble_eq_true rfl) hp)).trans (find_skip (a := k_L_paints_4) (b := kt_pts_5) rfl hp)
section T2
variable {m pc pc1 len : Nat} {pl : List Nat} {kz : Int} {L st : List Value} {h : am_H}
theorem tq_dcmp2 {b : _} {x y : UInt64} (hi : am_i m pc = some (pc, .dcmp b, len, pl, kz)) (hp : pc + len = pc1) : rn m pc L (.double y :: .double x :: st) h = rn m pc1 L (.int (mI (Op.cmpValue (FP.dcmp x y) b).toInt) :: st) h := by
  rw [mI_toInt]
  exact tq_dcmp hi hp
end T2
