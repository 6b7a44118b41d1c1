/-! ===== small facts for the blocks ===== -/
theorem pow31 {k : Nat} (hk : k ≤ 31) : (0 : Int) < 2 ^ k ∧ (2 : Int) ^ k ≤ 2147483648 := by
  have hp : (2:Int) ^ k ≤ 2 ^ 31 := by exact_mod_cast Nat.pow_le_pow_right (by decide) hk
  have e31 : (2:Int) ^ 31 = 2147483648 := by decide
  exact ⟨Int.pow_pos (by decide), by omega⟩
theorem pow63 {k : Nat} (hk : k ≤ 63) : (0 : Int) < 2 ^ k ∧ (2 : Int) ^ k ≤ 9223372036854775808 := by
  have hp : (2:Int) ^ k ≤ 2 ^ 63 := by exact_mod_cast Nat.pow_le_pow_right (by decide) hk
  have e31 : (2:Int) ^ 63 = 9223372036854775808 := by decide
  exact ⟨Int.pow_pos (by decide), by omega⟩
theorem wr_mask {x : Int} {k : Nat} (hk : k ≤ 31) : wr (x % 2 ^ k) = x % 2 ^ k := by
  have hp := pow31 hk
  have h0 := Int.emod_nonneg x (b := 2 ^ k) (by omega)
  have h1 := Int.emod_lt_of_pos x hp.1
  exact wr_id (by omega) (by omega)
theorem wl_mask {x : Int} {k : Nat} (hk : k ≤ 63) : wl (x % 2 ^ k) = x % 2 ^ k := by
  have hp := pow63 hk
  have h0 := Int.emod_nonneg x (b := 2 ^ k) (by omega)
  have h1 := Int.emod_lt_of_pos x hp.1
  exact wl_id (by omega) (by omega)
theorem wr_zand (x y : Int) : wr (zand x y) = zand x y := by unfold zand wr; rw [mI_toInt]
theorem wr_i2c (x : Int) : wr (x % 65536) = x % 65536 := wr_id (by omega) (by omega)
theorem wl_of_wr {x x' : Int} (h : wr x = x') : wl x' = x' := by
  have h1 := wr_lo x
  have h2 := wr_hi x
  rw [h] at h1 h2
  exact wl_id (by omega) (by omega)
theorem wr_ite {c : Prop} [Decidable c] {x y x' y' : Int} (p : wr x = x') (q : wr y = y') : wr (if c then x else y) = if c then x' else y' := by
  by_cases h : c
  · simp only [h, if_true, p]
  · simp only [h, if_false, q]
theorem wl_ite {c : Prop} [Decidable c] {x y x' y' : Int} (p : wl x = x') (q : wl y = y') : wl (if c then x else y) = if c then x' else y' := by
  by_cases h : c
  · simp only [h, if_true, p]
  · simp only [h, if_false, q]
theorem wr_max {x y x' y' : Int} (p : wr x = x') (q : wr y = y') : wr (max x' y') = max x' y' := by
  have h1 := wr_lo x; have h2 := wr_hi x; have h3 := wr_lo y; have h4 := wr_hi y
  rw [p] at h1 h2; rw [q] at h3 h4
  exact wr_id (by omega) (by omega)
theorem wr_min {x y x' y' : Int} (p : wr x = x') (q : wr y = y') : wr (min x' y') = min x' y' := by
  have h1 := wr_lo x; have h2 := wr_hi x; have h3 := wr_lo y; have h4 := wr_hi y
  rw [p] at h1 h2; rw [q] at h3 h4
  exact wr_id (by omega) (by omega)
theorem wr_len {h : am_H} {a k t n : Nat} (s : sh h a = (k, t)) (n1 : gn h a = n) (k1 : 1 ≤ k) (k4 : k ≤ 4) : wr (n : Int) = n := by
  have : gn h a ≤ 65536 := gn_le (by rw [s]; exact k1) (by rw [s]; exact k4)
  exact wr_id (by omega) (by omega)
theorem lt_gn {h : am_H} {a n : Nat} {i : Int} (hn : gn h a = n) (g : i < (n : Int)) : i < (gn h a : Int) := by rw [hn]; exact g
theorem ne_cls {h : am_H} {a b c d : Nat} (sa : sh h a = (5, c)) (sb : sh h b = (5, d)) (n : c ≠ d) : a ≠ b := by
  intro e
  rw [e, sb] at sa
  exact n (Prod.mk.inj sa).2.symm
theorem gR {h : am_H} {a k b : Nat} {r : Option Nat} (e : gV h a k = am_rv r) (e2 : r = some b) : gV h a k = .ref b := by rw [e, e2]; rfl
theorem okB {z w : Int} (p : wr z = w) (g : w = 0 ∨ w = 1) : am_okV .boolean (.int (mI z)) = true := by
  have e : mI z = mI w := by rw [← p, mI_wr]
  rw [e]
  rcases g with rfl | rfl <;> rfl
theorem okC {z w : Int} (p : wr z = w) (g : 0 ≤ w ∧ w ≤ 65535) : am_okV .char (.int (mI z)) = true := by
  have e : (mI z).toInt = w := p
  simp only [am_okV, e, decide_eq_true g.1, decide_eq_true g.2]
  rfl
theorem ltd {m D k : Nat} (e : am_d m = D) (h : k < D) : k < am_d m := by rw [e]; exact h
theorem elok_n (h : am_H) (t : Nat) : elok h t none := trivial
theorem elok_5 {h : am_H} {b : Nat} (q : sh h b = (5, 6)) : elok h 5 (some b) := ⟨rfl, q⟩
theorem stOk_0 : stOk [] := Or.inl (by decide)
theorem stOk_1 (a : Value) : stOk [a] := Or.inl (Nat.le_of_ble_eq_true rfl)
theorem stOk_2 (a b : Value) : stOk [a, b] := Or.inl (Nat.le_of_ble_eq_true rfl)
theorem stOk_3 (a b c : Value) : stOk [a, b, c] := Or.inl (Nat.le_of_ble_eq_true rfl)
theorem stOk_4 (a b c d : Value) : stOk [a, b, c, d] := Or.inl (Nat.le_of_ble_eq_true rfl)
theorem stOk_5 {a b c d e : Value} (ha : a.category = 1) (hb : b.category = 1) (hc : c.category = 1) (hd : d.category = 1) (he : e.category = 1) : stOk [a, b, c, d, e] := Or.inr ⟨Nat.le_of_ble_eq_true rfl, by simp [ha, hb, hc, hd, he]⟩
theorem stOk_6 {a b c d e f : Value} (ha : a.category = 1) (hb : b.category = 1) (hc : c.category = 1) (hd : d.category = 1) (he : e.category = 1) (hf : f.category = 1) : stOk [a, b, c, d, e, f] := Or.inr ⟨Nat.le_of_ble_eq_true rfl, by simp [ha, hb, hc, hd, he, hf]⟩
theorem ite_I {c : Prop} [Decidable c] {m pc : Nat} {L st : List Value} {h : am_H} {x y : Int} : (if c then rn m pc L (.int (mI x) :: st) h else rn m pc L (.int (mI y) :: st) h) = rn m pc L (.int (mI (if c then x else y)) :: st) h := by by_cases q : c <;> simp only [q, if_true, if_false]
theorem ite_J {c : Prop} [Decidable c] {m pc : Nat} {L st : List Value} {h : am_H} {x y : Int} : (if c then rn m pc L (.long (mL x) :: st) h else rn m pc L (.long (mL y) :: st) h) = rn m pc L (.long (mL (if c then x else y)) :: st) h := by by_cases q : c <;> simp only [q, if_true, if_false]
theorem ite_b10 {c : Prop} [Decidable c] {m pc : Nat} {L st : List Value} {h : am_H} : (if c then rn m pc L (.int (mI 1) :: st) h else rn m pc L (.int (mI 0) :: st) h) = rn m pc L (.int (mI (bZ c)) :: st) h := by by_cases q : c <;> simp only [q, if_true, if_false, bZ]
theorem ite_b01 {c : Prop} [Decidable c] {m pc : Nat} {L st : List Value} {h : am_H} : (if c then rn m pc L (.int (mI 0) :: st) h else rn m pc L (.int (mI 1) :: st) h) = rn m pc L (.int (mI (bZ (¬ c))) :: st) h := by by_cases q : c <;> simp only [q, if_true, if_false, bZ, not_true, not_false_iff]
theorem ite_bp0 {c : Prop} [Decidable c] {m pc : Nat} {L st : List Value} {h : am_H} {p : Prop} [Decidable p] : (if c then rn m pc L (.int (mI (bZ p)) :: st) h else rn m pc L (.int (mI 0) :: st) h) = rn m pc L (.int (mI (bZ (c ∧ p))) :: st) h := by by_cases q : c <;> simp only [q, if_true, if_false, bZ, true_and, false_and]
theorem ite_bp1 {c : Prop} [Decidable c] {m pc : Nat} {L st : List Value} {h : am_H} {p : Prop} [Decidable p] : (if c then rn m pc L (.int (mI (bZ p)) :: st) h else rn m pc L (.int (mI 1) :: st) h) = rn m pc L (.int (mI (bZ (¬ c ∨ p))) :: st) h := by by_cases q : c <;> simp only [q, if_true, if_false, bZ, not_true, not_false_iff, true_or, false_or]
theorem ite_b0p {c : Prop} [Decidable c] {m pc : Nat} {L st : List Value} {h : am_H} {p : Prop} [Decidable p] : (if c then rn m pc L (.int (mI 0) :: st) h else rn m pc L (.int (mI (bZ p)) :: st) h) = rn m pc L (.int (mI (bZ (¬ c ∧ p))) :: st) h := by by_cases q : c <;> simp only [q, if_true, if_false, bZ, not_true, not_false_iff, true_and, false_and]
theorem ite_b1p {c : Prop} [Decidable c] {m pc : Nat} {L st : List Value} {h : am_H} {p : Prop} [Decidable p] : (if c then rn m pc L (.int (mI 1) :: st) h else rn m pc L (.int (mI (bZ p)) :: st) h) = rn m pc L (.int (mI (bZ (c ∨ p))) :: st) h := by by_cases q : c <;> simp only [q, if_true, if_false, bZ, true_or, false_or]
theorem ite_bpq {c : Prop} [Decidable c] {m pc : Nat} {L st : List Value} {h : am_H} {p : Prop} [Decidable p] {p2 : Prop} [Decidable p2] : (if c then rn m pc L (.int (mI (bZ p)) :: st) h else rn m pc L (.int (mI (bZ p2)) :: st) h) = rn m pc L (.int (mI (bZ ((c ∧ p) ∨ (¬ c ∧ p2)))) :: st) h := by by_cases q : c <;> simp only [q, if_true, if_false, bZ, true_and, false_and, not_true, not_false_iff, or_false, false_or]
theorem g_0_0 {h : am_H} {a : Nat} (q : sh h a = (5, 0)) : gV h a 0 = .int (mI (fZ h a 0)) := fv_I q (by decide) (Or.inl rfl)
theorem okf_0_0 (z : Int) : am_okV (am_ft 0 0) (.int (mI z)) = true := rfl
theorem g_0_1 {h : am_H} {a : Nat} (q : sh h a = (5, 0)) : gV h a 1 = .int (mI (fZ h a 1)) := fv_I q (by decide) (Or.inl rfl)
theorem okf_0_1 (z : Int) : am_okV (am_ft 0 1) (.int (mI z)) = true := rfl
theorem g_0_2 {h : am_H} {a : Nat} (q : sh h a = (5, 0)) : gV h a 2 = .int (mI (fZ h a 2)) := fv_I q (by decide) (Or.inl rfl)
theorem okf_0_2 (z : Int) : am_okV (am_ft 0 2) (.int (mI z)) = true := rfl
theorem g_1_0 {h : am_H} {a : Nat} (q : sh h a = (5, 1)) : gV h a 0 = am_rv (fA h a 0) := fv_A q (by decide) (Or.inl ⟨_, rfl⟩)
theorem okfA_1_0 {v : Value} (hA : isA v) : am_okV (am_ft 1 0) v = true := by
  rcases hA with ⟨a, rfl⟩ | rfl
  · rfl
  · rfl
theorem g_1_1 {h : am_H} {a : Nat} (q : sh h a = (5, 1)) : gV h a 1 = am_rv (fA h a 1) := fv_A q (by decide) (Or.inl ⟨_, rfl⟩)
theorem okfA_1_1 {v : Value} (hA : isA v) : am_okV (am_ft 1 1) v = true := by
  rcases hA with ⟨a, rfl⟩ | rfl
  · rfl
  · rfl
theorem g_1_2 {h : am_H} {a : Nat} (q : sh h a = (5, 1)) : gV h a 2 = am_rv (fA h a 2) := fv_A q (by decide) (Or.inr ⟨_, rfl⟩)
theorem okfA_1_2 {v : Value} (hA : isA v) : am_okV (am_ft 1 2) v = true := by
  rcases hA with ⟨a, rfl⟩ | rfl
  · rfl
  · rfl
theorem g_1_3 {h : am_H} {a : Nat} (q : sh h a = (5, 1)) : gV h a 3 = am_rv (fA h a 3) := fv_A q (by decide) (Or.inr ⟨_, rfl⟩)
theorem okfA_1_3 {v : Value} (hA : isA v) : am_okV (am_ft 1 3) v = true := by
  rcases hA with ⟨a, rfl⟩ | rfl
  · rfl
  · rfl
theorem g_1_4 {h : am_H} {a : Nat} (q : sh h a = (5, 1)) : gV h a 4 = .int (mI (fZ h a 4)) := fv_I q (by decide) (Or.inl rfl)
theorem okf_1_4 (z : Int) : am_okV (am_ft 1 4) (.int (mI z)) = true := rfl
theorem g_1_5 {h : am_H} {a : Nat} (q : sh h a = (5, 1)) : gV h a 5 = .int (mI (fZ h a 5)) := fv_I q (by decide) (Or.inl rfl)
theorem okf_1_5 (z : Int) : am_okV (am_ft 1 5) (.int (mI z)) = true := rfl
theorem g_1_6 {h : am_H} {a : Nat} (q : sh h a = (5, 1)) : gV h a 6 = am_rv (fA h a 6) := fv_A q (by decide) (Or.inr ⟨_, rfl⟩)
theorem okfA_1_6 {v : Value} (hA : isA v) : am_okV (am_ft 1 6) v = true := by
  rcases hA with ⟨a, rfl⟩ | rfl
  · rfl
  · rfl
theorem g_1_7 {h : am_H} {a : Nat} (q : sh h a = (5, 1)) : gV h a 7 = am_rv (fA h a 7) := fv_A q (by decide) (Or.inr ⟨_, rfl⟩)
theorem okfA_1_7 {v : Value} (hA : isA v) : am_okV (am_ft 1 7) v = true := by
  rcases hA with ⟨a, rfl⟩ | rfl
  · rfl
  · rfl
theorem g_2_0 {h : am_H} {a : Nat} (q : sh h a = (5, 2)) : gV h a 0 = am_rv (fA h a 0) := fv_A q (by decide) (Or.inl ⟨_, rfl⟩)
theorem okfA_2_0 {v : Value} (hA : isA v) : am_okV (am_ft 2 0) v = true := by
  rcases hA with ⟨a, rfl⟩ | rfl
  · rfl
  · rfl
theorem g_2_1 {h : am_H} {a : Nat} (q : sh h a = (5, 2)) : gV h a 1 = am_rv (fA h a 1) := fv_A q (by decide) (Or.inl ⟨_, rfl⟩)
theorem okfA_2_1 {v : Value} (hA : isA v) : am_okV (am_ft 2 1) v = true := by
  rcases hA with ⟨a, rfl⟩ | rfl
  · rfl
  · rfl
theorem g_3_0 {h : am_H} {a : Nat} (q : sh h a = (5, 3)) : gV h a 0 = am_rv (fA h a 0) := fv_A q (by decide) (Or.inl ⟨_, rfl⟩)
theorem okfA_3_0 {v : Value} (hA : isA v) : am_okV (am_ft 3 0) v = true := by
  rcases hA with ⟨a, rfl⟩ | rfl
  · rfl
  · rfl
theorem g_3_1 {h : am_H} {a : Nat} (q : sh h a = (5, 3)) : gV h a 1 = am_rv (fA h a 1) := fv_A q (by decide) (Or.inl ⟨_, rfl⟩)
theorem okfA_3_1 {v : Value} (hA : isA v) : am_okV (am_ft 3 1) v = true := by
  rcases hA with ⟨a, rfl⟩ | rfl
  · rfl
  · rfl
theorem g_3_2 {h : am_H} {a : Nat} (q : sh h a = (5, 3)) : gV h a 2 = am_rv (fA h a 2) := fv_A q (by decide) (Or.inr ⟨_, rfl⟩)
theorem okfA_3_2 {v : Value} (hA : isA v) : am_okV (am_ft 3 2) v = true := by
  rcases hA with ⟨a, rfl⟩ | rfl
  · rfl
  · rfl
theorem g_3_3 {h : am_H} {a : Nat} (q : sh h a = (5, 3)) : gV h a 3 = .int (mI (fZ h a 3)) := fv_I q (by decide) (Or.inl rfl)
theorem okf_3_3 (z : Int) : am_okV (am_ft 3 3) (.int (mI z)) = true := rfl
theorem g_3_4 {h : am_H} {a : Nat} (q : sh h a = (5, 3)) : gV h a 4 = .int (mI (fZ h a 4)) := fv_I q (by decide) (Or.inl rfl)
theorem okf_3_4 (z : Int) : am_okV (am_ft 3 4) (.int (mI z)) = true := rfl
theorem g_3_5 {h : am_H} {a : Nat} (q : sh h a = (5, 3)) : gV h a 5 = .int (mI (fZ h a 5)) := fv_I q (by decide) (Or.inr (Or.inl rfl))
theorem fb_3_5 {h : am_H} {a : Nat} (q : sh h a = (5, 3)) : fZ h a 5 = 0 ∨ fZ h a 5 = 1 := fv_b q (by decide) rfl
theorem okfB_3_5 {z w : Int} (p : wr z = w) (g : w = 0 ∨ w = 1) : am_okV (am_ft 3 5) (.int (mI z)) = true := okB p g
theorem g_3_6 {h : am_H} {a : Nat} (q : sh h a = (5, 3)) : gV h a 6 = am_rv (fA h a 6) := fv_A q (by decide) (Or.inr ⟨_, rfl⟩)
theorem okfA_3_6 {v : Value} (hA : isA v) : am_okV (am_ft 3 6) v = true := by
  rcases hA with ⟨a, rfl⟩ | rfl
  · rfl
  · rfl
theorem g_3_7 {h : am_H} {a : Nat} (q : sh h a = (5, 3)) : gV h a 7 = .int (mI (fZ h a 7)) := fv_I q (by decide) (Or.inl rfl)
theorem okf_3_7 (z : Int) : am_okV (am_ft 3 7) (.int (mI z)) = true := rfl
theorem g_3_8 {h : am_H} {a : Nat} (q : sh h a = (5, 3)) : gV h a 8 = am_rv (fA h a 8) := fv_A q (by decide) (Or.inr ⟨_, rfl⟩)
theorem okfA_3_8 {v : Value} (hA : isA v) : am_okV (am_ft 3 8) v = true := by
  rcases hA with ⟨a, rfl⟩ | rfl
  · rfl
  · rfl
theorem g_3_9 {h : am_H} {a : Nat} (q : sh h a = (5, 3)) : gV h a 9 = am_rv (fA h a 9) := fv_A q (by decide) (Or.inr ⟨_, rfl⟩)
theorem okfA_3_9 {v : Value} (hA : isA v) : am_okV (am_ft 3 9) v = true := by
  rcases hA with ⟨a, rfl⟩ | rfl
  · rfl
  · rfl
theorem g_3_10 {h : am_H} {a : Nat} (q : sh h a = (5, 3)) : gV h a 10 = .int (mI (fZ h a 10)) := fv_I q (by decide) (Or.inl rfl)
theorem okf_3_10 (z : Int) : am_okV (am_ft 3 10) (.int (mI z)) = true := rfl
theorem g_3_11 {h : am_H} {a : Nat} (q : sh h a = (5, 3)) : gV h a 11 = .int (mI (fZ h a 11)) := fv_I q (by decide) (Or.inl rfl)
theorem okf_3_11 (z : Int) : am_okV (am_ft 3 11) (.int (mI z)) = true := rfl
theorem g_4_0 {h : am_H} {a : Nat} (q : sh h a = (5, 4)) : gV h a 0 = am_rv (fA h a 0) := fv_A q (by decide) (Or.inr ⟨_, rfl⟩)
theorem okfA_4_0 {v : Value} (hA : isA v) : am_okV (am_ft 4 0) v = true := by
  rcases hA with ⟨a, rfl⟩ | rfl
  · rfl
  · rfl
theorem g_5_0 {h : am_H} {a : Nat} (q : sh h a = (5, 5)) : gV h a 0 = .int (mI (fZ h a 0)) := fv_I q (by decide) (Or.inl rfl)
theorem okf_5_0 (z : Int) : am_okV (am_ft 5 0) (.int (mI z)) = true := rfl
theorem g_5_1 {h : am_H} {a : Nat} (q : sh h a = (5, 5)) : gV h a 1 = .int (mI (fZ h a 1)) := fv_I q (by decide) (Or.inl rfl)
theorem okf_5_1 (z : Int) : am_okV (am_ft 5 1) (.int (mI z)) = true := rfl
theorem g_5_2 {h : am_H} {a : Nat} (q : sh h a = (5, 5)) : gV h a 2 = .int (mI (fZ h a 2)) := fv_I q (by decide) (Or.inl rfl)
theorem okf_5_2 (z : Int) : am_okV (am_ft 5 2) (.int (mI z)) = true := rfl
theorem g_5_3 {h : am_H} {a : Nat} (q : sh h a = (5, 5)) : gV h a 3 = .int (mI (fZ h a 3)) := fv_I q (by decide) (Or.inl rfl)
theorem okf_5_3 (z : Int) : am_okV (am_ft 5 3) (.int (mI z)) = true := rfl
theorem g_5_4 {h : am_H} {a : Nat} (q : sh h a = (5, 5)) : gV h a 4 = .int (mI (fZ h a 4)) := fv_I q (by decide) (Or.inl rfl)
theorem okf_5_4 (z : Int) : am_okV (am_ft 5 4) (.int (mI z)) = true := rfl
theorem g_5_5 {h : am_H} {a : Nat} (q : sh h a = (5, 5)) : gV h a 5 = .int (mI (fZ h a 5)) := fv_I q (by decide) (Or.inl rfl)
theorem okf_5_5 (z : Int) : am_okV (am_ft 5 5) (.int (mI z)) = true := rfl
theorem g_5_6 {h : am_H} {a : Nat} (q : sh h a = (5, 5)) : gV h a 6 = .int (mI (fZ h a 6)) := fv_I q (by decide) (Or.inl rfl)
theorem okf_5_6 (z : Int) : am_okV (am_ft 5 6) (.int (mI z)) = true := rfl
theorem g_6_0 {h : am_H} {a : Nat} (q : sh h a = (5, 6)) : gV h a 0 = .int (mI (fZ h a 0)) := fv_I q (by decide) (Or.inr (Or.inr rfl))
theorem fc_6_0 {h : am_H} {a : Nat} (q : sh h a = (5, 6)) : 0 ≤ fZ h a 0 ∧ fZ h a 0 ≤ 65535 := fv_c q (by decide) rfl
theorem okfC_6_0 {z w : Int} (p : wr z = w) (g : 0 ≤ w ∧ w ≤ 65535) : am_okV (am_ft 6 0) (.int (mI z)) = true := okC p g
theorem g_6_1 {h : am_H} {a : Nat} (q : sh h a = (5, 6)) : gV h a 1 = .int (mI (fZ h a 1)) := fv_I q (by decide) (Or.inl rfl)
theorem okf_6_1 (z : Int) : am_okV (am_ft 6 1) (.int (mI z)) = true := rfl
theorem g_6_2 {h : am_H} {a : Nat} (q : sh h a = (5, 6)) : gV h a 2 = .int (mI (fZ h a 2)) := fv_I q (by decide) (Or.inl rfl)
theorem okf_6_2 (z : Int) : am_okV (am_ft 6 2) (.int (mI z)) = true := rfl
theorem g_6_3 {h : am_H} {a : Nat} (q : sh h a = (5, 6)) : gV h a 3 = .int (mI (fZ h a 3)) := fv_I q (by decide) (Or.inl rfl)
theorem okf_6_3 (z : Int) : am_okV (am_ft 6 3) (.int (mI z)) = true := rfl
theorem g_6_4 {h : am_H} {a : Nat} (q : sh h a = (5, 6)) : gV h a 4 = .int (mI (fZ h a 4)) := fv_I q (by decide) (Or.inl rfl)
theorem okf_6_4 (z : Int) : am_okV (am_ft 6 4) (.int (mI z)) = true := rfl
theorem g_6_5 {h : am_H} {a : Nat} (q : sh h a = (5, 6)) : gV h a 5 = .int (mI (fZ h a 5)) := fv_I q (by decide) (Or.inl rfl)
theorem okf_6_5 (z : Int) : am_okV (am_ft 6 5) (.int (mI z)) = true := rfl
theorem g_6_6 {h : am_H} {a : Nat} (q : sh h a = (5, 6)) : gV h a 6 = .int (mI (fZ h a 6)) := fv_I q (by decide) (Or.inr (Or.inl rfl))
theorem fb_6_6 {h : am_H} {a : Nat} (q : sh h a = (5, 6)) : fZ h a 6 = 0 ∨ fZ h a 6 = 1 := fv_b q (by decide) rfl
theorem okfB_6_6 {z w : Int} (p : wr z = w) (g : w = 0 ∨ w = 1) : am_okV (am_ft 6 6) (.int (mI z)) = true := okB p g
theorem g_6_7 {h : am_H} {a : Nat} (q : sh h a = (5, 6)) : gV h a 7 = .long (mL (fJ h a 7)) := fv_J q (by decide) rfl
theorem okf_6_7 (z : Int) : am_okV (am_ft 6 7) (.long (mL z)) = true := rfl
theorem g_6_8 {h : am_H} {a : Nat} (q : sh h a = (5, 6)) : gV h a 8 = am_rv (fA h a 8) := fv_A q (by decide) (Or.inr ⟨_, rfl⟩)
theorem okfA_6_8 {v : Value} (hA : isA v) : am_okV (am_ft 6 8) v = true := by
  rcases hA with ⟨a, rfl⟩ | rfl
  · rfl
  · rfl
theorem g_6_9 {h : am_H} {a : Nat} (q : sh h a = (5, 6)) : gV h a 9 = am_rv (fA h a 9) := fv_A q (by decide) (Or.inr ⟨_, rfl⟩)
theorem okfA_6_9 {v : Value} (hA : isA v) : am_okV (am_ft 6 9) v = true := by
  rcases hA with ⟨a, rfl⟩ | rfl
  · rfl
  · rfl
theorem g_6_10 {h : am_H} {a : Nat} (q : sh h a = (5, 6)) : gV h a 10 = am_rv (fA h a 10) := fv_A q (by decide) (Or.inr ⟨_, rfl⟩)
theorem okfA_6_10 {v : Value} (hA : isA v) : am_okV (am_ft 6 10) v = true := by
  rcases hA with ⟨a, rfl⟩ | rfl
  · rfl
  · rfl
theorem g_6_11 {h : am_H} {a : Nat} (q : sh h a = (5, 6)) : gV h a 11 = am_rv (fA h a 11) := fv_A q (by decide) (Or.inr ⟨_, rfl⟩)
theorem okfA_6_11 {v : Value} (hA : isA v) : am_okV (am_ft 6 11) v = true := by
  rcases hA with ⟨a, rfl⟩ | rfl
  · rfl
  · rfl
theorem g_6_12 {h : am_H} {a : Nat} (q : sh h a = (5, 6)) : gV h a 12 = am_rv (fA h a 12) := fv_A q (by decide) (Or.inr ⟨_, rfl⟩)
theorem okfA_6_12 {v : Value} (hA : isA v) : am_okV (am_ft 6 12) v = true := by
  rcases hA with ⟨a, rfl⟩ | rfl
  · rfl
  · rfl
theorem g_6_13 {h : am_H} {a : Nat} (q : sh h a = (5, 6)) : gV h a 13 = am_rv (fA h a 13) := fv_A q (by decide) (Or.inr ⟨_, rfl⟩)
theorem okfA_6_13 {v : Value} (hA : isA v) : am_okV (am_ft 6 13) v = true := by
  rcases hA with ⟨a, rfl⟩ | rfl
  · rfl
  · rfl
theorem g_6_14 {h : am_H} {a : Nat} (q : sh h a = (5, 6)) : gV h a 14 = am_rv (fA h a 14) := fv_A q (by decide) (Or.inr ⟨_, rfl⟩)
theorem okfA_6_14 {v : Value} (hA : isA v) : am_okV (am_ft 6 14) v = true := by
  rcases hA with ⟨a, rfl⟩ | rfl
  · rfl
  · rfl
theorem g_6_15 {h : am_H} {a : Nat} (q : sh h a = (5, 6)) : gV h a 15 = am_rv (fA h a 15) := fv_A q (by decide) (Or.inr ⟨_, rfl⟩)
theorem okfA_6_15 {v : Value} (hA : isA v) : am_okV (am_ft 6 15) v = true := by
  rcases hA with ⟨a, rfl⟩ | rfl
  · rfl
  · rfl
theorem g_7_0 {h : am_H} {a : Nat} (q : sh h a = (5, 7)) : gV h a 0 = am_rv (fA h a 0) := fv_A q (by decide) (Or.inl ⟨_, rfl⟩)
theorem okfA_7_0 {v : Value} (hA : isA v) : am_okV (am_ft 7 0) v = true := by
  rcases hA with ⟨a, rfl⟩ | rfl
  · rfl
  · rfl
theorem g_7_1 {h : am_H} {a : Nat} (q : sh h a = (5, 7)) : gV h a 1 = am_rv (fA h a 1) := fv_A q (by decide) (Or.inl ⟨_, rfl⟩)
theorem okfA_7_1 {v : Value} (hA : isA v) : am_okV (am_ft 7 1) v = true := by
  rcases hA with ⟨a, rfl⟩ | rfl
  · rfl
  · rfl
theorem g_7_2 {h : am_H} {a : Nat} (q : sh h a = (5, 7)) : gV h a 2 = am_rv (fA h a 2) := fv_A q (by decide) (Or.inl ⟨_, rfl⟩)
theorem okfA_7_2 {v : Value} (hA : isA v) : am_okV (am_ft 7 2) v = true := by
  rcases hA with ⟨a, rfl⟩ | rfl
  · rfl
  · rfl
theorem g_7_3 {h : am_H} {a : Nat} (q : sh h a = (5, 7)) : gV h a 3 = am_rv (fA h a 3) := fv_A q (by decide) (Or.inl ⟨_, rfl⟩)
theorem okfA_7_3 {v : Value} (hA : isA v) : am_okV (am_ft 7 3) v = true := by
  rcases hA with ⟨a, rfl⟩ | rfl
  · rfl
  · rfl
theorem g_8_0 {h : am_H} {a : Nat} (q : sh h a = (5, 8)) : gV h a 0 = am_rv (fA h a 0) := fv_A q (by decide) (Or.inr ⟨_, rfl⟩)
theorem okfA_8_0 {v : Value} (hA : isA v) : am_okV (am_ft 8 0) v = true := by
  rcases hA with ⟨a, rfl⟩ | rfl
  · rfl
  · rfl
theorem g_8_1 {h : am_H} {a : Nat} (q : sh h a = (5, 8)) : gV h a 1 = am_rv (fA h a 1) := fv_A q (by decide) (Or.inr ⟨_, rfl⟩)
theorem okfA_8_1 {v : Value} (hA : isA v) : am_okV (am_ft 8 1) v = true := by
  rcases hA with ⟨a, rfl⟩ | rfl
  · rfl
  · rfl
theorem g_8_2 {h : am_H} {a : Nat} (q : sh h a = (5, 8)) : gV h a 2 = .int (mI (fZ h a 2)) := fv_I q (by decide) (Or.inl rfl)
theorem okf_8_2 (z : Int) : am_okV (am_ft 8 2) (.int (mI z)) = true := rfl
theorem g_8_3 {h : am_H} {a : Nat} (q : sh h a = (5, 8)) : gV h a 3 = .long (mL (fJ h a 3)) := fv_J q (by decide) rfl
theorem okf_8_3 (z : Int) : am_okV (am_ft 8 3) (.long (mL z)) = true := rfl
theorem g_8_4 {h : am_H} {a : Nat} (q : sh h a = (5, 8)) : gV h a 4 = .long (mL (fJ h a 4)) := fv_J q (by decide) rfl
theorem okf_8_4 (z : Int) : am_okV (am_ft 8 4) (.long (mL z)) = true := rfl
theorem g_9_0 {h : am_H} {a : Nat} (q : sh h a = (5, 9)) : gV h a 0 = am_rv (fA h a 0) := fv_A q (by decide) (Or.inr ⟨_, rfl⟩)
theorem okfA_9_0 {v : Value} (hA : isA v) : am_okV (am_ft 9 0) v = true := by
  rcases hA with ⟨a, rfl⟩ | rfl
  · rfl
  · rfl
theorem g_9_1 {h : am_H} {a : Nat} (q : sh h a = (5, 9)) : gV h a 1 = am_rv (fA h a 1) := fv_A q (by decide) (Or.inr ⟨_, rfl⟩)
theorem okfA_9_1 {v : Value} (hA : isA v) : am_okV (am_ft 9 1) v = true := by
  rcases hA with ⟨a, rfl⟩ | rfl
  · rfl
  · rfl
theorem g_9_2 {h : am_H} {a : Nat} (q : sh h a = (5, 9)) : gV h a 2 = .int (mI (fZ h a 2)) := fv_I q (by decide) (Or.inl rfl)
theorem okf_9_2 (z : Int) : am_okV (am_ft 9 2) (.int (mI z)) = true := rfl
theorem g_9_3 {h : am_H} {a : Nat} (q : sh h a = (5, 9)) : gV h a 3 = .int (mI (fZ h a 3)) := fv_I q (by decide) (Or.inl rfl)
theorem okf_9_3 (z : Int) : am_okV (am_ft 9 3) (.int (mI z)) = true := rfl
theorem g_9_4 {h : am_H} {a : Nat} (q : sh h a = (5, 9)) : gV h a 4 = .int (mI (fZ h a 4)) := fv_I q (by decide) (Or.inl rfl)
theorem okf_9_4 (z : Int) : am_okV (am_ft 9 4) (.int (mI z)) = true := rfl
theorem g_9_5 {h : am_H} {a : Nat} (q : sh h a = (5, 9)) : gV h a 5 = .int (mI (fZ h a 5)) := fv_I q (by decide) (Or.inr (Or.inl rfl))
theorem fb_9_5 {h : am_H} {a : Nat} (q : sh h a = (5, 9)) : fZ h a 5 = 0 ∨ fZ h a 5 = 1 := fv_b q (by decide) rfl
theorem okfB_9_5 {z w : Int} (p : wr z = w) (g : w = 0 ∨ w = 1) : am_okV (am_ft 9 5) (.int (mI z)) = true := okB p g
theorem g_9_6 {h : am_H} {a : Nat} (q : sh h a = (5, 9)) : gV h a 6 = am_rv (fA h a 6) := fv_A q (by decide) (Or.inl ⟨_, rfl⟩)
theorem okfA_9_6 {v : Value} (hA : isA v) : am_okV (am_ft 9 6) v = true := by
  rcases hA with ⟨a, rfl⟩ | rfl
  · rfl
  · rfl
theorem g_9_7 {h : am_H} {a : Nat} (q : sh h a = (5, 9)) : gV h a 7 = am_rv (fA h a 7) := fv_A q (by decide) (Or.inr ⟨_, rfl⟩)
theorem okfA_9_7 {v : Value} (hA : isA v) : am_okV (am_ft 9 7) v = true := by
  rcases hA with ⟨a, rfl⟩ | rfl
  · rfl
  · rfl
theorem g_9_8 {h : am_H} {a : Nat} (q : sh h a = (5, 9)) : gV h a 8 = .int (mI (fZ h a 8)) := fv_I q (by decide) (Or.inl rfl)
theorem okf_9_8 (z : Int) : am_okV (am_ft 9 8) (.int (mI z)) = true := rfl
theorem g_9_9 {h : am_H} {a : Nat} (q : sh h a = (5, 9)) : gV h a 9 = am_rv (fA h a 9) := fv_A q (by decide) (Or.inl ⟨_, rfl⟩)
theorem okfA_9_9 {v : Value} (hA : isA v) : am_okV (am_ft 9 9) v = true := by
  rcases hA with ⟨a, rfl⟩ | rfl
  · rfl
  · rfl
theorem g_9_10 {h : am_H} {a : Nat} (q : sh h a = (5, 9)) : gV h a 10 = am_rv (fA h a 10) := fv_A q (by decide) (Or.inr ⟨_, rfl⟩)
theorem okfA_9_10 {v : Value} (hA : isA v) : am_okV (am_ft 9 10) v = true := by
  rcases hA with ⟨a, rfl⟩ | rfl
  · rfl
  · rfl
theorem g_9_11 {h : am_H} {a : Nat} (q : sh h a = (5, 9)) : gV h a 11 = .int (mI (fZ h a 11)) := fv_I q (by decide) (Or.inl rfl)
theorem okf_9_11 (z : Int) : am_okV (am_ft 9 11) (.int (mI z)) = true := rfl
theorem g_9_12 {h : am_H} {a : Nat} (q : sh h a = (5, 9)) : gV h a 12 = am_rv (fA h a 12) := fv_A q (by decide) (Or.inl ⟨_, rfl⟩)
theorem okfA_9_12 {v : Value} (hA : isA v) : am_okV (am_ft 9 12) v = true := by
  rcases hA with ⟨a, rfl⟩ | rfl
  · rfl
  · rfl
theorem g_9_13 {h : am_H} {a : Nat} (q : sh h a = (5, 9)) : gV h a 13 = am_rv (fA h a 13) := fv_A q (by decide) (Or.inl ⟨_, rfl⟩)
theorem okfA_9_13 {v : Value} (hA : isA v) : am_okV (am_ft 9 13) v = true := by
  rcases hA with ⟨a, rfl⟩ | rfl
  · rfl
  · rfl
theorem g_9_14 {h : am_H} {a : Nat} (q : sh h a = (5, 9)) : gV h a 14 = am_rv (fA h a 14) := fv_A q (by decide) (Or.inl ⟨_, rfl⟩)
theorem okfA_9_14 {v : Value} (hA : isA v) : am_okV (am_ft 9 14) v = true := by
  rcases hA with ⟨a, rfl⟩ | rfl
  · rfl
  · rfl
theorem d_L_at : am_d m_L_at = 1 := rfl
theorem r_L_at : am_r m_L_at = (some FieldType.int) := rfl
theorem nh_L_at : am_hl m_L_at = [] := rfl
theorem d_L_some : am_d m_L_some = 1 := rfl
theorem r_L_some : am_r m_L_some = (some FieldType.int) := rfl
theorem nh_L_some : am_hl m_L_some = [] := rfl
theorem d_X0_filledWith : am_d m_X0_filledWith = 1 := rfl
theorem r_X0_filledWith : am_r m_X0_filledWith = (some FieldType.int) := rfl
theorem nh_X0_filledWith : am_hl m_X0_filledWith = [] := rfl
theorem d_X0_isThere : am_d m_X0_isThere = 1 := rfl
theorem r_X0_isThere : am_r m_X0_isThere = (some FieldType.boolean) := rfl
theorem nh_X0_isThere : am_hl m_X0_isThere = [] := rfl
theorem d_X0_put : am_d m_X0_put = 1 := rfl
theorem r_X0_put : am_r m_X0_put = (none) := rfl
theorem nh_X0_put : am_hl m_X0_put = [] := rfl
theorem d_X10_giveByte : am_d m_X10_giveByte = 1 := rfl
theorem r_X10_giveByte : am_r m_X10_giveByte = (none) := rfl
theorem nh_X10_giveByte : am_hl m_X10_giveByte = [] := rfl
theorem d_X11_columnOf : am_d m_X11_columnOf = 1 := rfl
theorem r_X11_columnOf : am_r m_X11_columnOf = (some FieldType.int) := rfl
theorem nh_X11_columnOf : am_hl m_X11_columnOf = [] := rfl
theorem d_X11_inPicture : am_d m_X11_inPicture = 1 := rfl
theorem r_X11_inPicture : am_r m_X11_inPicture = (some FieldType.int) := rfl
theorem nh_X11_inPicture : am_hl m_X11_inPicture = [] := rfl
theorem d_X11_isKeptPlace : am_d m_X11_isKeptPlace = 1 := rfl
theorem r_X11_isKeptPlace : am_r m_X11_isKeptPlace = (some FieldType.boolean) := rfl
theorem nh_X11_isKeptPlace : am_hl m_X11_isKeptPlace = [] := rfl
theorem d_X11_isOnCanvas : am_d m_X11_isOnCanvas = 1 := rfl
theorem r_X11_isOnCanvas : am_r m_X11_isOnCanvas = (some FieldType.boolean) := rfl
theorem nh_X11_isOnCanvas : am_hl m_X11_isOnCanvas = [] := rfl
theorem d_X11_isValue : am_d m_X11_isValue = 1 := rfl
theorem r_X11_isValue : am_r m_X11_isValue = (some FieldType.boolean) := rfl
theorem nh_X11_isValue : am_hl m_X11_isValue = [] := rfl
theorem d_X11_kept : am_d m_X11_kept = 1 := rfl
theorem r_X11_kept : am_r m_X11_kept = (some FieldType.int) := rfl
theorem nh_X11_kept : am_hl m_X11_kept = [] := rfl
theorem d_X11_pictures : am_d m_X11_pictures = 1 := rfl
theorem r_X11_pictures : am_r m_X11_pictures = (some FieldType.int) := rfl
theorem nh_X11_pictures : am_hl m_X11_pictures = [] := rfl
theorem d_X11_placeOf : am_d m_X11_placeOf = 1 := rfl
theorem r_X11_placeOf : am_r m_X11_placeOf = (some FieldType.int) := rfl
theorem nh_X11_placeOf : am_hl m_X11_placeOf = [] := rfl
theorem d_X11_rowOf : am_d m_X11_rowOf = 1 := rfl
theorem r_X11_rowOf : am_r m_X11_rowOf = (some FieldType.int) := rfl
theorem nh_X11_rowOf : am_hl m_X11_rowOf = [] := rfl
theorem d_X11_squareAt : am_d m_X11_squareAt = 1 := rfl
theorem r_X11_squareAt : am_r m_X11_squareAt = (some FieldType.int) := rfl
theorem nh_X11_squareAt : am_hl m_X11_squareAt = [] := rfl
theorem d_X11_startsBlock : am_d m_X11_startsBlock = 1 := rfl
theorem r_X11_startsBlock : am_r m_X11_startsBlock = (some FieldType.boolean) := rfl
theorem nh_X11_startsBlock : am_hl m_X11_startsBlock = [] := rfl
theorem d_X11_withinValues : am_d m_X11_withinValues = 1 := rfl
theorem r_X11_withinValues : am_r m_X11_withinValues = (some FieldType.int) := rfl
theorem nh_X11_withinValues : am_hl m_X11_withinValues = [] := rfl
theorem d_X4_inside : am_d m_X4_inside = 1 := rfl
theorem r_X4_inside : am_r m_X4_inside = (some FieldType.int) := rfl
theorem nh_X4_inside : am_hl m_X4_inside = [] := rfl
theorem d_X4_placeFrom : am_d m_X4_placeFrom = 1 := rfl
theorem r_X4_placeFrom : am_r m_X4_placeFrom = (some FieldType.int) := rfl
theorem nh_X4_placeFrom : am_hl m_X4_placeFrom = [] := rfl
theorem d_X5_isOfBorder : am_d m_X5_isOfBorder = 1 := rfl
theorem r_X5_isOfBorder : am_r m_X5_isOfBorder = (some FieldType.boolean) := rfl
theorem nh_X5_isOfBorder : am_hl m_X5_isOfBorder = [] := rfl
theorem d_X5_lay : am_d m_X5_lay = 1 := rfl
theorem r_X5_lay : am_r m_X5_lay = (none) := rfl
theorem nh_X5_lay : am_hl m_X5_lay = [] := rfl
theorem d_X5_usesFirst : am_d m_X5_usesFirst = 1 := rfl
theorem r_X5_usesFirst : am_r m_X5_usesFirst = (some FieldType.boolean) := rfl
theorem nh_X5_usesFirst : am_hl m_X5_usesFirst = [] := rfl
theorem d_X5_usesSecond : am_d m_X5_usesSecond = 1 := rfl
theorem r_X5_usesSecond : am_r m_X5_usesSecond = (some FieldType.boolean) := rfl
theorem nh_X5_usesSecond : am_hl m_X5_usesSecond = [] := rfl
theorem d_X6_bits : am_d m_X6_bits = 1 := rfl
theorem r_X6_bits : am_r m_X6_bits = (some FieldType.int) := rfl
theorem nh_X6_bits : am_hl m_X6_bits = [] := rfl
theorem d_X6_describe : am_d m_X6_describe = 1 := rfl
theorem r_X6_describe : am_r m_X6_describe = (none) := rfl
theorem nh_X6_describe : am_hl m_X6_describe = [] := rfl
theorem d_X6_has : am_d m_X6_has = 1 := rfl
theorem r_X6_has : am_r m_X6_has = (some FieldType.boolean) := rfl
theorem nh_X6_has : am_hl m_X6_has = [] := rfl
theorem d_X6_leansOnFirst : am_d m_X6_leansOnFirst = 1 := rfl
theorem r_X6_leansOnFirst : am_r m_X6_leansOnFirst = (some FieldType.boolean) := rfl
theorem nh_X6_leansOnFirst : am_hl m_X6_leansOnFirst = [] := rfl
theorem d_X6_leansOnSecond : am_d m_X6_leansOnSecond = 1 := rfl
theorem r_X6_leansOnSecond : am_r m_X6_leansOnSecond = (some FieldType.boolean) := rfl
theorem nh_X6_leansOnSecond : am_hl m_X6_leansOnSecond = [] := rfl
theorem d_X6_sliceOf : am_d m_X6_sliceOf = 1 := rfl
theorem r_X6_sliceOf : am_r m_X6_sliceOf = (some FieldType.int) := rfl
theorem nh_X6_sliceOf : am_hl m_X6_sliceOf = [] := rfl
theorem d_X6_useSettings : am_d m_X6_useSettings = 1 := rfl
theorem r_X6_useSettings : am_r m_X6_useSettings = (none) := rfl
theorem nh_X6_useSettings : am_hl m_X6_useSettings = [] := rfl
theorem d_X7_copy : am_d m_X7_copy = 1 := rfl
theorem r_X7_copy : am_r m_X7_copy = (none) := rfl
theorem nh_X7_copy : am_hl m_X7_copy = [] := rfl
theorem d_X7_get : am_d m_X7_get = 1 := rfl
theorem r_X7_get : am_r m_X7_get = (some FieldType.int) := rfl
theorem nh_X7_get : am_hl m_X7_get = [] := rfl
theorem d_X7_put : am_d m_X7_put = 1 := rfl
theorem r_X7_put : am_r m_X7_put = (none) := rfl
theorem nh_X7_put : am_hl m_X7_put = [] := rfl
theorem d_X7_set : am_d m_X7_set = 1 := rfl
theorem r_X7_set : am_r m_X7_set = (none) := rfl
theorem nh_X7_set : am_hl m_X7_set = [] := rfl
theorem d_X7_shift : am_d m_X7_shift = 1 := rfl
theorem r_X7_shift : am_r m_X7_shift = (none) := rfl
theorem nh_X7_shift : am_hl m_X7_shift = [] := rfl
theorem d_X8_bits : am_d m_X8_bits = 1 := rfl
theorem r_X8_bits : am_r m_X8_bits = (some FieldType.int) := rfl
theorem nh_X8_bits : am_hl m_X8_bits = [] := rfl
theorem d_X9_down : am_d m_X9_down = 1 := rfl
theorem r_X9_down : am_r m_X9_down = (some FieldType.int) := rfl
theorem nh_X9_down : am_hl m_X9_down = [] := rfl
theorem d_X9_of : am_d m_X9_of = 1 := rfl
theorem r_X9_of : am_r m_X9_of = (some FieldType.int) := rfl
theorem nh_X9_of : am_hl m_X9_of = [] := rfl
theorem d_X9_right : am_d m_X9_right = 1 := rfl
theorem r_X9_right : am_r m_X9_right = (some FieldType.int) := rfl
theorem nh_X9_right : am_hl m_X9_right = [] := rfl
theorem d_X0_hasRoomFor : am_d m_X0_hasRoomFor = 2 := rfl
theorem r_X0_hasRoomFor : am_r m_X0_hasRoomFor = (some FieldType.boolean) := rfl
theorem nh_X0_hasRoomFor : am_hl m_X0_hasRoomFor = [] := rfl
theorem d_X0_init : am_d m_X0_init = 2 := rfl
theorem r_X0_init : am_r m_X0_init = (none) := rfl
theorem nh_X0_init : am_hl m_X0_init = [] := rfl
theorem d_X0_steer : am_d m_X0_steer = 2 := rfl
theorem r_X0_steer : am_r m_X0_steer = (some FieldType.int) := rfl
theorem nh_X0_steer : am_hl m_X0_steer = [] := rfl
theorem d_X0_take : am_d m_X0_take = 2 := rfl
theorem r_X0_take : am_r m_X0_take = (none) := rfl
theorem nh_X0_take : am_hl m_X0_take = [] := rfl
theorem d_X10_end : am_d m_X10_end = 2 := rfl
theorem r_X10_end : am_r m_X10_end = (none) := rfl
theorem nh_X10_end : am_hl m_X10_end = [] := rfl
theorem d_X10_init : am_d m_X10_init = 2 := rfl
theorem r_X10_init : am_r m_X10_init = (none) := rfl
theorem nh_X10_init : am_hl m_X10_init = [] := rfl
theorem d_X10_narrow : am_d m_X10_narrow = 2 := rfl
theorem r_X10_narrow : am_r m_X10_narrow = (none) := rfl
theorem nh_X10_narrow : am_hl m_X10_narrow = [] := rfl
theorem d_X10_start : am_d m_X10_start = 2 := rfl
theorem r_X10_start : am_r m_X10_start = (none) := rfl
theorem nh_X10_start : am_hl m_X10_start = [] := rfl
theorem d_X10_written : am_d m_X10_written = 2 := rfl
theorem r_X10_written : am_r m_X10_written = (some (FieldType.array FieldType.int)) := rfl
theorem nh_X10_written : am_hl m_X10_written = [] := rfl
theorem d_X1_bordering : am_d m_X1_bordering = 2 := rfl
theorem r_X1_bordering : am_r m_X1_bordering = (some FieldType.int) := rfl
theorem nh_X1_bordering : am_hl m_X1_bordering = [] := rfl
theorem d_X1_fromBorder : am_d m_X1_fromBorder = 2 := rfl
theorem r_X1_fromBorder : am_r m_X1_fromBorder = (some FieldType.int) := rfl
theorem nh_X1_fromBorder : am_hl m_X1_fromBorder = [] := rfl
theorem d_X1_guessError : am_d m_X1_guessError = 2 := rfl
theorem r_X1_guessError : am_r m_X1_guessError = (some FieldType.int) := rfl
theorem nh_X1_guessError : am_hl m_X1_guessError = [] := rfl
theorem d_X1_levelOf : am_d m_X1_levelOf = 2 := rfl
theorem r_X1_levelOf : am_r m_X1_levelOf = (some FieldType.int) := rfl
theorem nh_X1_levelOf : am_hl m_X1_levelOf = [] := rfl
theorem d_X1_smoothPair : am_d m_X1_smoothPair = 2 := rfl
theorem r_X1_smoothPair : am_r m_X1_smoothPair = (none) := rfl
theorem nh_X1_smoothPair : am_hl m_X1_smoothPair = [] := rfl
theorem d_X1_transformLine : am_d m_X1_transformLine = 2 := rfl
theorem r_X1_transformLine : am_r m_X1_transformLine = (none) := rfl
theorem nh_X1_transformLine : am_hl m_X1_transformLine = [] := rfl
theorem d_X2_isToSplit : am_d m_X2_isToSplit = 2 := rfl
theorem r_X2_isToSplit : am_r m_X2_isToSplit = (some FieldType.boolean) := rfl
theorem nh_X2_isToSplit : am_hl m_X2_isToSplit = [] := rfl
theorem d_X3_conceal : am_d m_X3_conceal = 2 := rfl
theorem r_X3_conceal : am_r m_X3_conceal = (none) := rfl
theorem nh_X3_conceal : am_hl m_X3_conceal = [] := rfl
theorem d_X3_keep : am_d m_X3_keep = 2 := rfl
theorem r_X3_keep : am_r m_X3_keep = (none) := rfl
theorem nh_X3_keep : am_hl m_X3_keep = [] := rfl
theorem d_X3_leansOnClean : am_d m_X3_leansOnClean = 2 := rfl
theorem r_X3_leansOnClean : am_r m_X3_leansOnClean = (some FieldType.boolean) := rfl
theorem nh_X3_leansOnClean : am_hl m_X3_leansOnClean = [] := rfl
theorem d_X3_startAt : am_d m_X3_startAt = 2 := rfl
theorem r_X3_startAt : am_r m_X3_startAt = (none) := rfl
theorem nh_X3_startAt : am_hl m_X3_startAt = [] := rfl
theorem d_X4_between : am_d m_X4_between = 2 := rfl
theorem r_X4_between : am_r m_X4_between = (some FieldType.int) := rfl
theorem nh_X4_between : am_hl m_X4_between = [] := rfl
theorem d_X4_guessed : am_d m_X4_guessed = 2 := rfl
theorem r_X4_guessed : am_r m_X4_guessed = (some FieldType.int) := rfl
theorem nh_X4_guessed : am_hl m_X4_guessed = [] := rfl
theorem d_X4_init : am_d m_X4_init = 2 := rfl
theorem r_X4_init : am_r m_X4_init = (none) := rfl
theorem nh_X4_init : am_hl m_X4_init = [] := rfl
theorem d_X4_rowDifference : am_d m_X4_rowDifference = 2 := rfl
theorem r_X4_rowDifference : am_r m_X4_rowDifference = (some FieldType.int) := rfl
theorem nh_X4_rowDifference : am_hl m_X4_rowDifference = [] := rfl
theorem d_X5_init : am_d m_X5_init = 2 := rfl
theorem r_X5_init : am_r m_X5_init = (none) := rfl
theorem nh_X5_init : am_hl m_X5_init = [] := rfl
theorem d_X6_finish : am_d m_X6_finish = 2 := rfl
theorem r_X6_finish : am_r m_X6_finish = (none) := rfl
theorem nh_X6_finish : am_hl m_X6_finish = [] := rfl
theorem d_X6_init : am_d m_X6_init = 2 := rfl
theorem r_X6_init : am_r m_X6_init = (none) := rfl
theorem nh_X6_init : am_hl m_X6_init = [] := rfl
theorem d_X6_isSplitAt : am_d m_X6_isSplitAt = 2 := rfl
theorem r_X6_isSplitAt : am_r m_X6_isSplitAt = (some FieldType.boolean) := rfl
theorem nh_X6_isSplitAt : am_hl m_X6_isSplitAt = [] := rfl
theorem d_X6_modeCount : am_d m_X6_modeCount = 2 := rfl
theorem r_X6_modeCount : am_r m_X6_modeCount = (some FieldType.int) := rfl
theorem nh_X6_modeCount : am_hl m_X6_modeCount = [] := rfl
theorem d_X6_note : am_d m_X6_note = 2 := rfl
theorem r_X6_note : am_r m_X6_note = (none) := rfl
theorem nh_X6_note : am_hl m_X6_note = [] := rfl
theorem d_X6_topOf : am_d m_X6_topOf = 2 := rfl
theorem r_X6_topOf : am_r m_X6_topOf = (some FieldType.int) := rfl
theorem nh_X6_topOf : am_hl m_X6_topOf = [] := rfl
theorem d_X9_length : am_d m_X9_length = 2 := rfl
theorem r_X9_length : am_r m_X9_length = (some FieldType.int) := rfl
theorem nh_X9_length : am_hl m_X9_length = [] := rfl
theorem d_X10_bit : am_d m_X10_bit = 3 := rfl
theorem r_X10_bit : am_r m_X10_bit = (none) := rfl
theorem nh_X10_bit : am_hl m_X10_bit = [] := rfl
theorem d_X10_plain : am_d m_X10_plain = 3 := rfl
theorem r_X10_plain : am_r m_X10_plain = (none) := rfl
theorem nh_X10_plain : am_hl m_X10_plain = [] := rfl
theorem d_X11_takeDraft : am_d m_X11_takeDraft = 3 := rfl
theorem r_X11_takeDraft : am_r m_X11_takeDraft = (none) := rfl
theorem nh_X11_takeDraft : am_hl m_X11_takeDraft = [] := rfl
theorem d_X1_fromKept : am_d m_X1_fromKept = 3 := rfl
theorem r_X1_fromKept : am_r m_X1_fromKept = (some FieldType.int) := rfl
theorem nh_X1_fromKept : am_hl m_X1_fromKept = [] := rfl
theorem d_X1_init : am_d m_X1_init = 3 := rfl
theorem r_X1_init : am_r m_X1_init = (none) := rfl
theorem nh_X1_init : am_hl m_X1_init = [] := rfl
theorem d_X1_smooth : am_d m_X1_smooth = 3 := rfl
theorem r_X1_smooth : am_r m_X1_smooth = (none) := rfl
theorem nh_X1_smooth : am_hl m_X1_smooth = [] := rfl
theorem d_X1_takeBorder : am_d m_X1_takeBorder = 3 := rfl
theorem r_X1_takeBorder : am_r m_X1_takeBorder = (none) := rfl
theorem nh_X1_takeBorder : am_hl m_X1_takeBorder = [] := rfl
theorem d_X1_transform : am_d m_X1_transform = 3 := rfl
theorem r_X1_transform : am_r m_X1_transform = (none) := rfl
theorem nh_X1_transform : am_hl m_X1_transform = [] := rfl
theorem d_X4_costOf : am_d m_X4_costOf = 3 := rfl
theorem r_X4_costOf : am_r m_X4_costOf = (some FieldType.int) := rfl
theorem nh_X4_costOf : am_hl m_X4_costOf = [] := rfl
theorem d_X4_take : am_d m_X4_take = 3 := rfl
theorem r_X4_take : am_r m_X4_take = (none) := rfl
theorem nh_X4_take : am_hl m_X4_take = [] := rfl
theorem d_X5_extraCost : am_d m_X5_extraCost = 3 := rfl
theorem r_X5_extraCost : am_r m_X5_extraCost = (some FieldType.int) := rfl
theorem nh_X5_extraCost : am_hl m_X5_extraCost = [] := rfl
theorem d_X6_recall : am_d m_X6_recall = 3 := rfl
theorem r_X6_recall : am_r m_X6_recall = (none) := rfl
theorem nh_X6_recall : am_hl m_X6_recall = [] := rfl
theorem d_X6_startsPart : am_d m_X6_startsPart = 3 := rfl
theorem r_X6_startsPart : am_r m_X6_startsPart = (some FieldType.boolean) := rfl
theorem nh_X6_startsPart : am_hl m_X6_startsPart = [] := rfl
theorem d_X8_init : am_d m_X8_init = 3 := rfl
theorem r_X8_init : am_r m_X8_init = (none) := rfl
theorem nh_X8_init : am_hl m_X8_init = [] := rfl
theorem d_X8_slice : am_d m_X8_slice = 3 := rfl
theorem r_X8_slice : am_r m_X8_slice = (some (FieldType.array FieldType.int)) := rfl
theorem nh_X8_slice : am_hl m_X8_slice = [] := rfl
theorem d_X10_number : am_d m_X10_number = 4 := rfl
theorem r_X10_number : am_r m_X10_number = (none) := rfl
theorem nh_X10_number : am_hl m_X10_number = [] := rfl
theorem d_X1_buildSquare : am_d m_X1_buildSquare = 4 := rfl
theorem r_X1_buildSquare : am_r m_X1_buildSquare = (none) := rfl
theorem nh_X1_buildSquare : am_hl m_X1_buildSquare = [] := rfl
theorem d_X1_guessPart : am_d m_X1_guessPart = 4 := rfl
theorem r_X1_guessPart : am_r m_X1_guessPart = (none) := rfl
theorem nh_X1_guessPart : am_hl m_X1_guessPart = [] := rfl
theorem d_X1_levelSquare : am_d m_X1_levelSquare = 4 := rfl
theorem r_X1_levelSquare : am_r m_X1_levelSquare = (none) := rfl
theorem nh_X1_levelSquare : am_hl m_X1_levelSquare = [] := rfl
theorem d_X2_init : am_d m_X2_init = 4 := rfl
theorem r_X2_init : am_r m_X2_init = (none) := rfl
theorem nh_X2_init : am_hl m_X2_init = [] := rfl
theorem d_X2_lean : am_d m_X2_lean = 4 := rfl
theorem r_X2_lean : am_r m_X2_lean = (none) := rfl
theorem nh_X2_lean : am_hl m_X2_lean = [] := rfl
theorem d_X2_search : am_d m_X2_search = 4 := rfl
theorem r_X2_search : am_r m_X2_search = (some FieldType.int) := rfl
theorem nh_X2_search : am_hl m_X2_search = [] := rfl
theorem d_X3_init : am_d m_X3_init = 4 := rfl
theorem r_X3_init : am_r m_X3_init = (none) := rfl
theorem nh_X3_init : am_hl m_X3_init = [] := rfl
theorem d_X6_partsInMode : am_d m_X6_partsInMode = 4 := rfl
theorem r_X6_partsInMode : am_r m_X6_partsInMode = (some FieldType.int) := rfl
theorem nh_X6_partsInMode : am_hl m_X6_partsInMode = [] := rfl
theorem d_X8_writeLastPlace : am_d m_X8_writeLastPlace = 4 := rfl
theorem r_X8_writeLastPlace : am_r m_X8_writeLastPlace = (none) := rfl
theorem nh_X8_writeLastPlace : am_hl m_X8_writeLastPlace = [] := rfl
theorem d_X8_writeMode : am_d m_X8_writeMode = 4 := rfl
theorem r_X8_writeMode : am_r m_X8_writeMode = (none) := rfl
theorem nh_X8_writeMode : am_hl m_X8_writeMode = [] := rfl
theorem d_X11_init : am_d m_X11_init = 5 := rfl
theorem r_X11_init : am_r m_X11_init = (none) := rfl
theorem nh_X11_init : am_hl m_X11_init = [] := rfl
theorem d_X2_choosePart : am_d m_X2_choosePart = 5 := rfl
theorem r_X2_choosePart : am_r m_X2_choosePart = (none) := rfl
theorem nh_X2_choosePart : am_hl m_X2_choosePart = [] := rfl
theorem d_X3_build : am_d m_X3_build = 5 := rfl
theorem r_X3_build : am_r m_X3_build = (none) := rfl
theorem nh_X3_build : am_hl m_X3_build = [] := rfl
theorem d_X8_writeSquare : am_d m_X8_writeSquare = 5 := rfl
theorem r_X8_writeSquare : am_r m_X8_writeSquare = (none) := rfl
theorem nh_X8_writeSquare : am_hl m_X8_writeSquare = [] := rfl
theorem d_X8_writeVector : am_d m_X8_writeVector = 5 := rfl
theorem r_X8_writeVector : am_r m_X8_writeVector = (some FieldType.int) := rfl
theorem nh_X8_writeVector : am_hl m_X8_writeVector = [] := rfl
theorem d_X2_choose : am_d m_X2_choose = 6 := rfl
theorem r_X2_choose : am_r m_X2_choose = (none) := rfl
theorem nh_X2_choose : am_hl m_X2_choose = [] := rfl
theorem d_X3_receive : am_d m_X3_receive = 6 := rfl
theorem r_X3_receive : am_r m_X3_receive = (none) := rfl
theorem nh_X3_receive : am_hl m_X3_receive = [] := rfl
theorem d_X8_writeSlice : am_d m_X8_writeSlice = 6 := rfl
theorem r_X8_writeSlice : am_r m_X8_writeSlice = (none) := rfl
theorem nh_X8_writeSlice : am_hl m_X8_writeSlice = [] := rfl
theorem d_X11_bucket : am_d m_X11_bucket = 8 := rfl
theorem r_X11_bucket : am_r m_X11_bucket = (some FieldType.int) := rfl
theorem nh_X11_bucket : am_hl m_X11_bucket = [] := rfl
theorem d_X11_cleanShare : am_d m_X11_cleanShare = 8 := rfl
theorem r_X11_cleanShare : am_r m_X11_cleanShare = (some FieldType.float) := rfl
theorem nh_X11_cleanShare : am_hl m_X11_cleanShare = [] := rfl
theorem d_X11_fill : am_d m_X11_fill = 8 := rfl
theorem r_X11_fill : am_r m_X11_fill = (some FieldType.int) := rfl
theorem nh_X11_fill : am_hl m_X11_fill = [] := rfl
theorem d_X11_grain : am_d m_X11_grain = 8 := rfl
theorem r_X11_grain : am_r m_X11_grain = (some FieldType.int) := rfl
theorem nh_X11_grain : am_hl m_X11_grain = [] := rfl
theorem d_X11_join : am_d m_X11_join = 8 := rfl
theorem r_X11_join : am_r m_X11_join = (some FieldType.int) := rfl
theorem nh_X11_join : am_hl m_X11_join = [] := rfl
theorem d_X11_keptAt : am_d m_X11_keptAt = 8 := rfl
theorem r_X11_keptAt : am_r m_X11_keptAt = (some FieldType.int) := rfl
theorem nh_X11_keptAt : am_hl m_X11_keptAt = [] := rfl
theorem d_X11_move : am_d m_X11_move = 8 := rfl
theorem r_X11_move : am_r m_X11_move = (some FieldType.int) := rfl
theorem nh_X11_move : am_hl m_X11_move = [] := rfl
theorem d_X11_pictureAt : am_d m_X11_pictureAt = 8 := rfl
theorem r_X11_pictureAt : am_r m_X11_pictureAt = (some (FieldType.object "BlockCast$Picture")) := rfl
theorem nh_X11_pictureAt : am_hl m_X11_pictureAt = [] := rfl
theorem d_X11_refuseNoPixel : am_d m_X11_refuseNoPixel = 8 := rfl
theorem r_X11_refuseNoPixel : am_r m_X11_refuseNoPixel = (none) := rfl
theorem nh_X11_refuseNoPixel : am_hl m_X11_refuseNoPixel = [] := rfl
theorem d_X11_refuseNothingShown : am_d m_X11_refuseNothingShown = 8 := rfl
theorem r_X11_refuseNothingShown : am_r m_X11_refuseNothingShown = (none) := rfl
theorem nh_X11_refuseNothingShown : am_hl m_X11_refuseNothingShown = [] := rfl
theorem d_X11_setBucket : am_d m_X11_setBucket = 8 := rfl
theorem r_X11_setBucket : am_r m_X11_setBucket = (some FieldType.int) := rfl
theorem nh_X11_setBucket : am_hl m_X11_setBucket = [] := rfl
theorem d_X11_setCoarseness : am_d m_X11_setCoarseness = 8 := rfl
theorem r_X11_setCoarseness : am_r m_X11_setCoarseness = (some FieldType.int) := rfl
theorem nh_X11_setCoarseness : am_hl m_X11_setCoarseness = [] := rfl
theorem d_X11_setSlices : am_d m_X11_setSlices = 8 := rfl
theorem r_X11_setSlices : am_r m_X11_setSlices = (some FieldType.int) := rfl
theorem nh_X11_setSlices : am_hl m_X11_setSlices = [] := rfl
theorem d_X11_setTools : am_d m_X11_setTools = 8 := rfl
theorem r_X11_setTools : am_r m_X11_setTools = (some FieldType.int) := rfl
theorem nh_X11_setTools : am_hl m_X11_setTools = [] := rfl
theorem d_X11_slope : am_d m_X11_slope = 8 := rfl
theorem r_X11_slope : am_r m_X11_slope = (some FieldType.int) := rfl
theorem nh_X11_slope : am_hl m_X11_slope = [] := rfl
theorem d_L_bucket : am_d m_L_bucket = 9 := rfl
theorem r_L_bucket : am_r m_L_bucket = (some FieldType.int) := rfl
theorem d_L_paint : am_d m_L_paint = 9 := rfl
theorem r_L_paint : am_r m_L_paint = (some FieldType.int) := rfl
theorem d_X11_built : am_d m_X11_built = 9 := rfl
theorem r_X11_built : am_r m_X11_built = (some FieldType.int) := rfl
theorem nh_X11_built : am_hl m_X11_built = [] := rfl
theorem d_X11_coarsenessOf : am_d m_X11_coarsenessOf = 9 := rfl
theorem r_X11_coarsenessOf : am_r m_X11_coarsenessOf = (some FieldType.int) := rfl
theorem nh_X11_coarsenessOf : am_hl m_X11_coarsenessOf = [] := rfl
theorem d_X11_commonest : am_d m_X11_commonest = 9 := rfl
theorem r_X11_commonest : am_r m_X11_commonest = (some FieldType.int) := rfl
theorem nh_X11_commonest : am_hl m_X11_commonest = [] := rfl
theorem d_X11_drift : am_d m_X11_drift = 9 := rfl
theorem r_X11_drift : am_r m_X11_drift = (some FieldType.int) := rfl
theorem nh_X11_drift : am_hl m_X11_drift = [] := rfl
theorem d_X11_heavierThan : am_d m_X11_heavierThan = 9 := rfl
theorem r_X11_heavierThan : am_r m_X11_heavierThan = (some FieldType.int) := rfl
theorem nh_X11_heavierThan : am_hl m_X11_heavierThan = [] := rfl
theorem d_X11_isClean : am_d m_X11_isClean = 9 := rfl
theorem r_X11_isClean : am_r m_X11_isClean = (some FieldType.boolean) := rfl
theorem nh_X11_isClean : am_hl m_X11_isClean = [] := rfl
theorem d_X11_keptPixels : am_d m_X11_keptPixels = 9 := rfl
theorem r_X11_keptPixels : am_r m_X11_keptPixels = (some (FieldType.array FieldType.int)) := rfl
theorem nh_X11_keptPixels : am_hl m_X11_keptPixels = [] := rfl
theorem d_X11_kindOf : am_d m_X11_kindOf = 9 := rfl
theorem r_X11_kindOf : am_r m_X11_kindOf = (some FieldType.char) := rfl
theorem nh_X11_kindOf : am_hl m_X11_kindOf = [] := rfl
theorem d_X11_levelAt : am_d m_X11_levelAt = 9 := rfl
theorem r_X11_levelAt : am_r m_X11_levelAt = (some FieldType.int) := rfl
theorem nh_X11_levelAt : am_hl m_X11_levelAt = [] := rfl
theorem d_X11_meanBits : am_d m_X11_meanBits = 9 := rfl
theorem r_X11_meanBits : am_r m_X11_meanBits = (some FieldType.double) := rfl
theorem nh_X11_meanBits : am_hl m_X11_meanBits = [] := rfl
theorem d_X11_modeAt : am_d m_X11_modeAt = 9 := rfl
theorem r_X11_modeAt : am_r m_X11_modeAt = (some FieldType.int) := rfl
theorem nh_X11_modeAt : am_hl m_X11_modeAt = [] := rfl
theorem d_X11_partAt : am_d m_X11_partAt = 9 := rfl
theorem r_X11_partAt : am_r m_X11_partAt = (some FieldType.int) := rfl
theorem nh_X11_partAt : am_hl m_X11_partAt = [] := rfl
theorem d_X11_pixel : am_d m_X11_pixel = 9 := rfl
theorem r_X11_pixel : am_r m_X11_pixel = (some FieldType.int) := rfl
theorem nh_X11_pixel : am_hl m_X11_pixel = [] := rfl
theorem d_X11_send : am_d m_X11_send = 9 := rfl
theorem r_X11_send : am_r m_X11_send = (some FieldType.char) := rfl
theorem nh_X11_send : am_hl m_X11_send = [] := rfl
theorem d_X11_shown : am_d m_X11_shown = 9 := rfl
theorem r_X11_shown : am_r m_X11_shown = (some FieldType.int) := rfl
theorem nh_X11_shown : am_hl m_X11_shown = [] := rfl
theorem d_X11_shownAt : am_d m_X11_shownAt = 9 := rfl
theorem r_X11_shownAt : am_r m_X11_shownAt = (some FieldType.int) := rfl
theorem nh_X11_shownAt : am_hl m_X11_shownAt = [] := rfl
theorem d_X11_vectorAt : am_d m_X11_vectorAt = 9 := rfl
theorem r_X11_vectorAt : am_r m_X11_vectorAt = (some FieldType.int) := rfl
theorem nh_X11_vectorAt : am_hl m_X11_vectorAt = [] := rfl
theorem d_L_figure : am_d m_L_figure = 10 := rfl
theorem r_L_figure : am_r m_L_figure = (some FieldType.double) := rfl
theorem d_L_pixel : am_d m_L_pixel = 10 := rfl
theorem r_L_pixel : am_r m_L_pixel = (some FieldType.int) := rfl
theorem d_X11_code : am_d m_X11_code = 10 := rfl
theorem r_X11_code : am_r m_X11_code = (some FieldType.int) := rfl
theorem nh_X11_code : am_hl m_X11_code = [] := rfl
theorem d_X11_heaviest : am_d m_X11_heaviest = 10 := rfl
theorem r_X11_heaviest : am_r m_X11_heaviest = (some FieldType.int) := rfl
theorem nh_X11_heaviest : am_hl m_X11_heaviest = [] := rfl
theorem d_L_ask : am_d m_L_ask = 11 := rfl
theorem r_L_ask : am_r m_L_ask = (some FieldType.int) := rfl
theorem d_L_code : am_d m_L_code = 11 := rfl
theorem r_L_code : am_r m_L_code = (some FieldType.int) := rfl
theorem d_L_isLike : am_d m_L_isLike = 11 := rfl
theorem r_L_isLike : am_r m_L_isLike = (some FieldType.boolean) := rfl
theorem nh_L_isLike : am_hl m_L_isLike = [] := rfl
theorem d_L_flatIsGood : am_d m_L_flatIsGood = 12 := rfl
theorem r_L_flatIsGood : am_r m_L_flatIsGood = (some FieldType.boolean) := rfl
theorem nh_L_flatIsGood : am_hl m_L_flatIsGood = [] := rfl
theorem d_L_paints : am_d m_L_paints = 12 := rfl
theorem r_L_paints : am_r m_L_paints = (some FieldType.boolean) := rfl
theorem nh_L_paints : am_hl m_L_paints = [] := rfl
theorem d_L_law : am_d m_L_law = 13 := rfl
theorem r_L_law : am_r m_L_law = (some .boolean) := rfl
theorem nh_L_law : am_hl m_L_law = [] := rfl
theorem c_L_at {m pc pc' z : Nat} {kz : Int} {L st : List Value} {h : am_H} {v0 : Value} {x1 : Int32} (hi : am_i m pc = some (pc, .invokestatic z, 3, [0], kz)) (hd : 1 < am_d m) (hA0 : isA v0) (hs : stOk st) (hp : pc + 3 = pc') : rn m pc L (.int x1 :: v0 :: st) h = cl m pc' L st (rn m_L_at 0 [v0, .int x1] [] h) := tq_callS (mj := m_L_at) hi (fun k => rfl) (by rw [d_L_at]; exact hd) (gd_A hA0 (gd_I gd_nil)) hs hp rfl
theorem c_L_some {m pc pc' z : Nat} {kz : Int} {L st : List Value} {h : am_H} {x0 : Int32} {x1 : Int32} (hi : am_i m pc = some (pc, .invokestatic z, 3, [1], kz)) (hd : 1 < am_d m) (hs : stOk st) (hp : pc + 3 = pc') : rn m pc L (.int x1 :: .int x0 :: st) h = cl m pc' L st (rn m_L_some 0 [.int x0, .int x1, am_J] [] h) := tq_callS (mj := m_L_some) hi (fun k => rfl) (by rw [d_L_some]; exact hd) (gd_I (gd_I gd_nil)) hs hp rfl
theorem c_X0_filledWith {m pc pc' z : Nat} {kz : Int} {L st : List Value} {h : am_H} {b : Nat} {x0 : Int32} (hi : am_i m pc = some (pc, .invokevirtual z, 3, [2, 0], kz)) (q : sh h b = (5, 0)) (hd : 1 < am_d m) (hs : stOk st) (hp : pc + 3 = pc') : rn m pc L (.int x0 :: .ref b :: st) h = cl m pc' L st (rn m_X0_filledWith 0 [.ref b, .int x0] [] h) := tq_callV (mj := m_X0_filledWith) hi q (fun k => rfl) (by rw [d_X0_filledWith]; exact hd) (gd_A (isA_ref _) (gd_I gd_nil)) hs hp rfl
theorem c_X0_isThere {m pc pc' z : Nat} {kz : Int} {L st : List Value} {h : am_H} {b : Nat} (hi : am_i m pc = some (pc, .invokevirtual z, 3, [3, 0], kz)) (q : sh h b = (5, 0)) (hd : 1 < am_d m) (hs : stOk st) (hp : pc + 3 = pc') : rn m pc L (.ref b :: st) h = cl m pc' L st (rn m_X0_isThere 0 [.ref b] [] h) := tq_callV (mj := m_X0_isThere) hi q (fun k => rfl) (by rw [d_X0_isThere]; exact hd) (gd_A (isA_ref _) gd_nil) hs hp rfl
theorem c_X0_put {m pc pc' z : Nat} {kz : Int} {L st : List Value} {h : am_H} {b : Nat} {x0 : Int32} {x1 : Int32} (hi : am_i m pc = some (pc, .invokevirtual z, 3, [4, 0], kz)) (q : sh h b = (5, 0)) (hd : 1 < am_d m) (hs : stOk st) (hp : pc + 3 = pc') : rn m pc L (.int x1 :: .int x0 :: .ref b :: st) h = cl m pc' L st (rn m_X0_put 0 [.ref b, .int x0, .int x1] [] h) := tq_callV (mj := m_X0_put) hi q (fun k => rfl) (by rw [d_X0_put]; exact hd) (gd_A (isA_ref _) (gd_I (gd_I gd_nil))) hs hp rfl
theorem c_X10_giveByte {m pc pc' z : Nat} {kz : Int} {L st : List Value} {h : am_H} {b : Nat} (hi : am_i m pc = some (pc, .invokevirtual z, 3, [5, 8], kz)) (q : sh h b = (5, 8)) (hd : 1 < am_d m) (hs : stOk st) (hp : pc + 3 = pc') : rn m pc L (.ref b :: st) h = cl m pc' L st (rn m_X10_giveByte 0 [.ref b] [] h) := tq_callV (mj := m_X10_giveByte) hi q (fun k => rfl) (by rw [d_X10_giveByte]; exact hd) (gd_A (isA_ref _) gd_nil) hs hp rfl
theorem c_X11_columnOf {m pc pc' z : Nat} {kz : Int} {L st : List Value} {h : am_H} {x0 : Int32} (hi : am_i m pc = some (pc, .invokestatic z, 3, [6], kz)) (hd : 1 < am_d m) (hs : stOk st) (hp : pc + 3 = pc') : rn m pc L (.int x0 :: st) h = cl m pc' L st (rn m_X11_columnOf 0 [.int x0] [] h) := tq_callS (mj := m_X11_columnOf) hi (fun k => rfl) (by rw [d_X11_columnOf]; exact hd) (gd_I gd_nil) hs hp rfl
theorem c_X11_inPicture {m pc pc' z : Nat} {kz : Int} {L st : List Value} {h : am_H} {x0 : Int32} (hi : am_i m pc = some (pc, .invokestatic z, 3, [7], kz)) (hd : 1 < am_d m) (hs : stOk st) (hp : pc + 3 = pc') : rn m pc L (.int x0 :: st) h = cl m pc' L st (rn m_X11_inPicture 0 [.int x0] [] h) := tq_callS (mj := m_X11_inPicture) hi (fun k => rfl) (by rw [d_X11_inPicture]; exact hd) (gd_I gd_nil) hs hp rfl
theorem c_X11_isKeptPlace {m pc pc' z : Nat} {kz : Int} {L st : List Value} {h : am_H} {b : Nat} {x0 : Int32} (hi : am_i m pc = some (pc, .invokevirtual z, 3, [8, 9], kz)) (q : sh h b = (5, 9)) (hd : 1 < am_d m) (hs : stOk st) (hp : pc + 3 = pc') : rn m pc L (.int x0 :: .ref b :: st) h = cl m pc' L st (rn m_X11_isKeptPlace 0 [.ref b, .int x0] [] h) := tq_callV (mj := m_X11_isKeptPlace) hi q (fun k => rfl) (by rw [d_X11_isKeptPlace]; exact hd) (gd_A (isA_ref _) (gd_I gd_nil)) hs hp rfl
theorem c_X11_isOnCanvas {m pc pc' z : Nat} {kz : Int} {L st : List Value} {h : am_H} {x0 : Int32} {x1 : Int32} (hi : am_i m pc = some (pc, .invokestatic z, 3, [9], kz)) (hd : 1 < am_d m) (hs : stOk st) (hp : pc + 3 = pc') : rn m pc L (.int x1 :: .int x0 :: st) h = cl m pc' L st (rn m_X11_isOnCanvas 0 [.int x0, .int x1] [] h) := tq_callS (mj := m_X11_isOnCanvas) hi (fun k => rfl) (by rw [d_X11_isOnCanvas]; exact hd) (gd_I (gd_I gd_nil)) hs hp rfl
theorem c_X11_isValue {m pc pc' z : Nat} {kz : Int} {L st : List Value} {h : am_H} {x0 : Int32} (hi : am_i m pc = some (pc, .invokestatic z, 3, [10], kz)) (hd : 1 < am_d m) (hs : stOk st) (hp : pc + 3 = pc') : rn m pc L (.int x0 :: st) h = cl m pc' L st (rn m_X11_isValue 0 [.int x0] [] h) := tq_callS (mj := m_X11_isValue) hi (fun k => rfl) (by rw [d_X11_isValue]; exact hd) (gd_I gd_nil) hs hp rfl
theorem c_X11_kept {m pc pc' z : Nat} {kz : Int} {L st : List Value} {h : am_H} {b : Nat} (hi : am_i m pc = some (pc, .invokevirtual z, 3, [11, 9], kz)) (q : sh h b = (5, 9)) (hd : 1 < am_d m) (hs : stOk st) (hp : pc + 3 = pc') : rn m pc L (.ref b :: st) h = cl m pc' L st (rn m_X11_kept 0 [.ref b] [] h) := tq_callV (mj := m_X11_kept) hi q (fun k => rfl) (by rw [d_X11_kept]; exact hd) (gd_A (isA_ref _) gd_nil) hs hp rfl
theorem c_X11_pictures {m pc pc' z : Nat} {kz : Int} {L st : List Value} {h : am_H} {b : Nat} (hi : am_i m pc = some (pc, .invokevirtual z, 3, [12, 9], kz)) (q : sh h b = (5, 9)) (hd : 1 < am_d m) (hs : stOk st) (hp : pc + 3 = pc') : rn m pc L (.ref b :: st) h = cl m pc' L st (rn m_X11_pictures 0 [.ref b] [] h) := tq_callV (mj := m_X11_pictures) hi q (fun k => rfl) (by rw [d_X11_pictures]; exact hd) (gd_A (isA_ref _) gd_nil) hs hp rfl
theorem c_X11_placeOf {m pc pc' z : Nat} {kz : Int} {L st : List Value} {h : am_H} {x0 : Int32} {x1 : Int32} (hi : am_i m pc = some (pc, .invokestatic z, 3, [13], kz)) (hd : 1 < am_d m) (hs : stOk st) (hp : pc + 3 = pc') : rn m pc L (.int x1 :: .int x0 :: st) h = cl m pc' L st (rn m_X11_placeOf 0 [.int x0, .int x1] [] h) := tq_callS (mj := m_X11_placeOf) hi (fun k => rfl) (by rw [d_X11_placeOf]; exact hd) (gd_I (gd_I gd_nil)) hs hp rfl
theorem c_X11_rowOf {m pc pc' z : Nat} {kz : Int} {L st : List Value} {h : am_H} {x0 : Int32} (hi : am_i m pc = some (pc, .invokestatic z, 3, [14], kz)) (hd : 1 < am_d m) (hs : stOk st) (hp : pc + 3 = pc') : rn m pc L (.int x0 :: st) h = cl m pc' L st (rn m_X11_rowOf 0 [.int x0] [] h) := tq_callS (mj := m_X11_rowOf) hi (fun k => rfl) (by rw [d_X11_rowOf]; exact hd) (gd_I gd_nil) hs hp rfl
theorem c_X11_squareAt {m pc pc' z : Nat} {kz : Int} {L st : List Value} {h : am_H} {x0 : Int32} {x1 : Int32} (hi : am_i m pc = some (pc, .invokestatic z, 3, [15], kz)) (hd : 1 < am_d m) (hs : stOk st) (hp : pc + 3 = pc') : rn m pc L (.int x1 :: .int x0 :: st) h = cl m pc' L st (rn m_X11_squareAt 0 [.int x0, .int x1, am_J] [] h) := tq_callS (mj := m_X11_squareAt) hi (fun k => rfl) (by rw [d_X11_squareAt]; exact hd) (gd_I (gd_I gd_nil)) hs hp rfl
theorem c_X11_startsBlock {m pc pc' z : Nat} {kz : Int} {L st : List Value} {h : am_H} {x0 : Int32} (hi : am_i m pc = some (pc, .invokestatic z, 3, [16], kz)) (hd : 1 < am_d m) (hs : stOk st) (hp : pc + 3 = pc') : rn m pc L (.int x0 :: st) h = cl m pc' L st (rn m_X11_startsBlock 0 [.int x0] [] h) := tq_callS (mj := m_X11_startsBlock) hi (fun k => rfl) (by rw [d_X11_startsBlock]; exact hd) (gd_I gd_nil) hs hp rfl
theorem c_X11_withinValues {m pc pc' z : Nat} {kz : Int} {L st : List Value} {h : am_H} {x0 : Int32} (hi : am_i m pc = some (pc, .invokestatic z, 3, [17], kz)) (hd : 1 < am_d m) (hs : stOk st) (hp : pc + 3 = pc') : rn m pc L (.int x0 :: st) h = cl m pc' L st (rn m_X11_withinValues 0 [.int x0] [] h) := tq_callS (mj := m_X11_withinValues) hi (fun k => rfl) (by rw [d_X11_withinValues]; exact hd) (gd_I gd_nil) hs hp rfl
theorem c_X4_inside {m pc pc' z : Nat} {kz : Int} {L st : List Value} {h : am_H} {x0 : Int32} (hi : am_i m pc = some (pc, .invokestatic z, 3, [18], kz)) (hd : 1 < am_d m) (hs : stOk st) (hp : pc + 3 = pc') : rn m pc L (.int x0 :: st) h = cl m pc' L st (rn m_X4_inside 0 [.int x0] [] h) := tq_callS (mj := m_X4_inside) hi (fun k => rfl) (by rw [d_X4_inside]; exact hd) (gd_I gd_nil) hs hp rfl
theorem c_X4_placeFrom {m pc pc' z : Nat} {kz : Int} {L st : List Value} {h : am_H} {x0 : Int32} {x1 : Int32} {x2 : Int32} (hi : am_i m pc = some (pc, .invokestatic z, 3, [19], kz)) (hd : 1 < am_d m) (hs : stOk st) (hp : pc + 3 = pc') : rn m pc L (.int x2 :: .int x1 :: .int x0 :: st) h = cl m pc' L st (rn m_X4_placeFrom 0 [.int x0, .int x1, .int x2] [] h) := tq_callS (mj := m_X4_placeFrom) hi (fun k => rfl) (by rw [d_X4_placeFrom]; exact hd) (gd_I (gd_I (gd_I gd_nil))) hs hp rfl
theorem c_X5_isOfBorder {m pc pc' z : Nat} {kz : Int} {L st : List Value} {h : am_H} {b : Nat} (hi : am_i m pc = some (pc, .invokevirtual z, 3, [20, 5], kz)) (q : sh h b = (5, 5)) (hd : 1 < am_d m) (hs : stOk st) (hp : pc + 3 = pc') : rn m pc L (.ref b :: st) h = cl m pc' L st (rn m_X5_isOfBorder 0 [.ref b] [] h) := tq_callV (mj := m_X5_isOfBorder) hi q (fun k => rfl) (by rw [d_X5_isOfBorder]; exact hd) (gd_A (isA_ref _) gd_nil) hs hp rfl
theorem c_X5_lay {m pc pc' z : Nat} {kz : Int} {L st : List Value} {h : am_H} {b : Nat} {x0 : Int32} {x1 : Int32} {x2 : Int32} {x3 : Int32} (hi : am_i m pc = some (pc, .invokevirtual z, 3, [21, 5], kz)) (q : sh h b = (5, 5)) (hd : 1 < am_d m) (hs : stOk st) (hp : pc + 3 = pc') : rn m pc L (.int x3 :: .int x2 :: .int x1 :: .int x0 :: .ref b :: st) h = cl m pc' L st (rn m_X5_lay 0 [.ref b, .int x0, .int x1, .int x2, .int x3] [] h) := tq_callV (mj := m_X5_lay) hi q (fun k => rfl) (by rw [d_X5_lay]; exact hd) (gd_A (isA_ref _) (gd_I (gd_I (gd_I (gd_I gd_nil))))) hs hp rfl
theorem c_X5_usesFirst {m pc pc' z : Nat} {kz : Int} {L st : List Value} {h : am_H} {b : Nat} (hi : am_i m pc = some (pc, .invokevirtual z, 3, [22, 5], kz)) (q : sh h b = (5, 5)) (hd : 1 < am_d m) (hs : stOk st) (hp : pc + 3 = pc') : rn m pc L (.ref b :: st) h = cl m pc' L st (rn m_X5_usesFirst 0 [.ref b] [] h) := tq_callV (mj := m_X5_usesFirst) hi q (fun k => rfl) (by rw [d_X5_usesFirst]; exact hd) (gd_A (isA_ref _) gd_nil) hs hp rfl
theorem c_X5_usesSecond {m pc pc' z : Nat} {kz : Int} {L st : List Value} {h : am_H} {b : Nat} (hi : am_i m pc = some (pc, .invokevirtual z, 3, [23, 5], kz)) (q : sh h b = (5, 5)) (hd : 1 < am_d m) (hs : stOk st) (hp : pc + 3 = pc') : rn m pc L (.ref b :: st) h = cl m pc' L st (rn m_X5_usesSecond 0 [.ref b] [] h) := tq_callV (mj := m_X5_usesSecond) hi q (fun k => rfl) (by rw [d_X5_usesSecond]; exact hd) (gd_A (isA_ref _) gd_nil) hs hp rfl
theorem c_X6_bits {m pc pc' z : Nat} {kz : Int} {L st : List Value} {h : am_H} {b : Nat} (hi : am_i m pc = some (pc, .invokevirtual z, 3, [24, 6], kz)) (q : sh h b = (5, 6)) (hd : 1 < am_d m) (hs : stOk st) (hp : pc + 3 = pc') : rn m pc L (.ref b :: st) h = cl m pc' L st (rn m_X6_bits 0 [.ref b] [] h) := tq_callV (mj := m_X6_bits) hi q (fun k => rfl) (by rw [d_X6_bits]; exact hd) (gd_A (isA_ref _) gd_nil) hs hp rfl
theorem c_X6_describe {m pc pc' z : Nat} {kz : Int} {L st : List Value} {h : am_H} {b : Nat} {x0 : Int32} {x1 : Int32} {x2 : Int32} (hi : am_i m pc = some (pc, .invokevirtual z, 3, [25, 6], kz)) (q : sh h b = (5, 6)) (hd : 1 < am_d m) (hs : stOk st) (hp : pc + 3 = pc') : rn m pc L (.int x2 :: .int x1 :: .int x0 :: .ref b :: st) h = cl m pc' L st (rn m_X6_describe 0 [.ref b, .int x0, .int x1, .int x2] [] h) := tq_callV (mj := m_X6_describe) hi q (fun k => rfl) (by rw [d_X6_describe]; exact hd) (gd_A (isA_ref _) (gd_I (gd_I (gd_I gd_nil)))) hs hp rfl
theorem c_X6_has {m pc pc' z : Nat} {kz : Int} {L st : List Value} {h : am_H} {b : Nat} {x0 : Int32} (hi : am_i m pc = some (pc, .invokevirtual z, 3, [26, 6], kz)) (q : sh h b = (5, 6)) (hd : 1 < am_d m) (hs : stOk st) (hp : pc + 3 = pc') : rn m pc L (.int x0 :: .ref b :: st) h = cl m pc' L st (rn m_X6_has 0 [.ref b, .int x0] [] h) := tq_callV (mj := m_X6_has) hi q (fun k => rfl) (by rw [d_X6_has]; exact hd) (gd_A (isA_ref _) (gd_I gd_nil)) hs hp rfl
theorem c_X6_leansOnFirst {m pc pc' z : Nat} {kz : Int} {L st : List Value} {h : am_H} {b : Nat} (hi : am_i m pc = some (pc, .invokevirtual z, 3, [27, 6], kz)) (q : sh h b = (5, 6)) (hd : 1 < am_d m) (hs : stOk st) (hp : pc + 3 = pc') : rn m pc L (.ref b :: st) h = cl m pc' L st (rn m_X6_leansOnFirst 0 [.ref b] [] h) := tq_callV (mj := m_X6_leansOnFirst) hi q (fun k => rfl) (by rw [d_X6_leansOnFirst]; exact hd) (gd_A (isA_ref _) gd_nil) hs hp rfl
theorem c_X6_leansOnSecond {m pc pc' z : Nat} {kz : Int} {L st : List Value} {h : am_H} {b : Nat} (hi : am_i m pc = some (pc, .invokevirtual z, 3, [28, 6], kz)) (q : sh h b = (5, 6)) (hd : 1 < am_d m) (hs : stOk st) (hp : pc + 3 = pc') : rn m pc L (.ref b :: st) h = cl m pc' L st (rn m_X6_leansOnSecond 0 [.ref b] [] h) := tq_callV (mj := m_X6_leansOnSecond) hi q (fun k => rfl) (by rw [d_X6_leansOnSecond]; exact hd) (gd_A (isA_ref _) gd_nil) hs hp rfl
theorem c_X6_sliceOf {m pc pc' z : Nat} {kz : Int} {L st : List Value} {h : am_H} {b : Nat} {x0 : Int32} (hi : am_i m pc = some (pc, .invokevirtual z, 3, [29, 6], kz)) (q : sh h b = (5, 6)) (hd : 1 < am_d m) (hs : stOk st) (hp : pc + 3 = pc') : rn m pc L (.int x0 :: .ref b :: st) h = cl m pc' L st (rn m_X6_sliceOf 0 [.ref b, .int x0] [] h) := tq_callV (mj := m_X6_sliceOf) hi q (fun k => rfl) (by rw [d_X6_sliceOf]; exact hd) (gd_A (isA_ref _) (gd_I gd_nil)) hs hp rfl
theorem c_X6_useSettings {m pc pc' z : Nat} {kz : Int} {L st : List Value} {h : am_H} {b : Nat} {x0 : Int32} {x1 : Int32} {x2 : Int32} {x3 : Int32} (hi : am_i m pc = some (pc, .invokevirtual z, 3, [30, 6], kz)) (q : sh h b = (5, 6)) (hd : 1 < am_d m) (hs : stOk st) (hp : pc + 3 = pc') : rn m pc L (.int x3 :: .int x2 :: .int x1 :: .int x0 :: .ref b :: st) h = cl m pc' L st (rn m_X6_useSettings 0 [.ref b, .int x0, .int x1, .int x2, .int x3] [] h) := tq_callV (mj := m_X6_useSettings) hi q (fun k => rfl) (by rw [d_X6_useSettings]; exact hd) (gd_A (isA_ref _) (gd_I (gd_I (gd_I (gd_I gd_nil))))) hs hp rfl
theorem c_X7_copy {m pc pc' z : Nat} {kz : Int} {L st : List Value} {h : am_H} {v0 : Value} {v1 : Value} (hi : am_i m pc = some (pc, .invokestatic z, 3, [31], kz)) (hd : 1 < am_d m) (hA0 : isA v0) (hA1 : isA v1) (hs : stOk st) (hp : pc + 3 = pc') : rn m pc L (v1 :: v0 :: st) h = cl m pc' L st (rn m_X7_copy 0 [v0, v1, am_J] [] h) := tq_callS (mj := m_X7_copy) hi (fun k => rfl) (by rw [d_X7_copy]; exact hd) (gd_A hA0 (gd_A hA1 gd_nil)) hs hp rfl
theorem c_X7_get {m pc pc' z : Nat} {kz : Int} {L st : List Value} {h : am_H} {v0 : Value} {x1 : Int32} (hi : am_i m pc = some (pc, .invokestatic z, 3, [32], kz)) (hd : 1 < am_d m) (hA0 : isA v0) (hs : stOk st) (hp : pc + 3 = pc') : rn m pc L (.int x1 :: v0 :: st) h = cl m pc' L st (rn m_X7_get 0 [v0, .int x1] [] h) := tq_callS (mj := m_X7_get) hi (fun k => rfl) (by rw [d_X7_get]; exact hd) (gd_A hA0 (gd_I gd_nil)) hs hp rfl
theorem c_X7_put {m pc pc' z : Nat} {kz : Int} {L st : List Value} {h : am_H} {v0 : Value} {x1 : Int32} {x2 : Int32} (hi : am_i m pc = some (pc, .invokestatic z, 3, [33], kz)) (hd : 1 < am_d m) (hA0 : isA v0) (hs : stOk st) (hp : pc + 3 = pc') : rn m pc L (.int x2 :: .int x1 :: v0 :: st) h = cl m pc' L st (rn m_X7_put 0 [v0, .int x1, .int x2] [] h) := tq_callS (mj := m_X7_put) hi (fun k => rfl) (by rw [d_X7_put]; exact hd) (gd_A hA0 (gd_I (gd_I gd_nil))) hs hp rfl
theorem c_X7_set {m pc pc' z : Nat} {kz : Int} {L st : List Value} {h : am_H} {v0 : Value} {x1 : Int32} (hi : am_i m pc = some (pc, .invokestatic z, 3, [34], kz)) (hd : 1 < am_d m) (hA0 : isA v0) (hs : stOk st) (hp : pc + 3 = pc') : rn m pc L (.int x1 :: v0 :: st) h = cl m pc' L st (rn m_X7_set 0 [v0, .int x1, am_J] [] h) := tq_callS (mj := m_X7_set) hi (fun k => rfl) (by rw [d_X7_set]; exact hd) (gd_A hA0 (gd_I gd_nil)) hs hp rfl
theorem c_X7_shift {m pc pc' z : Nat} {kz : Int} {L st : List Value} {h : am_H} {v0 : Value} {x1 : Int32} (hi : am_i m pc = some (pc, .invokestatic z, 3, [35], kz)) (hd : 1 < am_d m) (hA0 : isA v0) (hs : stOk st) (hp : pc + 3 = pc') : rn m pc L (.int x1 :: v0 :: st) h = cl m pc' L st (rn m_X7_shift 0 [v0, .int x1, am_J] [] h) := tq_callS (mj := m_X7_shift) hi (fun k => rfl) (by rw [d_X7_shift]; exact hd) (gd_A hA0 (gd_I gd_nil)) hs hp rfl
theorem c_X8_bits {m pc pc' z : Nat} {kz : Int} {L st : List Value} {h : am_H} {b : Nat} (hi : am_i m pc = some (pc, .invokevirtual z, 3, [36, 7], kz)) (q : sh h b = (5, 7)) (hd : 1 < am_d m) (hs : stOk st) (hp : pc + 3 = pc') : rn m pc L (.ref b :: st) h = cl m pc' L st (rn m_X8_bits 0 [.ref b] [] h) := tq_callV (mj := m_X8_bits) hi q (fun k => rfl) (by rw [d_X8_bits]; exact hd) (gd_A (isA_ref _) gd_nil) hs hp rfl
theorem c_X9_down {m pc pc' z : Nat} {kz : Int} {L st : List Value} {h : am_H} {x0 : Int32} (hi : am_i m pc = some (pc, .invokestatic z, 3, [37], kz)) (hd : 1 < am_d m) (hs : stOk st) (hp : pc + 3 = pc') : rn m pc L (.int x0 :: st) h = cl m pc' L st (rn m_X9_down 0 [.int x0] [] h) := tq_callS (mj := m_X9_down) hi (fun k => rfl) (by rw [d_X9_down]; exact hd) (gd_I gd_nil) hs hp rfl
theorem c_X9_of {m pc pc' z : Nat} {kz : Int} {L st : List Value} {h : am_H} {x0 : Int32} {x1 : Int32} (hi : am_i m pc = some (pc, .invokestatic z, 3, [38], kz)) (hd : 1 < am_d m) (hs : stOk st) (hp : pc + 3 = pc') : rn m pc L (.int x1 :: .int x0 :: st) h = cl m pc' L st (rn m_X9_of 0 [.int x0, .int x1] [] h) := tq_callS (mj := m_X9_of) hi (fun k => rfl) (by rw [d_X9_of]; exact hd) (gd_I (gd_I gd_nil)) hs hp rfl
theorem c_X9_right {m pc pc' z : Nat} {kz : Int} {L st : List Value} {h : am_H} {x0 : Int32} (hi : am_i m pc = some (pc, .invokestatic z, 3, [39], kz)) (hd : 1 < am_d m) (hs : stOk st) (hp : pc + 3 = pc') : rn m pc L (.int x0 :: st) h = cl m pc' L st (rn m_X9_right 0 [.int x0] [] h) := tq_callS (mj := m_X9_right) hi (fun k => rfl) (by rw [d_X9_right]; exact hd) (gd_I gd_nil) hs hp rfl
theorem c_X0_hasRoomFor {m pc pc' z : Nat} {kz : Int} {L st : List Value} {h : am_H} {b : Nat} {x0 : Int32} (hi : am_i m pc = some (pc, .invokevirtual z, 3, [40, 0], kz)) (q : sh h b = (5, 0)) (hd : 2 < am_d m) (hs : stOk st) (hp : pc + 3 = pc') : rn m pc L (.int x0 :: .ref b :: st) h = cl m pc' L st (rn m_X0_hasRoomFor 0 [.ref b, .int x0] [] h) := tq_callV (mj := m_X0_hasRoomFor) hi q (fun k => rfl) (by rw [d_X0_hasRoomFor]; exact hd) (gd_A (isA_ref _) (gd_I gd_nil)) hs hp rfl
theorem c_X0_init {m pc pc' z : Nat} {kz : Int} {L st : List Value} {h : am_H} {b : Nat} (hi : am_i m pc = some (pc, .invokespecial z, 3, [41], kz)) (hd : 2 < am_d m) (hs : stOk st) (hp : pc + 3 = pc') : rn m pc L (.ref b :: st) h = cl m pc' L st (rn m_X0_init 0 [.ref b] [] h) := tq_callX (mj := m_X0_init) hi (fun k => rfl) (by rw [d_X0_init]; exact hd) (gd_A (isA_ref _) gd_nil) hs hp rfl
theorem c_X0_steer {m pc pc' z : Nat} {kz : Int} {L st : List Value} {h : am_H} {b : Nat} {x0 : Int32} (hi : am_i m pc = some (pc, .invokevirtual z, 3, [42, 0], kz)) (q : sh h b = (5, 0)) (hd : 2 < am_d m) (hs : stOk st) (hp : pc + 3 = pc') : rn m pc L (.int x0 :: .ref b :: st) h = cl m pc' L st (rn m_X0_steer 0 [.ref b, .int x0] [] h) := tq_callV (mj := m_X0_steer) hi q (fun k => rfl) (by rw [d_X0_steer]; exact hd) (gd_A (isA_ref _) (gd_I gd_nil)) hs hp rfl
theorem c_X0_take {m pc pc' z : Nat} {kz : Int} {L st : List Value} {h : am_H} {b : Nat} {x0 : Int32} (hi : am_i m pc = some (pc, .invokevirtual z, 3, [43, 0], kz)) (q : sh h b = (5, 0)) (hd : 2 < am_d m) (hs : stOk st) (hp : pc + 3 = pc') : rn m pc L (.int x0 :: .ref b :: st) h = cl m pc' L st (rn m_X0_take 0 [.ref b, .int x0] [] h) := tq_callV (mj := m_X0_take) hi q (fun k => rfl) (by rw [d_X0_take]; exact hd) (gd_A (isA_ref _) (gd_I gd_nil)) hs hp rfl
theorem c_X10_end {m pc pc' z : Nat} {kz : Int} {L st : List Value} {h : am_H} {b : Nat} (hi : am_i m pc = some (pc, .invokevirtual z, 3, [44, 8], kz)) (q : sh h b = (5, 8)) (hd : 2 < am_d m) (hs : stOk st) (hp : pc + 3 = pc') : rn m pc L (.ref b :: st) h = cl m pc' L st (rn m_X10_end 0 [.ref b, am_J] [] h) := tq_callV (mj := m_X10_end) hi q (fun k => rfl) (by rw [d_X10_end]; exact hd) (gd_A (isA_ref _) gd_nil) hs hp rfl
theorem c_X10_init {m pc pc' z : Nat} {kz : Int} {L st : List Value} {h : am_H} {b : Nat} (hi : am_i m pc = some (pc, .invokespecial z, 3, [45], kz)) (hd : 2 < am_d m) (hs : stOk st) (hp : pc + 3 = pc') : rn m pc L (.ref b :: st) h = cl m pc' L st (rn m_X10_init 0 [.ref b] [] h) := tq_callX (mj := m_X10_init) hi (fun k => rfl) (by rw [d_X10_init]; exact hd) (gd_A (isA_ref _) gd_nil) hs hp rfl
theorem c_X10_narrow {m pc pc' z : Nat} {kz : Int} {L st : List Value} {h : am_H} {b : Nat} {x0 : Int64} {x1 : Int64} (hi : am_i m pc = some (pc, .invokevirtual z, 3, [46, 8], kz)) (q : sh h b = (5, 8)) (hd : 2 < am_d m) (hs : stOk st) (hp : pc + 3 = pc') : rn m pc L (.long x1 :: .long x0 :: .ref b :: st) h = cl m pc' L st (rn m_X10_narrow 0 [.ref b, .long x0, am_J, .long x1, am_J, am_J] [] h) := tq_callV (mj := m_X10_narrow) hi q (fun k => rfl) (by rw [d_X10_narrow]; exact hd) (gd_A (isA_ref _) (gd_J (gd_J gd_nil))) hs hp rfl
theorem c_X10_start {m pc pc' z : Nat} {kz : Int} {L st : List Value} {h : am_H} {b : Nat} (hi : am_i m pc = some (pc, .invokevirtual z, 3, [47, 8], kz)) (q : sh h b = (5, 8)) (hd : 2 < am_d m) (hs : stOk st) (hp : pc + 3 = pc') : rn m pc L (.ref b :: st) h = cl m pc' L st (rn m_X10_start 0 [.ref b] [] h) := tq_callV (mj := m_X10_start) hi q (fun k => rfl) (by rw [d_X10_start]; exact hd) (gd_A (isA_ref _) gd_nil) hs hp rfl
theorem c_X10_written {m pc pc' z : Nat} {kz : Int} {L st : List Value} {h : am_H} {b : Nat} (hi : am_i m pc = some (pc, .invokevirtual z, 3, [48, 8], kz)) (q : sh h b = (5, 8)) (hd : 2 < am_d m) (hs : stOk st) (hp : pc + 3 = pc') : rn m pc L (.ref b :: st) h = cl m pc' L st (rn m_X10_written 0 [.ref b, am_J] [] h) := tq_callV (mj := m_X10_written) hi q (fun k => rfl) (by rw [d_X10_written]; exact hd) (gd_A (isA_ref _) gd_nil) hs hp rfl
theorem c_X1_bordering {m pc pc' z : Nat} {kz : Int} {L st : List Value} {h : am_H} {v0 : Value} {x1 : Int32} {x2 : Int32} {x3 : Int32} (hi : am_i m pc = some (pc, .invokestatic z, 3, [49], kz)) (hd : 2 < am_d m) (hA0 : isA v0) (hs : stOk st) (hp : pc + 3 = pc') : rn m pc L (.int x3 :: .int x2 :: .int x1 :: v0 :: st) h = cl m pc' L st (rn m_X1_bordering 0 [v0, .int x1, .int x2, .int x3] [] h) := tq_callS (mj := m_X1_bordering) hi (fun k => rfl) (by rw [d_X1_bordering]; exact hd) (gd_A hA0 (gd_I (gd_I (gd_I gd_nil)))) hs hp rfl
theorem c_X1_fromBorder {m pc pc' z : Nat} {kz : Int} {L st : List Value} {h : am_H} {b : Nat} {x0 : Int32} {x1 : Int32} {x2 : Int32} (hi : am_i m pc = some (pc, .invokevirtual z, 3, [50, 1], kz)) (q : sh h b = (5, 1)) (hd : 2 < am_d m) (hs : stOk st) (hp : pc + 3 = pc') : rn m pc L (.int x2 :: .int x1 :: .int x0 :: .ref b :: st) h = cl m pc' L st (rn m_X1_fromBorder 0 [.ref b, .int x0, .int x1, .int x2] [] h) := tq_callV (mj := m_X1_fromBorder) hi q (fun k => rfl) (by rw [d_X1_fromBorder]; exact hd) (gd_A (isA_ref _) (gd_I (gd_I (gd_I gd_nil)))) hs hp rfl
theorem c_X1_guessError {m pc pc' z : Nat} {kz : Int} {L st : List Value} {h : am_H} {b : Nat} {v0 : Value} {v1 : Value} (hi : am_i m pc = some (pc, .invokevirtual z, 3, [51, 1], kz)) (q : sh h b = (5, 1)) (hd : 2 < am_d m) (hA0 : isA v0) (hA1 : isA v1) (hs : stOk st) (hp : pc + 3 = pc') : rn m pc L (v1 :: v0 :: .ref b :: st) h = cl m pc' L st (rn m_X1_guessError 0 [.ref b, v0, v1, am_J, am_J, am_J, am_J] [] h) := tq_callV (mj := m_X1_guessError) hi q (fun k => rfl) (by rw [d_X1_guessError]; exact hd) (gd_A (isA_ref _) (gd_A hA0 (gd_A hA1 gd_nil))) hs hp rfl
theorem c_X1_levelOf {m pc pc' z : Nat} {kz : Int} {L st : List Value} {h : am_H} {x0 : Int32} {x1 : Int32} (hi : am_i m pc = some (pc, .invokestatic z, 3, [52], kz)) (hd : 2 < am_d m) (hs : stOk st) (hp : pc + 3 = pc') : rn m pc L (.int x1 :: .int x0 :: st) h = cl m pc' L st (rn m_X1_levelOf 0 [.int x0, .int x1, am_J] [] h) := tq_callS (mj := m_X1_levelOf) hi (fun k => rfl) (by rw [d_X1_levelOf]; exact hd) (gd_I (gd_I gd_nil)) hs hp rfl
theorem c_X1_smoothPair {m pc pc' z : Nat} {kz : Int} {L st : List Value} {h : am_H} {v0 : Value} {x1 : Int32} {x2 : Int32} {x3 : Int32} (hi : am_i m pc = some (pc, .invokestatic z, 3, [53], kz)) (hd : 2 < am_d m) (hA0 : isA v0) (hs : stOk st) (hp : pc + 3 = pc') : rn m pc L (.int x3 :: .int x2 :: .int x1 :: v0 :: st) h = cl m pc' L st (rn m_X1_smoothPair 0 [v0, .int x1, .int x2, .int x3, am_J, am_J, am_J] [] h) := tq_callS (mj := m_X1_smoothPair) hi (fun k => rfl) (by rw [d_X1_smoothPair]; exact hd) (gd_A hA0 (gd_I (gd_I (gd_I gd_nil)))) hs hp rfl
theorem c_X1_transformLine {m pc pc' z : Nat} {kz : Int} {L st : List Value} {h : am_H} {b : Nat} {x0 : Int32} {x1 : Int32} (hi : am_i m pc = some (pc, .invokevirtual z, 3, [54, 1], kz)) (q : sh h b = (5, 1)) (hd : 2 < am_d m) (hs : stOk st) (hp : pc + 3 = pc') : rn m pc L (.int x1 :: .int x0 :: .ref b :: st) h = cl m pc' L st (rn m_X1_transformLine 0 [.ref b, .int x0, .int x1, am_J, am_J, am_J, am_J] [] h) := tq_callV (mj := m_X1_transformLine) hi q (fun k => rfl) (by rw [d_X1_transformLine]; exact hd) (gd_A (isA_ref _) (gd_I (gd_I gd_nil))) hs hp rfl
theorem c_X2_isToSplit {m pc pc' z : Nat} {kz : Int} {L st : List Value} {h : am_H} {v0 : Value} {v1 : Value} {x2 : Int32} {x3 : Int32} (hi : am_i m pc = some (pc, .invokestatic z, 3, [55], kz)) (hd : 2 < am_d m) (hA0 : isA v0) (hA1 : isA v1) (hs : stOk st) (hp : pc + 3 = pc') : rn m pc L (.int x3 :: .int x2 :: v1 :: v0 :: st) h = cl m pc' L st (rn m_X2_isToSplit 0 [v0, v1, .int x2, .int x3, am_J, am_J, am_J, am_J, am_J] [] h) := tq_callS (mj := m_X2_isToSplit) hi (fun k => rfl) (by rw [d_X2_isToSplit]; exact hd) (gd_A hA0 (gd_A hA1 (gd_I (gd_I gd_nil)))) hs hp rfl
theorem c_X3_conceal {m pc pc' z : Nat} {kz : Int} {L st : List Value} {h : am_H} {b : Nat} {x0 : Int32} (hi : am_i m pc = some (pc, .invokevirtual z, 3, [56, 3], kz)) (q : sh h b = (5, 3)) (hd : 2 < am_d m) (hs : stOk st) (hp : pc + 3 = pc') : rn m pc L (.int x0 :: .ref b :: st) h = cl m pc' L st (rn m_X3_conceal 0 [.ref b, .int x0, am_J, am_J] [] h) := tq_callV (mj := m_X3_conceal) hi q (fun k => rfl) (by rw [d_X3_conceal]; exact hd) (gd_A (isA_ref _) (gd_I gd_nil)) hs hp rfl
theorem c_X3_keep {m pc pc' z : Nat} {kz : Int} {L st : List Value} {h : am_H} {b : Nat} (hi : am_i m pc = some (pc, .invokevirtual z, 3, [57, 3], kz)) (q : sh h b = (5, 3)) (hd : 2 < am_d m) (hs : stOk st) (hp : pc + 3 = pc') : rn m pc L (.ref b :: st) h = cl m pc' L st (rn m_X3_keep 0 [.ref b] [] h) := tq_callV (mj := m_X3_keep) hi q (fun k => rfl) (by rw [d_X3_keep]; exact hd) (gd_A (isA_ref _) gd_nil) hs hp rfl
theorem c_X3_leansOnClean {m pc pc' z : Nat} {kz : Int} {L st : List Value} {h : am_H} {b : Nat} {v0 : Value} (hi : am_i m pc = some (pc, .invokevirtual z, 3, [58, 3], kz)) (q : sh h b = (5, 3)) (hd : 2 < am_d m) (hA0 : isA v0) (hs : stOk st) (hp : pc + 3 = pc') : rn m pc L (v0 :: .ref b :: st) h = cl m pc' L st (rn m_X3_leansOnClean 0 [.ref b, v0] [] h) := tq_callV (mj := m_X3_leansOnClean) hi q (fun k => rfl) (by rw [d_X3_leansOnClean]; exact hd) (gd_A (isA_ref _) (gd_A hA0 gd_nil)) hs hp rfl
theorem c_X3_startAt {m pc pc' z : Nat} {kz : Int} {L st : List Value} {h : am_H} {b : Nat} {x0 : Int32} (hi : am_i m pc = some (pc, .invokevirtual z, 3, [59, 3], kz)) (q : sh h b = (5, 3)) (hd : 2 < am_d m) (hs : stOk st) (hp : pc + 3 = pc') : rn m pc L (.int x0 :: .ref b :: st) h = cl m pc' L st (rn m_X3_startAt 0 [.ref b, .int x0] [] h) := tq_callV (mj := m_X3_startAt) hi q (fun k => rfl) (by rw [d_X3_startAt]; exact hd) (gd_A (isA_ref _) (gd_I gd_nil)) hs hp rfl
theorem c_X4_between {m pc pc' z : Nat} {kz : Int} {L st : List Value} {h : am_H} {v0 : Value} {x1 : Int32} {x2 : Int32} {x3 : Int32} (hi : am_i m pc = some (pc, .invokestatic z, 3, [60], kz)) (hd : 2 < am_d m) (hA0 : isA v0) (hs : stOk st) (hp : pc + 3 = pc') : rn m pc L (.int x3 :: .int x2 :: .int x1 :: v0 :: st) h = cl m pc' L st (rn m_X4_between 0 [v0, .int x1, .int x2, .int x3, am_J, am_J, am_J, am_J, am_J] [] h) := tq_callS (mj := m_X4_between) hi (fun k => rfl) (by rw [d_X4_between]; exact hd) (gd_A hA0 (gd_I (gd_I (gd_I gd_nil)))) hs hp rfl
theorem c_X4_guessed {m pc pc' z : Nat} {kz : Int} {L st : List Value} {h : am_H} {b : Nat} {x0 : Int32} {x1 : Int32} {x2 : Int32} (hi : am_i m pc = some (pc, .invokevirtual z, 3, [61, 4], kz)) (q : sh h b = (5, 4)) (hd : 2 < am_d m) (hs : stOk st) (hp : pc + 3 = pc') : rn m pc L (.int x2 :: .int x1 :: .int x0 :: .ref b :: st) h = cl m pc' L st (rn m_X4_guessed 0 [.ref b, .int x0, .int x1, .int x2] [] h) := tq_callV (mj := m_X4_guessed) hi q (fun k => rfl) (by rw [d_X4_guessed]; exact hd) (gd_A (isA_ref _) (gd_I (gd_I (gd_I gd_nil)))) hs hp rfl
theorem c_X4_init {m pc pc' z : Nat} {kz : Int} {L st : List Value} {h : am_H} {b : Nat} (hi : am_i m pc = some (pc, .invokespecial z, 3, [62], kz)) (hd : 2 < am_d m) (hs : stOk st) (hp : pc + 3 = pc') : rn m pc L (.ref b :: st) h = cl m pc' L st (rn m_X4_init 0 [.ref b] [] h) := tq_callX (mj := m_X4_init) hi (fun k => rfl) (by rw [d_X4_init]; exact hd) (gd_A (isA_ref _) gd_nil) hs hp rfl
theorem c_X4_rowDifference {m pc pc' z : Nat} {kz : Int} {L st : List Value} {h : am_H} {b : Nat} {v0 : Value} {x1 : Int32} {x2 : Int32} {x3 : Int32} (hi : am_i m pc = some (pc, .invokevirtual z, 3, [63, 4], kz)) (q : sh h b = (5, 4)) (hd : 2 < am_d m) (hA0 : isA v0) (hs : stOk st) (hp : pc + 3 = pc') : rn m pc L (.int x3 :: .int x2 :: .int x1 :: v0 :: .ref b :: st) h = cl m pc' L st (rn m_X4_rowDifference 0 [.ref b, v0, .int x1, .int x2, .int x3, am_J, am_J] [] h) := tq_callV (mj := m_X4_rowDifference) hi q (fun k => rfl) (by rw [d_X4_rowDifference]; exact hd) (gd_A (isA_ref _) (gd_A hA0 (gd_I (gd_I (gd_I gd_nil))))) hs hp rfl
theorem c_X5_init {m pc pc' z : Nat} {kz : Int} {L st : List Value} {h : am_H} {b : Nat} (hi : am_i m pc = some (pc, .invokespecial z, 3, [64], kz)) (hd : 2 < am_d m) (hs : stOk st) (hp : pc + 3 = pc') : rn m pc L (.ref b :: st) h = cl m pc' L st (rn m_X5_init 0 [.ref b] [] h) := tq_callX (mj := m_X5_init) hi (fun k => rfl) (by rw [d_X5_init]; exact hd) (gd_A (isA_ref _) gd_nil) hs hp rfl
theorem c_X6_finish {m pc pc' z : Nat} {kz : Int} {L st : List Value} {h : am_H} {b : Nat} {v0 : Value} {v1 : Value} {v2 : Value} (hi : am_i m pc = some (pc, .invokevirtual z, 3, [65, 6], kz)) (q : sh h b = (5, 6)) (hd : 2 < am_d m) (hA0 : isA v0) (hA1 : isA v1) (hA2 : isA v2) (hs : stOk st) (hp : pc + 3 = pc') : rn m pc L (v2 :: v1 :: v0 :: .ref b :: st) h = cl m pc' L st (rn m_X6_finish 0 [.ref b, v0, v1, v2, am_J, am_J] [] h) := tq_callV (mj := m_X6_finish) hi q (fun k => rfl) (by rw [d_X6_finish]; exact hd) (gd_A (isA_ref _) (gd_A hA0 (gd_A hA1 (gd_A hA2 gd_nil)))) hs hp rfl
theorem c_X6_init {m pc pc' z : Nat} {kz : Int} {L st : List Value} {h : am_H} {b : Nat} (hi : am_i m pc = some (pc, .invokespecial z, 3, [66], kz)) (hd : 2 < am_d m) (hs : stOk st) (hp : pc + 3 = pc') : rn m pc L (.ref b :: st) h = cl m pc' L st (rn m_X6_init 0 [.ref b] [] h) := tq_callX (mj := m_X6_init) hi (fun k => rfl) (by rw [d_X6_init]; exact hd) (gd_A (isA_ref _) gd_nil) hs hp rfl
theorem c_X6_isSplitAt {m pc pc' z : Nat} {kz : Int} {L st : List Value} {h : am_H} {b : Nat} {x0 : Int32} (hi : am_i m pc = some (pc, .invokevirtual z, 3, [67, 6], kz)) (q : sh h b = (5, 6)) (hd : 2 < am_d m) (hs : stOk st) (hp : pc + 3 = pc') : rn m pc L (.int x0 :: .ref b :: st) h = cl m pc' L st (rn m_X6_isSplitAt 0 [.ref b, .int x0] [] h) := tq_callV (mj := m_X6_isSplitAt) hi q (fun k => rfl) (by rw [d_X6_isSplitAt]; exact hd) (gd_A (isA_ref _) (gd_I gd_nil)) hs hp rfl
theorem c_X6_modeCount {m pc pc' z : Nat} {kz : Int} {L st : List Value} {h : am_H} {b : Nat} (hi : am_i m pc = some (pc, .invokevirtual z, 3, [68, 6], kz)) (q : sh h b = (5, 6)) (hd : 2 < am_d m) (hs : stOk st) (hp : pc + 3 = pc') : rn m pc L (.ref b :: st) h = cl m pc' L st (rn m_X6_modeCount 0 [.ref b] [] h) := tq_callV (mj := m_X6_modeCount) hi q (fun k => rfl) (by rw [d_X6_modeCount]; exact hd) (gd_A (isA_ref _) gd_nil) hs hp rfl
theorem c_X6_note {m pc pc' z : Nat} {kz : Int} {L st : List Value} {h : am_H} {b : Nat} {v0 : Value} (hi : am_i m pc = some (pc, .invokevirtual z, 3, [69, 6], kz)) (q : sh h b = (5, 6)) (hd : 2 < am_d m) (hA0 : isA v0) (hs : stOk st) (hp : pc + 3 = pc') : rn m pc L (v0 :: .ref b :: st) h = cl m pc' L st (rn m_X6_note 0 [.ref b, v0, am_J, am_J, am_J] [] h) := tq_callV (mj := m_X6_note) hi q (fun k => rfl) (by rw [d_X6_note]; exact hd) (gd_A (isA_ref _) (gd_A hA0 gd_nil)) hs hp rfl
theorem c_X6_topOf {m pc pc' z : Nat} {kz : Int} {L st : List Value} {h : am_H} {b : Nat} {x0 : Int32} (hi : am_i m pc = some (pc, .invokevirtual z, 3, [70, 6], kz)) (q : sh h b = (5, 6)) (hd : 2 < am_d m) (hs : stOk st) (hp : pc + 3 = pc') : rn m pc L (.int x0 :: .ref b :: st) h = cl m pc' L st (rn m_X6_topOf 0 [.ref b, .int x0] [] h) := tq_callV (mj := m_X6_topOf) hi q (fun k => rfl) (by rw [d_X6_topOf]; exact hd) (gd_A (isA_ref _) (gd_I gd_nil)) hs hp rfl
theorem c_X9_length {m pc pc' z : Nat} {kz : Int} {L st : List Value} {h : am_H} {x0 : Int32} (hi : am_i m pc = some (pc, .invokestatic z, 3, [71], kz)) (hd : 2 < am_d m) (hs : stOk st) (hp : pc + 3 = pc') : rn m pc L (.int x0 :: st) h = cl m pc' L st (rn m_X9_length 0 [.int x0] [] h) := tq_callS (mj := m_X9_length) hi (fun k => rfl) (by rw [d_X9_length]; exact hd) (gd_I gd_nil) hs hp rfl
theorem c_X10_bit {m pc pc' z : Nat} {kz : Int} {L st : List Value} {h : am_H} {b : Nat} {x0 : Int32} {x1 : Int32} (hi : am_i m pc = some (pc, .invokevirtual z, 3, [72, 8], kz)) (q : sh h b = (5, 8)) (hd : 3 < am_d m) (hs : stOk st) (hp : pc + 3 = pc') : rn m pc L (.int x1 :: .int x0 :: .ref b :: st) h = cl m pc' L st (rn m_X10_bit 0 [.ref b, .int x0, .int x1, am_J, am_J, am_J] [] h) := tq_callV (mj := m_X10_bit) hi q (fun k => rfl) (by rw [d_X10_bit]; exact hd) (gd_A (isA_ref _) (gd_I (gd_I gd_nil))) hs hp rfl
theorem c_X10_plain {m pc pc' z : Nat} {kz : Int} {L st : List Value} {h : am_H} {b : Nat} {x0 : Int32} (hi : am_i m pc = some (pc, .invokevirtual z, 3, [73, 8], kz)) (q : sh h b = (5, 8)) (hd : 3 < am_d m) (hs : stOk st) (hp : pc + 3 = pc') : rn m pc L (.int x0 :: .ref b :: st) h = cl m pc' L st (rn m_X10_plain 0 [.ref b, .int x0, am_J, am_J] [] h) := tq_callV (mj := m_X10_plain) hi q (fun k => rfl) (by rw [d_X10_plain]; exact hd) (gd_A (isA_ref _) (gd_I gd_nil)) hs hp rfl
theorem c_X11_takeDraft {m pc pc' z : Nat} {kz : Int} {L st : List Value} {h : am_H} {b : Nat} (hi : am_i m pc = some (pc, .invokevirtual z, 3, [74, 9], kz)) (q : sh h b = (5, 9)) (hd : 3 < am_d m) (hs : stOk st) (hp : pc + 3 = pc') : rn m pc L (.ref b :: st) h = cl m pc' L st (rn m_X11_takeDraft 0 [.ref b] [] h) := tq_callV (mj := m_X11_takeDraft) hi q (fun k => rfl) (by rw [d_X11_takeDraft]; exact hd) (gd_A (isA_ref _) gd_nil) hs hp rfl
theorem c_X1_fromKept {m pc pc' z : Nat} {kz : Int} {L st : List Value} {h : am_H} {b : Nat} {v0 : Value} {x1 : Int32} {x2 : Int32} (hi : am_i m pc = some (pc, .invokevirtual z, 3, [75, 1], kz)) (q : sh h b = (5, 1)) (hd : 3 < am_d m) (hA0 : isA v0) (hs : stOk st) (hp : pc + 3 = pc') : rn m pc L (.int x2 :: .int x1 :: v0 :: .ref b :: st) h = cl m pc' L st (rn m_X1_fromKept 0 [.ref b, v0, .int x1, .int x2, am_J] [] h) := tq_callV (mj := m_X1_fromKept) hi q (fun k => rfl) (by rw [d_X1_fromKept]; exact hd) (gd_A (isA_ref _) (gd_A hA0 (gd_I (gd_I gd_nil)))) hs hp rfl
theorem c_X1_init {m pc pc' z : Nat} {kz : Int} {L st : List Value} {h : am_H} {b : Nat} (hi : am_i m pc = some (pc, .invokespecial z, 3, [76], kz)) (hd : 3 < am_d m) (hs : stOk st) (hp : pc + 3 = pc') : rn m pc L (.ref b :: st) h = cl m pc' L st (rn m_X1_init 0 [.ref b] [] h) := tq_callX (mj := m_X1_init) hi (fun k => rfl) (by rw [d_X1_init]; exact hd) (gd_A (isA_ref _) gd_nil) hs hp rfl
theorem c_X1_smooth {m pc pc' z : Nat} {kz : Int} {L st : List Value} {h : am_H} {b : Nat} {v0 : Value} {v1 : Value} (hi : am_i m pc = some (pc, .invokevirtual z, 3, [77, 1], kz)) (q : sh h b = (5, 1)) (hd : 3 < am_d m) (hA0 : isA v0) (hA1 : isA v1) (hs : stOk st) (hp : pc + 3 = pc') : rn m pc L (v1 :: v0 :: .ref b :: st) h = cl m pc' L st (rn m_X1_smooth 0 [.ref b, v0, v1, am_J, am_J, am_J] [] h) := tq_callV (mj := m_X1_smooth) hi q (fun k => rfl) (by rw [d_X1_smooth]; exact hd) (gd_A (isA_ref _) (gd_A hA0 (gd_A hA1 gd_nil))) hs hp rfl
theorem c_X1_takeBorder {m pc pc' z : Nat} {kz : Int} {L st : List Value} {h : am_H} {b : Nat} {v0 : Value} {v1 : Value} (hi : am_i m pc = some (pc, .invokevirtual z, 3, [78, 1], kz)) (q : sh h b = (5, 1)) (hd : 3 < am_d m) (hA0 : isA v0) (hA1 : isA v1) (hs : stOk st) (hp : pc + 3 = pc') : rn m pc L (v1 :: v0 :: .ref b :: st) h = cl m pc' L st (rn m_X1_takeBorder 0 [.ref b, v0, v1, am_J, am_J, am_J, am_J] [] h) := tq_callV (mj := m_X1_takeBorder) hi q (fun k => rfl) (by rw [d_X1_takeBorder]; exact hd) (gd_A (isA_ref _) (gd_A hA0 (gd_A hA1 gd_nil))) hs hp rfl
theorem c_X1_transform {m pc pc' z : Nat} {kz : Int} {L st : List Value} {h : am_H} {b : Nat} (hi : am_i m pc = some (pc, .invokevirtual z, 3, [79, 1], kz)) (q : sh h b = (5, 1)) (hd : 3 < am_d m) (hs : stOk st) (hp : pc + 3 = pc') : rn m pc L (.ref b :: st) h = cl m pc' L st (rn m_X1_transform 0 [.ref b, am_J] [] h) := tq_callV (mj := m_X1_transform) hi q (fun k => rfl) (by rw [d_X1_transform]; exact hd) (gd_A (isA_ref _) gd_nil) hs hp rfl
theorem c_X4_costOf {m pc pc' z : Nat} {kz : Int} {L st : List Value} {h : am_H} {b : Nat} {x0 : Int32} {v1 : Value} {v2 : Value} {x3 : Int32} (hi : am_i m pc = some (pc, .invokevirtual z, 3, [80, 4], kz)) (q : sh h b = (5, 4)) (hd : 3 < am_d m) (hA1 : isA v1) (hA2 : isA v2) (hs : stOk st) (hp : pc + 3 = pc') : rn m pc L (.int x3 :: v2 :: v1 :: .int x0 :: .ref b :: st) h = cl m pc' L st (rn m_X4_costOf 0 [.ref b, .int x0, v1, v2, .int x3, am_J, am_J, am_J, am_J] [] h) := tq_callV (mj := m_X4_costOf) hi q (fun k => rfl) (by rw [d_X4_costOf]; exact hd) (gd_A (isA_ref _) (gd_I (gd_A hA1 (gd_A hA2 (gd_I gd_nil))))) hs hp rfl
theorem c_X4_take {m pc pc' z : Nat} {kz : Int} {L st : List Value} {h : am_H} {b : Nat} {v0 : Value} {x1 : Int32} (hi : am_i m pc = some (pc, .invokevirtual z, 3, [81, 4], kz)) (q : sh h b = (5, 4)) (hd : 3 < am_d m) (hA0 : isA v0) (hs : stOk st) (hp : pc + 3 = pc') : rn m pc L (.int x1 :: v0 :: .ref b :: st) h = cl m pc' L st (rn m_X4_take 0 [.ref b, v0, .int x1, am_J, am_J] [] h) := tq_callV (mj := m_X4_take) hi q (fun k => rfl) (by rw [d_X4_take]; exact hd) (gd_A (isA_ref _) (gd_A hA0 (gd_I gd_nil))) hs hp rfl
theorem c_X5_extraCost {m pc pc' z : Nat} {kz : Int} {L st : List Value} {h : am_H} {b : Nat} (hi : am_i m pc = some (pc, .invokevirtual z, 3, [82, 5], kz)) (q : sh h b = (5, 5)) (hd : 3 < am_d m) (hs : stOk st) (hp : pc + 3 = pc') : rn m pc L (.ref b :: st) h = cl m pc' L st (rn m_X5_extraCost 0 [.ref b, am_J] [] h) := tq_callV (mj := m_X5_extraCost) hi q (fun k => rfl) (by rw [d_X5_extraCost]; exact hd) (gd_A (isA_ref _) gd_nil) hs hp rfl
theorem c_X6_recall {m pc pc' z : Nat} {kz : Int} {L st : List Value} {h : am_H} {b : Nat} {v0 : Value} {x1 : Int32} (hi : am_i m pc = some (pc, .invokevirtual z, 3, [83, 6], kz)) (q : sh h b = (5, 6)) (hd : 3 < am_d m) (hA0 : isA v0) (hs : stOk st) (hp : pc + 3 = pc') : rn m pc L (.int x1 :: v0 :: .ref b :: st) h = cl m pc' L st (rn m_X6_recall 0 [.ref b, v0, .int x1, am_J] [] h) := tq_callV (mj := m_X6_recall) hi q (fun k => rfl) (by rw [d_X6_recall]; exact hd) (gd_A (isA_ref _) (gd_A hA0 (gd_I gd_nil))) hs hp rfl
theorem c_X6_startsPart {m pc pc' z : Nat} {kz : Int} {L st : List Value} {h : am_H} {b : Nat} {x0 : Int32} (hi : am_i m pc = some (pc, .invokevirtual z, 3, [84, 6], kz)) (q : sh h b = (5, 6)) (hd : 3 < am_d m) (hs : stOk st) (hp : pc + 3 = pc') : rn m pc L (.int x0 :: .ref b :: st) h = cl m pc' L st (rn m_X6_startsPart 0 [.ref b, .int x0] [] h) := tq_callV (mj := m_X6_startsPart) hi q (fun k => rfl) (by rw [d_X6_startsPart]; exact hd) (gd_A (isA_ref _) (gd_I gd_nil)) hs hp rfl
theorem c_X8_init {m pc pc' z : Nat} {kz : Int} {L st : List Value} {h : am_H} {b : Nat} (hi : am_i m pc = some (pc, .invokespecial z, 3, [85], kz)) (hd : 3 < am_d m) (hs : stOk st) (hp : pc + 3 = pc') : rn m pc L (.ref b :: st) h = cl m pc' L st (rn m_X8_init 0 [.ref b] [] h) := tq_callX (mj := m_X8_init) hi (fun k => rfl) (by rw [d_X8_init]; exact hd) (gd_A (isA_ref _) gd_nil) hs hp rfl
theorem c_X8_slice {m pc pc' z : Nat} {kz : Int} {L st : List Value} {h : am_H} {b : Nat} {x0 : Int32} (hi : am_i m pc = some (pc, .invokevirtual z, 3, [86, 7], kz)) (q : sh h b = (5, 7)) (hd : 3 < am_d m) (hs : stOk st) (hp : pc + 3 = pc') : rn m pc L (.int x0 :: .ref b :: st) h = cl m pc' L st (rn m_X8_slice 0 [.ref b, .int x0] [] h) := tq_callV (mj := m_X8_slice) hi q (fun k => rfl) (by rw [d_X8_slice]; exact hd) (gd_A (isA_ref _) (gd_I gd_nil)) hs hp rfl
theorem c_X10_number {m pc pc' z : Nat} {kz : Int} {L st : List Value} {h : am_H} {b : Nat} {x0 : Int32} {x1 : Int32} (hi : am_i m pc = some (pc, .invokevirtual z, 3, [87, 8], kz)) (q : sh h b = (5, 8)) (hd : 4 < am_d m) (hs : stOk st) (hp : pc + 3 = pc') : rn m pc L (.int x1 :: .int x0 :: .ref b :: st) h = cl m pc' L st (rn m_X10_number 0 [.ref b, .int x0, .int x1, am_J, am_J, am_J, am_J] [] h) := tq_callV (mj := m_X10_number) hi q (fun k => rfl) (by rw [d_X10_number]; exact hd) (gd_A (isA_ref _) (gd_I (gd_I gd_nil))) hs hp rfl
theorem c_X1_buildSquare {m pc pc' z : Nat} {kz : Int} {L st : List Value} {h : am_H} {b : Nat} {v0 : Value} {v1 : Value} {x2 : Int32} (hi : am_i m pc = some (pc, .invokevirtual z, 3, [88, 1], kz)) (q : sh h b = (5, 1)) (hd : 4 < am_d m) (hA0 : isA v0) (hA1 : isA v1) (hs : stOk st) (hp : pc + 3 = pc') : rn m pc L (.int x2 :: v1 :: v0 :: .ref b :: st) h = cl m pc' L st (rn m_X1_buildSquare 0 [.ref b, v0, v1, .int x2, am_J, am_J, am_J] [] h) := tq_callV (mj := m_X1_buildSquare) hi q (fun k => rfl) (by rw [d_X1_buildSquare]; exact hd) (gd_A (isA_ref _) (gd_A hA0 (gd_A hA1 (gd_I gd_nil)))) hs hp rfl
theorem c_X1_guessPart {m pc pc' z : Nat} {kz : Int} {L st : List Value} {h : am_H} {b : Nat} {v0 : Value} (hi : am_i m pc = some (pc, .invokevirtual z, 3, [89, 1], kz)) (q : sh h b = (5, 1)) (hd : 4 < am_d m) (hA0 : isA v0) (hs : stOk st) (hp : pc + 3 = pc') : rn m pc L (v0 :: .ref b :: st) h = cl m pc' L st (rn m_X1_guessPart 0 [.ref b, v0, am_J, am_J, am_J] [] h) := tq_callV (mj := m_X1_guessPart) hi q (fun k => rfl) (by rw [d_X1_guessPart]; exact hd) (gd_A (isA_ref _) (gd_A hA0 gd_nil)) hs hp rfl
theorem c_X1_levelSquare {m pc pc' z : Nat} {kz : Int} {L st : List Value} {h : am_H} {b : Nat} {v0 : Value} {v1 : Value} {x2 : Int32} (hi : am_i m pc = some (pc, .invokevirtual z, 3, [90, 1], kz)) (q : sh h b = (5, 1)) (hd : 4 < am_d m) (hA0 : isA v0) (hA1 : isA v1) (hs : stOk st) (hp : pc + 3 = pc') : rn m pc L (.int x2 :: v1 :: v0 :: .ref b :: st) h = cl m pc' L st (rn m_X1_levelSquare 0 [.ref b, v0, v1, .int x2, am_J, am_J] [] h) := tq_callV (mj := m_X1_levelSquare) hi q (fun k => rfl) (by rw [d_X1_levelSquare]; exact hd) (gd_A (isA_ref _) (gd_A hA0 (gd_A hA1 (gd_I gd_nil)))) hs hp rfl
theorem c_X2_init {m pc pc' z : Nat} {kz : Int} {L st : List Value} {h : am_H} {b : Nat} (hi : am_i m pc = some (pc, .invokespecial z, 3, [91], kz)) (hd : 4 < am_d m) (hs : stOk st) (hp : pc + 3 = pc') : rn m pc L (.ref b :: st) h = cl m pc' L st (rn m_X2_init 0 [.ref b] [] h) := tq_callX (mj := m_X2_init) hi (fun k => rfl) (by rw [d_X2_init]; exact hd) (gd_A (isA_ref _) gd_nil) hs hp rfl
theorem c_X2_lean {m pc pc' z : Nat} {kz : Int} {L st : List Value} {h : am_H} {b : Nat} {v0 : Value} {v1 : Value} {v2 : Value} (hi : am_i m pc = some (pc, .invokevirtual z, 3, [92, 2], kz)) (q : sh h b = (5, 2)) (hd : 4 < am_d m) (hA0 : isA v0) (hA1 : isA v1) (hA2 : isA v2) (hs : stOk st) (hp : pc + 3 = pc') : rn m pc L (v2 :: v1 :: v0 :: .ref b :: st) h = cl m pc' L st (rn m_X2_lean 0 [.ref b, v0, v1, v2] [] h) := tq_callV (mj := m_X2_lean) hi q (fun k => rfl) (by rw [d_X2_lean]; exact hd) (gd_A (isA_ref _) (gd_A hA0 (gd_A hA1 (gd_A hA2 gd_nil)))) hs hp rfl
theorem c_X2_search {m pc pc' z : Nat} {kz : Int} {L st : List Value} {h : am_H} {b : Nat} {v0 : Value} {v1 : Value} {x2 : Int32} (hi : am_i m pc = some (pc, .invokevirtual z, 3, [93, 2], kz)) (q : sh h b = (5, 2)) (hd : 4 < am_d m) (hA0 : isA v0) (hA1 : isA v1) (hs : stOk st) (hp : pc + 3 = pc') : rn m pc L (.int x2 :: v1 :: v0 :: .ref b :: st) h = cl m pc' L st (rn m_X2_search 0 [.ref b, v0, v1, .int x2, am_J, am_J, am_J, am_J, am_J, am_J, am_J] [] h) := tq_callV (mj := m_X2_search) hi q (fun k => rfl) (by rw [d_X2_search]; exact hd) (gd_A (isA_ref _) (gd_A hA0 (gd_A hA1 (gd_I gd_nil)))) hs hp rfl
theorem c_X3_init {m pc pc' z : Nat} {kz : Int} {L st : List Value} {h : am_H} {b : Nat} (hi : am_i m pc = some (pc, .invokespecial z, 3, [94], kz)) (hd : 4 < am_d m) (hs : stOk st) (hp : pc + 3 = pc') : rn m pc L (.ref b :: st) h = cl m pc' L st (rn m_X3_init 0 [.ref b] [] h) := tq_callX (mj := m_X3_init) hi (fun k => rfl) (by rw [d_X3_init]; exact hd) (gd_A (isA_ref _) gd_nil) hs hp rfl
theorem c_X6_partsInMode {m pc pc' z : Nat} {kz : Int} {L st : List Value} {h : am_H} {b : Nat} {x0 : Int32} (hi : am_i m pc = some (pc, .invokevirtual z, 3, [95, 6], kz)) (q : sh h b = (5, 6)) (hd : 4 < am_d m) (hs : stOk st) (hp : pc + 3 = pc') : rn m pc L (.int x0 :: .ref b :: st) h = cl m pc' L st (rn m_X6_partsInMode 0 [.ref b, .int x0, am_J, am_J] [] h) := tq_callV (mj := m_X6_partsInMode) hi q (fun k => rfl) (by rw [d_X6_partsInMode]; exact hd) (gd_A (isA_ref _) (gd_I gd_nil)) hs hp rfl
theorem c_X8_writeLastPlace {m pc pc' z : Nat} {kz : Int} {L st : List Value} {h : am_H} {b : Nat} {x0 : Int32} (hi : am_i m pc = some (pc, .invokevirtual z, 3, [96, 7], kz)) (q : sh h b = (5, 7)) (hd : 4 < am_d m) (hs : stOk st) (hp : pc + 3 = pc') : rn m pc L (.int x0 :: .ref b :: st) h = cl m pc' L st (rn m_X8_writeLastPlace 0 [.ref b, .int x0, am_J, am_J, am_J] [] h) := tq_callV (mj := m_X8_writeLastPlace) hi q (fun k => rfl) (by rw [d_X8_writeLastPlace]; exact hd) (gd_A (isA_ref _) (gd_I gd_nil)) hs hp rfl
theorem c_X8_writeMode {m pc pc' z : Nat} {kz : Int} {L st : List Value} {h : am_H} {b : Nat} {v0 : Value} (hi : am_i m pc = some (pc, .invokevirtual z, 3, [97, 7], kz)) (q : sh h b = (5, 7)) (hd : 4 < am_d m) (hA0 : isA v0) (hs : stOk st) (hp : pc + 3 = pc') : rn m pc L (v0 :: .ref b :: st) h = cl m pc' L st (rn m_X8_writeMode 0 [.ref b, v0] [] h) := tq_callV (mj := m_X8_writeMode) hi q (fun k => rfl) (by rw [d_X8_writeMode]; exact hd) (gd_A (isA_ref _) (gd_A hA0 gd_nil)) hs hp rfl
theorem c_X11_init {m pc pc' z : Nat} {kz : Int} {L st : List Value} {h : am_H} {b : Nat} (hi : am_i m pc = some (pc, .invokespecial z, 3, [98], kz)) (hd : 5 < am_d m) (hs : stOk st) (hp : pc + 3 = pc') : rn m pc L (.ref b :: st) h = cl m pc' L st (rn m_X11_init 0 [.ref b] [] h) := tq_callX (mj := m_X11_init) hi (fun k => rfl) (by rw [d_X11_init]; exact hd) (gd_A (isA_ref _) gd_nil) hs hp rfl
theorem c_X2_choosePart {m pc pc' z : Nat} {kz : Int} {L st : List Value} {h : am_H} {b : Nat} {v0 : Value} {v1 : Value} (hi : am_i m pc = some (pc, .invokevirtual z, 3, [99, 2], kz)) (q : sh h b = (5, 2)) (hd : 5 < am_d m) (hA0 : isA v0) (hA1 : isA v1) (hs : stOk st) (hp : pc + 3 = pc') : rn m pc L (v1 :: v0 :: .ref b :: st) h = cl m pc' L st (rn m_X2_choosePart 0 [.ref b, v0, v1, am_J, am_J, am_J, am_J, am_J] [] h) := tq_callV (mj := m_X2_choosePart) hi q (fun k => rfl) (by rw [d_X2_choosePart]; exact hd) (gd_A (isA_ref _) (gd_A hA0 (gd_A hA1 gd_nil))) hs hp rfl
theorem c_X3_build {m pc pc' z : Nat} {kz : Int} {L st : List Value} {h : am_H} {b : Nat} {v0 : Value} {x1 : Int32} (hi : am_i m pc = some (pc, .invokevirtual z, 3, [100, 3], kz)) (q : sh h b = (5, 3)) (hd : 5 < am_d m) (hA0 : isA v0) (hs : stOk st) (hp : pc + 3 = pc') : rn m pc L (.int x1 :: v0 :: .ref b :: st) h = cl m pc' L st (rn m_X3_build 0 [.ref b, v0, .int x1, am_J, am_J, am_J] [] h) := tq_callV (mj := m_X3_build) hi q (fun k => rfl) (by rw [d_X3_build]; exact hd) (gd_A (isA_ref _) (gd_A hA0 (gd_I gd_nil))) hs hp rfl
theorem c_X8_writeSquare {m pc pc' z : Nat} {kz : Int} {L st : List Value} {h : am_H} {b : Nat} {v0 : Value} {x1 : Int32} (hi : am_i m pc = some (pc, .invokevirtual z, 3, [101, 7], kz)) (q : sh h b = (5, 7)) (hd : 5 < am_d m) (hA0 : isA v0) (hs : stOk st) (hp : pc + 3 = pc') : rn m pc L (.int x1 :: v0 :: .ref b :: st) h = cl m pc' L st (rn m_X8_writeSquare 0 [.ref b, v0, .int x1, am_J, am_J, am_J] [] h) := tq_callV (mj := m_X8_writeSquare) hi q (fun k => rfl) (by rw [d_X8_writeSquare]; exact hd) (gd_A (isA_ref _) (gd_A hA0 (gd_I gd_nil))) hs hp rfl
theorem c_X8_writeVector {m pc pc' z : Nat} {kz : Int} {L st : List Value} {h : am_H} {b : Nat} {x0 : Int32} {x1 : Int32} {x2 : Int32} (hi : am_i m pc = some (pc, .invokevirtual z, 3, [102, 7], kz)) (q : sh h b = (5, 7)) (hd : 5 < am_d m) (hs : stOk st) (hp : pc + 3 = pc') : rn m pc L (.int x2 :: .int x1 :: .int x0 :: .ref b :: st) h = cl m pc' L st (rn m_X8_writeVector 0 [.ref b, .int x0, .int x1, .int x2, am_J, am_J] [] h) := tq_callV (mj := m_X8_writeVector) hi q (fun k => rfl) (by rw [d_X8_writeVector]; exact hd) (gd_A (isA_ref _) (gd_I (gd_I (gd_I gd_nil)))) hs hp rfl
theorem c_X2_choose {m pc pc' z : Nat} {kz : Int} {L st : List Value} {h : am_H} {b : Nat} {v0 : Value} {v1 : Value} (hi : am_i m pc = some (pc, .invokevirtual z, 3, [103, 2], kz)) (q : sh h b = (5, 2)) (hd : 6 < am_d m) (hA0 : isA v0) (hA1 : isA v1) (hs : stOk st) (hp : pc + 3 = pc') : rn m pc L (v1 :: v0 :: .ref b :: st) h = cl m pc' L st (rn m_X2_choose 0 [.ref b, v0, v1, am_J, am_J, am_J, am_J] [] h) := tq_callV (mj := m_X2_choose) hi q (fun k => rfl) (by rw [d_X2_choose]; exact hd) (gd_A (isA_ref _) (gd_A hA0 (gd_A hA1 gd_nil))) hs hp rfl
theorem c_X3_receive {m pc pc' z : Nat} {kz : Int} {L st : List Value} {h : am_H} {b : Nat} {v0 : Value} {x1 : Int32} (hi : am_i m pc = some (pc, .invokevirtual z, 3, [104, 3], kz)) (q : sh h b = (5, 3)) (hd : 6 < am_d m) (hA0 : isA v0) (hs : stOk st) (hp : pc + 3 = pc') : rn m pc L (.int x1 :: v0 :: .ref b :: st) h = cl m pc' L st (rn m_X3_receive 0 [.ref b, v0, .int x1] [] h) := tq_callV (mj := m_X3_receive) hi q (fun k => rfl) (by rw [d_X3_receive]; exact hd) (gd_A (isA_ref _) (gd_A hA0 (gd_I gd_nil))) hs hp rfl
theorem c_X8_writeSlice {m pc pc' z : Nat} {kz : Int} {L st : List Value} {h : am_H} {b : Nat} {v0 : Value} {x1 : Int32} (hi : am_i m pc = some (pc, .invokevirtual z, 3, [105, 7], kz)) (q : sh h b = (5, 7)) (hd : 6 < am_d m) (hA0 : isA v0) (hs : stOk st) (hp : pc + 3 = pc') : rn m pc L (.int x1 :: v0 :: .ref b :: st) h = cl m pc' L st (rn m_X8_writeSlice 0 [.ref b, v0, .int x1, am_J, am_J, am_J] [] h) := tq_callV (mj := m_X8_writeSlice) hi q (fun k => rfl) (by rw [d_X8_writeSlice]; exact hd) (gd_A (isA_ref _) (gd_A hA0 (gd_I gd_nil))) hs hp rfl
theorem c_X11_bucket {m pc pc' z : Nat} {kz : Int} {L st : List Value} {h : am_H} {b : Nat} (hi : am_i m pc = some (pc, .invokevirtual z, 3, [106, 9], kz)) (q : sh h b = (5, 9)) (hd : 8 < am_d m) (hs : stOk st) (hp : pc + 3 = pc') : rn m pc L (.ref b :: st) h = cl m pc' L st (rn m_X11_bucket 0 [.ref b] [] h) := tq_callV (mj := m_X11_bucket) hi q (fun k => rfl) (by rw [d_X11_bucket]; exact hd) (gd_A (isA_ref _) gd_nil) hs hp rfl
theorem c_X11_cleanShare {m pc pc' z : Nat} {kz : Int} {L st : List Value} {h : am_H} {b : Nat} (hi : am_i m pc = some (pc, .invokevirtual z, 3, [107, 9], kz)) (q : sh h b = (5, 9)) (hd : 8 < am_d m) (hs : stOk st) (hp : pc + 3 = pc') : rn m pc L (.ref b :: st) h = cl m pc' L st (rn m_X11_cleanShare 0 [.ref b] [] h) := tq_callV (mj := m_X11_cleanShare) hi q (fun k => rfl) (by rw [d_X11_cleanShare]; exact hd) (gd_A (isA_ref _) gd_nil) hs hp rfl
theorem c_X11_fill {m pc pc' z : Nat} {kz : Int} {L st : List Value} {h : am_H} {b : Nat} {x0 : Int32} {x1 : Int32} {x2 : Int32} {x3 : Int32} {x4 : Int32} (hi : am_i m pc = some (pc, .invokevirtual z, 3, [108, 9], kz)) (q : sh h b = (5, 9)) (hd : 8 < am_d m) (hs : stOk st) (hp : pc + 3 = pc') : rn m pc L (.int x4 :: .int x3 :: .int x2 :: .int x1 :: .int x0 :: .ref b :: st) h = cl m pc' L st (rn m_X11_fill 0 [.ref b, .int x0, .int x1, .int x2, .int x3, .int x4, am_J, am_J, am_J, am_J] [] h) := tq_callV (mj := m_X11_fill) hi q (fun k => rfl) (by rw [d_X11_fill]; exact hd) (gd_A (isA_ref _) (gd_I (gd_I (gd_I (gd_I (gd_I gd_nil)))))) hs hp rfl
theorem c_X11_grain {m pc pc' z : Nat} {kz : Int} {L st : List Value} {h : am_H} {b : Nat} {x0 : Int32} {x1 : Int32} (hi : am_i m pc = some (pc, .invokevirtual z, 3, [109, 9], kz)) (q : sh h b = (5, 9)) (hd : 8 < am_d m) (hs : stOk st) (hp : pc + 3 = pc') : rn m pc L (.int x1 :: .int x0 :: .ref b :: st) h = cl m pc' L st (rn m_X11_grain 0 [.ref b, .int x0, .int x1, am_J, am_J, am_J] [] h) := tq_callV (mj := m_X11_grain) hi q (fun k => rfl) (by rw [d_X11_grain]; exact hd) (gd_A (isA_ref _) (gd_I (gd_I gd_nil))) hs hp rfl
theorem c_X11_join {m pc pc' z : Nat} {kz : Int} {L st : List Value} {h : am_H} {b : Nat} {x0 : Int32} (hi : am_i m pc = some (pc, .invokevirtual z, 3, [110, 9], kz)) (q : sh h b = (5, 9)) (hd : 8 < am_d m) (hs : stOk st) (hp : pc + 3 = pc') : rn m pc L (.int x0 :: .ref b :: st) h = cl m pc' L st (rn m_X11_join 0 [.ref b, .int x0, am_J] [] h) := tq_callV (mj := m_X11_join) hi q (fun k => rfl) (by rw [d_X11_join]; exact hd) (gd_A (isA_ref _) (gd_I gd_nil)) hs hp rfl
theorem c_X11_keptAt {m pc pc' z : Nat} {kz : Int} {L st : List Value} {h : am_H} {b : Nat} {x0 : Int32} (hi : am_i m pc = some (pc, .invokevirtual z, 3, [111, 9], kz)) (q : sh h b = (5, 9)) (hd : 8 < am_d m) (hs : stOk st) (hp : pc + 3 = pc') : rn m pc L (.int x0 :: .ref b :: st) h = cl m pc' L st (rn m_X11_keptAt 0 [.ref b, .int x0] [] h) := tq_callV (mj := m_X11_keptAt) hi q (fun k => rfl) (by rw [d_X11_keptAt]; exact hd) (gd_A (isA_ref _) (gd_I gd_nil)) hs hp rfl
theorem c_X11_move {m pc pc' z : Nat} {kz : Int} {L st : List Value} {h : am_H} {b : Nat} {x0 : Int32} {x1 : Int32} (hi : am_i m pc = some (pc, .invokevirtual z, 3, [112, 9], kz)) (q : sh h b = (5, 9)) (hd : 8 < am_d m) (hs : stOk st) (hp : pc + 3 = pc') : rn m pc L (.int x1 :: .int x0 :: .ref b :: st) h = cl m pc' L st (rn m_X11_move 0 [.ref b, .int x0, .int x1, am_J, am_J, am_J] [] h) := tq_callV (mj := m_X11_move) hi q (fun k => rfl) (by rw [d_X11_move]; exact hd) (gd_A (isA_ref _) (gd_I (gd_I gd_nil))) hs hp rfl
theorem c_X11_pictureAt {m pc pc' z : Nat} {kz : Int} {L st : List Value} {h : am_H} {b : Nat} {x0 : Int32} (hi : am_i m pc = some (pc, .invokevirtual z, 3, [113, 9], kz)) (q : sh h b = (5, 9)) (hd : 8 < am_d m) (hs : stOk st) (hp : pc + 3 = pc') : rn m pc L (.int x0 :: .ref b :: st) h = cl m pc' L st (rn m_X11_pictureAt 0 [.ref b, .int x0, am_J] [] h) := tq_callV (mj := m_X11_pictureAt) hi q (fun k => rfl) (by rw [d_X11_pictureAt]; exact hd) (gd_A (isA_ref _) (gd_I gd_nil)) hs hp rfl
theorem c_X11_refuseNoPixel {m pc pc' z : Nat} {kz : Int} {L st : List Value} {h : am_H} {x0 : Int32} {x1 : Int32} (hi : am_i m pc = some (pc, .invokestatic z, 3, [114], kz)) (hd : 8 < am_d m) (hs : stOk st) (hp : pc + 3 = pc') : rn m pc L (.int x1 :: .int x0 :: st) h = cl m pc' L st (rn m_X11_refuseNoPixel 0 [.int x0, .int x1] [] h) := tq_callS (mj := m_X11_refuseNoPixel) hi (fun k => rfl) (by rw [d_X11_refuseNoPixel]; exact hd) (gd_I (gd_I gd_nil)) hs hp rfl
theorem c_X11_refuseNothingShown {m pc pc' z : Nat} {kz : Int} {L st : List Value} {h : am_H} {b : Nat} (hi : am_i m pc = some (pc, .invokevirtual z, 3, [115, 9], kz)) (q : sh h b = (5, 9)) (hd : 8 < am_d m) (hs : stOk st) (hp : pc + 3 = pc') : rn m pc L (.ref b :: st) h = cl m pc' L st (rn m_X11_refuseNothingShown 0 [.ref b] [] h) := tq_callV (mj := m_X11_refuseNothingShown) hi q (fun k => rfl) (by rw [d_X11_refuseNothingShown]; exact hd) (gd_A (isA_ref _) gd_nil) hs hp rfl
theorem c_X11_setBucket {m pc pc' z : Nat} {kz : Int} {L st : List Value} {h : am_H} {b : Nat} {x0 : Int32} {x1 : Int32} (hi : am_i m pc = some (pc, .invokevirtual z, 3, [116, 9], kz)) (q : sh h b = (5, 9)) (hd : 8 < am_d m) (hs : stOk st) (hp : pc + 3 = pc') : rn m pc L (.int x1 :: .int x0 :: .ref b :: st) h = cl m pc' L st (rn m_X11_setBucket 0 [.ref b, .int x0, .int x1, am_J] [] h) := tq_callV (mj := m_X11_setBucket) hi q (fun k => rfl) (by rw [d_X11_setBucket]; exact hd) (gd_A (isA_ref _) (gd_I (gd_I gd_nil))) hs hp rfl
theorem c_X11_setCoarseness {m pc pc' z : Nat} {kz : Int} {L st : List Value} {h : am_H} {b : Nat} {x0 : Int32} (hi : am_i m pc = some (pc, .invokevirtual z, 3, [117, 9], kz)) (q : sh h b = (5, 9)) (hd : 8 < am_d m) (hs : stOk st) (hp : pc + 3 = pc') : rn m pc L (.int x0 :: .ref b :: st) h = cl m pc' L st (rn m_X11_setCoarseness 0 [.ref b, .int x0, am_J] [] h) := tq_callV (mj := m_X11_setCoarseness) hi q (fun k => rfl) (by rw [d_X11_setCoarseness]; exact hd) (gd_A (isA_ref _) (gd_I gd_nil)) hs hp rfl
theorem c_X11_setSlices {m pc pc' z : Nat} {kz : Int} {L st : List Value} {h : am_H} {b : Nat} {x0 : Int32} (hi : am_i m pc = some (pc, .invokevirtual z, 3, [118, 9], kz)) (q : sh h b = (5, 9)) (hd : 8 < am_d m) (hs : stOk st) (hp : pc + 3 = pc') : rn m pc L (.int x0 :: .ref b :: st) h = cl m pc' L st (rn m_X11_setSlices 0 [.ref b, .int x0, am_J] [] h) := tq_callV (mj := m_X11_setSlices) hi q (fun k => rfl) (by rw [d_X11_setSlices]; exact hd) (gd_A (isA_ref _) (gd_I gd_nil)) hs hp rfl
theorem c_X11_setTools {m pc pc' z : Nat} {kz : Int} {L st : List Value} {h : am_H} {b : Nat} {x0 : Int32} (hi : am_i m pc = some (pc, .invokevirtual z, 3, [119, 9], kz)) (q : sh h b = (5, 9)) (hd : 8 < am_d m) (hs : stOk st) (hp : pc + 3 = pc') : rn m pc L (.int x0 :: .ref b :: st) h = cl m pc' L st (rn m_X11_setTools 0 [.ref b, .int x0, am_J] [] h) := tq_callV (mj := m_X11_setTools) hi q (fun k => rfl) (by rw [d_X11_setTools]; exact hd) (gd_A (isA_ref _) (gd_I gd_nil)) hs hp rfl
theorem c_X11_slope {m pc pc' z : Nat} {kz : Int} {L st : List Value} {h : am_H} {b : Nat} {x0 : Int32} {x1 : Int32} {x2 : Int32} (hi : am_i m pc = some (pc, .invokevirtual z, 3, [120, 9], kz)) (q : sh h b = (5, 9)) (hd : 8 < am_d m) (hs : stOk st) (hp : pc + 3 = pc') : rn m pc L (.int x2 :: .int x1 :: .int x0 :: .ref b :: st) h = cl m pc' L st (rn m_X11_slope 0 [.ref b, .int x0, .int x1, .int x2, am_J, am_J] [] h) := tq_callV (mj := m_X11_slope) hi q (fun k => rfl) (by rw [d_X11_slope]; exact hd) (gd_A (isA_ref _) (gd_I (gd_I (gd_I gd_nil)))) hs hp rfl
theorem c_L_bucket {m pc pc' z : Nat} {kz : Int} {L st : List Value} {h : am_H} {v0 : Value} {x1 : Int32} {x2 : Int32} (hi : am_i m pc = some (pc, .invokestatic z, 3, [121], kz)) (hd : 9 < am_d m) (hA0 : isA v0) (hs : stOk st) (hp : pc + 3 = pc') : rn m pc L (.int x2 :: .int x1 :: v0 :: st) h = cl m pc' L st (rn m_L_bucket 0 [v0, .int x1, .int x2, am_J] [] h) := tq_callS (mj := m_L_bucket) hi (fun k => rfl) (by rw [d_L_bucket]; exact hd) (gd_A hA0 (gd_I (gd_I gd_nil))) hs hp rfl
theorem c_L_paint {m pc pc' z : Nat} {kz : Int} {L st : List Value} {h : am_H} {v0 : Value} {x1 : Int32} {v2 : Value} (hi : am_i m pc = some (pc, .invokestatic z, 3, [122], kz)) (hd : 9 < am_d m) (hA0 : isA v0) (hA2 : isA v2) (hs : stOk st) (hp : pc + 3 = pc') : rn m pc L (v2 :: .int x1 :: v0 :: st) h = cl m pc' L st (rn m_L_paint 0 [v0, .int x1, v2, am_J] [] h) := tq_callS (mj := m_L_paint) hi (fun k => rfl) (by rw [d_L_paint]; exact hd) (gd_A hA0 (gd_I (gd_A hA2 gd_nil))) hs hp rfl
theorem c_X11_built {m pc pc' z : Nat} {kz : Int} {L st : List Value} {h : am_H} {b : Nat} {x0 : Int32} {x1 : Int32} {x2 : Int32} (hi : am_i m pc = some (pc, .invokevirtual z, 3, [123, 9], kz)) (q : sh h b = (5, 9)) (hd : 9 < am_d m) (hs : stOk st) (hp : pc + 3 = pc') : rn m pc L (.int x2 :: .int x1 :: .int x0 :: .ref b :: st) h = cl m pc' L st (rn m_X11_built 0 [.ref b, .int x0, .int x1, .int x2, am_J] [] h) := tq_callV (mj := m_X11_built) hi q (fun k => rfl) (by rw [d_X11_built]; exact hd) (gd_A (isA_ref _) (gd_I (gd_I (gd_I gd_nil)))) hs hp rfl
theorem c_X11_coarsenessOf {m pc pc' z : Nat} {kz : Int} {L st : List Value} {h : am_H} {b : Nat} {x0 : Int32} (hi : am_i m pc = some (pc, .invokevirtual z, 3, [124, 9], kz)) (q : sh h b = (5, 9)) (hd : 9 < am_d m) (hs : stOk st) (hp : pc + 3 = pc') : rn m pc L (.int x0 :: .ref b :: st) h = cl m pc' L st (rn m_X11_coarsenessOf 0 [.ref b, .int x0] [] h) := tq_callV (mj := m_X11_coarsenessOf) hi q (fun k => rfl) (by rw [d_X11_coarsenessOf]; exact hd) (gd_A (isA_ref _) (gd_I gd_nil)) hs hp rfl
theorem c_X11_commonest {m pc pc' z : Nat} {kz : Int} {L st : List Value} {h : am_H} {b : Nat} (hi : am_i m pc = some (pc, .invokevirtual z, 3, [125, 9], kz)) (q : sh h b = (5, 9)) (hd : 9 < am_d m) (hs : stOk st) (hp : pc + 3 = pc') : rn m pc L (.ref b :: st) h = cl m pc' L st (rn m_X11_commonest 0 [.ref b, am_J, am_J, am_J, am_J, am_J] [] h) := tq_callV (mj := m_X11_commonest) hi q (fun k => rfl) (by rw [d_X11_commonest]; exact hd) (gd_A (isA_ref _) gd_nil) hs hp rfl
theorem c_X11_drift {m pc pc' z : Nat} {kz : Int} {L st : List Value} {h : am_H} {b : Nat} (hi : am_i m pc = some (pc, .invokevirtual z, 3, [126, 9], kz)) (q : sh h b = (5, 9)) (hd : 9 < am_d m) (hs : stOk st) (hp : pc + 3 = pc') : rn m pc L (.ref b :: st) h = cl m pc' L st (rn m_X11_drift 0 [.ref b, am_J, am_J, am_J] [] h) := tq_callV (mj := m_X11_drift) hi q (fun k => rfl) (by rw [d_X11_drift]; exact hd) (gd_A (isA_ref _) gd_nil) hs hp rfl
theorem c_X11_heavierThan {m pc pc' z : Nat} {kz : Int} {L st : List Value} {h : am_H} {b : Nat} {x0 : Int32} (hi : am_i m pc = some (pc, .invokevirtual z, 3, [127, 9], kz)) (q : sh h b = (5, 9)) (hd : 9 < am_d m) (hs : stOk st) (hp : pc + 3 = pc') : rn m pc L (.int x0 :: .ref b :: st) h = cl m pc' L st (rn m_X11_heavierThan 0 [.ref b, .int x0, am_J, am_J, am_J, am_J] [] h) := tq_callV (mj := m_X11_heavierThan) hi q (fun k => rfl) (by rw [d_X11_heavierThan]; exact hd) (gd_A (isA_ref _) (gd_I gd_nil)) hs hp rfl
theorem c_X11_isClean {m pc pc' z : Nat} {kz : Int} {L st : List Value} {h : am_H} {b : Nat} (hi : am_i m pc = some (pc, .invokevirtual z, 3, [128, 9], kz)) (q : sh h b = (5, 9)) (hd : 9 < am_d m) (hs : stOk st) (hp : pc + 3 = pc') : rn m pc L (.ref b :: st) h = cl m pc' L st (rn m_X11_isClean 0 [.ref b] [] h) := tq_callV (mj := m_X11_isClean) hi q (fun k => rfl) (by rw [d_X11_isClean]; exact hd) (gd_A (isA_ref _) gd_nil) hs hp rfl
theorem c_X11_keptPixels {m pc pc' z : Nat} {kz : Int} {L st : List Value} {h : am_H} {b : Nat} {x0 : Int32} (hi : am_i m pc = some (pc, .invokevirtual z, 3, [129, 9], kz)) (q : sh h b = (5, 9)) (hd : 9 < am_d m) (hs : stOk st) (hp : pc + 3 = pc') : rn m pc L (.int x0 :: .ref b :: st) h = cl m pc' L st (rn m_X11_keptPixels 0 [.ref b, .int x0] [] h) := tq_callV (mj := m_X11_keptPixels) hi q (fun k => rfl) (by rw [d_X11_keptPixels]; exact hd) (gd_A (isA_ref _) (gd_I gd_nil)) hs hp rfl
theorem c_X11_kindOf {m pc pc' z : Nat} {kz : Int} {L st : List Value} {h : am_H} {b : Nat} {x0 : Int32} (hi : am_i m pc = some (pc, .invokevirtual z, 3, [130, 9], kz)) (q : sh h b = (5, 9)) (hd : 9 < am_d m) (hs : stOk st) (hp : pc + 3 = pc') : rn m pc L (.int x0 :: .ref b :: st) h = cl m pc' L st (rn m_X11_kindOf 0 [.ref b, .int x0] [] h) := tq_callV (mj := m_X11_kindOf) hi q (fun k => rfl) (by rw [d_X11_kindOf]; exact hd) (gd_A (isA_ref _) (gd_I gd_nil)) hs hp rfl
theorem c_X11_levelAt {m pc pc' z : Nat} {kz : Int} {L st : List Value} {h : am_H} {b : Nat} {x0 : Int32} {x1 : Int32} {x2 : Int32} (hi : am_i m pc = some (pc, .invokevirtual z, 3, [131, 9], kz)) (q : sh h b = (5, 9)) (hd : 9 < am_d m) (hs : stOk st) (hp : pc + 3 = pc') : rn m pc L (.int x2 :: .int x1 :: .int x0 :: .ref b :: st) h = cl m pc' L st (rn m_X11_levelAt 0 [.ref b, .int x0, .int x1, .int x2, am_J] [] h) := tq_callV (mj := m_X11_levelAt) hi q (fun k => rfl) (by rw [d_X11_levelAt]; exact hd) (gd_A (isA_ref _) (gd_I (gd_I (gd_I gd_nil)))) hs hp rfl
theorem c_X11_meanBits {m pc pc' z : Nat} {kz : Int} {L st : List Value} {h : am_H} {b : Nat} (hi : am_i m pc = some (pc, .invokevirtual z, 3, [132, 9], kz)) (q : sh h b = (5, 9)) (hd : 9 < am_d m) (hs : stOk st) (hp : pc + 3 = pc') : rn m pc L (.ref b :: st) h = cl m pc' L st (rn m_X11_meanBits 0 [.ref b, am_J, am_J] [] h) := tq_callV (mj := m_X11_meanBits) hi q (fun k => rfl) (by rw [d_X11_meanBits]; exact hd) (gd_A (isA_ref _) gd_nil) hs hp rfl
theorem c_X11_modeAt {m pc pc' z : Nat} {kz : Int} {L st : List Value} {h : am_H} {b : Nat} {x0 : Int32} {x1 : Int32} {x2 : Int32} (hi : am_i m pc = some (pc, .invokevirtual z, 3, [133, 9], kz)) (q : sh h b = (5, 9)) (hd : 9 < am_d m) (hs : stOk st) (hp : pc + 3 = pc') : rn m pc L (.int x2 :: .int x1 :: .int x0 :: .ref b :: st) h = cl m pc' L st (rn m_X11_modeAt 0 [.ref b, .int x0, .int x1, .int x2, am_J] [] h) := tq_callV (mj := m_X11_modeAt) hi q (fun k => rfl) (by rw [d_X11_modeAt]; exact hd) (gd_A (isA_ref _) (gd_I (gd_I (gd_I gd_nil)))) hs hp rfl
theorem c_X11_partAt {m pc pc' z : Nat} {kz : Int} {L st : List Value} {h : am_H} {b : Nat} {x0 : Int32} {x1 : Int32} {x2 : Int32} (hi : am_i m pc = some (pc, .invokevirtual z, 3, [134, 9], kz)) (q : sh h b = (5, 9)) (hd : 9 < am_d m) (hs : stOk st) (hp : pc + 3 = pc') : rn m pc L (.int x2 :: .int x1 :: .int x0 :: .ref b :: st) h = cl m pc' L st (rn m_X11_partAt 0 [.ref b, .int x0, .int x1, .int x2, am_J] [] h) := tq_callV (mj := m_X11_partAt) hi q (fun k => rfl) (by rw [d_X11_partAt]; exact hd) (gd_A (isA_ref _) (gd_I (gd_I (gd_I gd_nil)))) hs hp rfl
theorem c_X11_pixel {m pc pc' z : Nat} {kz : Int} {L st : List Value} {h : am_H} {b : Nat} {x0 : Int32} {x1 : Int32} (hi : am_i m pc = some (pc, .invokevirtual z, 3, [135, 9], kz)) (q : sh h b = (5, 9)) (hd : 9 < am_d m) (hs : stOk st) (hp : pc + 3 = pc') : rn m pc L (.int x1 :: .int x0 :: .ref b :: st) h = cl m pc' L st (rn m_X11_pixel 0 [.ref b, .int x0, .int x1] [] h) := tq_callV (mj := m_X11_pixel) hi q (fun k => rfl) (by rw [d_X11_pixel]; exact hd) (gd_A (isA_ref _) (gd_I (gd_I gd_nil))) hs hp rfl
theorem c_X11_send {m pc pc' z : Nat} {kz : Int} {L st : List Value} {h : am_H} {b : Nat} {x0 : Int32} (hi : am_i m pc = some (pc, .invokevirtual z, 3, [136, 9], kz)) (q : sh h b = (5, 9)) (hd : 9 < am_d m) (hs : stOk st) (hp : pc + 3 = pc') : rn m pc L (.int x0 :: .ref b :: st) h = cl m pc' L st (rn m_X11_send 0 [.ref b, .int x0, am_J] [] h) := tq_callV (mj := m_X11_send) hi q (fun k => rfl) (by rw [d_X11_send]; exact hd) (gd_A (isA_ref _) (gd_I gd_nil)) hs hp rfl
theorem c_X11_shown {m pc pc' z : Nat} {kz : Int} {L st : List Value} {h : am_H} {b : Nat} (hi : am_i m pc = some (pc, .invokevirtual z, 3, [137, 9], kz)) (q : sh h b = (5, 9)) (hd : 9 < am_d m) (hs : stOk st) (hp : pc + 3 = pc') : rn m pc L (.ref b :: st) h = cl m pc' L st (rn m_X11_shown 0 [.ref b] [] h) := tq_callV (mj := m_X11_shown) hi q (fun k => rfl) (by rw [d_X11_shown]; exact hd) (gd_A (isA_ref _) gd_nil) hs hp rfl
theorem c_X11_shownAt {m pc pc' z : Nat} {kz : Int} {L st : List Value} {h : am_H} {b : Nat} {x0 : Int32} {x1 : Int32} (hi : am_i m pc = some (pc, .invokevirtual z, 3, [138, 9], kz)) (q : sh h b = (5, 9)) (hd : 9 < am_d m) (hs : stOk st) (hp : pc + 3 = pc') : rn m pc L (.int x1 :: .int x0 :: .ref b :: st) h = cl m pc' L st (rn m_X11_shownAt 0 [.ref b, .int x0, .int x1] [] h) := tq_callV (mj := m_X11_shownAt) hi q (fun k => rfl) (by rw [d_X11_shownAt]; exact hd) (gd_A (isA_ref _) (gd_I (gd_I gd_nil))) hs hp rfl
theorem c_X11_vectorAt {m pc pc' z : Nat} {kz : Int} {L st : List Value} {h : am_H} {b : Nat} {x0 : Int32} {x1 : Int32} {x2 : Int32} {x3 : Int32} (hi : am_i m pc = some (pc, .invokevirtual z, 3, [139, 9], kz)) (q : sh h b = (5, 9)) (hd : 9 < am_d m) (hs : stOk st) (hp : pc + 3 = pc') : rn m pc L (.int x3 :: .int x2 :: .int x1 :: .int x0 :: .ref b :: st) h = cl m pc' L st (rn m_X11_vectorAt 0 [.ref b, .int x0, .int x1, .int x2, .int x3, am_J, am_J] [] h) := tq_callV (mj := m_X11_vectorAt) hi q (fun k => rfl) (by rw [d_X11_vectorAt]; exact hd) (gd_A (isA_ref _) (gd_I (gd_I (gd_I (gd_I gd_nil))))) hs hp rfl
theorem c_L_figure {m pc pc' z : Nat} {kz : Int} {L st : List Value} {h : am_H} {v0 : Value} {x1 : Int32} (hi : am_i m pc = some (pc, .invokestatic z, 3, [140], kz)) (hd : 10 < am_d m) (hA0 : isA v0) (hs : stOk st) (hp : pc + 3 = pc') : rn m pc L (.int x1 :: v0 :: st) h = cl m pc' L st (rn m_L_figure 0 [v0, .int x1, am_J] [] h) := tq_callS (mj := m_L_figure) hi (fun k => rfl) (by rw [d_L_figure]; exact hd) (gd_A hA0 (gd_I gd_nil)) hs hp rfl
theorem c_L_pixel {m pc pc' z : Nat} {kz : Int} {L st : List Value} {h : am_H} {v0 : Value} {x1 : Int32} {x2 : Int32} {x3 : Int32} {x4 : Int32} (hi : am_i m pc = some (pc, .invokestatic z, 3, [141], kz)) (hd : 10 < am_d m) (hA0 : isA v0) (hs : stOk st) (hp : pc + 3 = pc') : rn m pc L (.int x4 :: .int x3 :: .int x2 :: .int x1 :: v0 :: st) h = cl m pc' L st (rn m_L_pixel 0 [v0, .int x1, .int x2, .int x3, .int x4, am_J] [] h) := tq_callS (mj := m_L_pixel) hi (fun k => rfl) (by rw [d_L_pixel]; exact hd) (gd_A hA0 (gd_I (gd_I (gd_I (gd_I gd_nil))))) hs hp rfl
theorem c_X11_code {m pc pc' z : Nat} {kz : Int} {L st : List Value} {h : am_H} {b : Nat} {x0 : Int32} {x1 : Int32} {x2 : Int32} (hi : am_i m pc = some (pc, .invokevirtual z, 3, [142, 9], kz)) (q : sh h b = (5, 9)) (hd : 10 < am_d m) (hs : stOk st) (hp : pc + 3 = pc') : rn m pc L (.int x2 :: .int x1 :: .int x0 :: .ref b :: st) h = cl m pc' L st (rn m_X11_code 0 [.ref b, .int x0, .int x1, .int x2, am_J] [] h) := tq_callV (mj := m_X11_code) hi q (fun k => rfl) (by rw [d_X11_code]; exact hd) (gd_A (isA_ref _) (gd_I (gd_I (gd_I gd_nil)))) hs hp rfl
theorem c_X11_heaviest {m pc pc' z : Nat} {kz : Int} {L st : List Value} {h : am_H} {b : Nat} {x0 : Int32} (hi : am_i m pc = some (pc, .invokevirtual z, 3, [143, 9], kz)) (q : sh h b = (5, 9)) (hd : 10 < am_d m) (hs : stOk st) (hp : pc + 3 = pc') : rn m pc L (.int x0 :: .ref b :: st) h = cl m pc' L st (rn m_X11_heaviest 0 [.ref b, .int x0, am_J, am_J] [] h) := tq_callV (mj := m_X11_heaviest) hi q (fun k => rfl) (by rw [d_X11_heaviest]; exact hd) (gd_A (isA_ref _) (gd_I gd_nil)) hs hp rfl
theorem c_L_ask {m pc pc' z : Nat} {kz : Int} {L st : List Value} {h : am_H} {v0 : Value} {x1 : Int32} {x2 : Int32} (hi : am_i m pc = some (pc, .invokestatic z, 3, [144], kz)) (hd : 11 < am_d m) (hA0 : isA v0) (hs : stOk st) (hp : pc + 3 = pc') : rn m pc L (.int x2 :: .int x1 :: v0 :: st) h = cl m pc' L st (rn m_L_ask 0 [v0, .int x1, .int x2, am_J] [] h) := tq_callS (mj := m_L_ask) hi (fun k => rfl) (by rw [d_L_ask]; exact hd) (gd_A hA0 (gd_I (gd_I gd_nil))) hs hp rfl
theorem c_L_code {m pc pc' z : Nat} {kz : Int} {L st : List Value} {h : am_H} {v0 : Value} {x1 : Int32} {x2 : Int32} {x3 : Int32} (hi : am_i m pc = some (pc, .invokestatic z, 3, [145], kz)) (hd : 11 < am_d m) (hA0 : isA v0) (hs : stOk st) (hp : pc + 3 = pc') : rn m pc L (.int x3 :: .int x2 :: .int x1 :: v0 :: st) h = cl m pc' L st (rn m_L_code 0 [v0, .int x1, .int x2, .int x3, am_J] [] h) := tq_callS (mj := m_L_code) hi (fun k => rfl) (by rw [d_L_code]; exact hd) (gd_A hA0 (gd_I (gd_I (gd_I gd_nil)))) hs hp rfl
theorem c_L_isLike {m pc pc' z : Nat} {kz : Int} {L st : List Value} {h : am_H} {v0 : Value} {v1 : Value} (hi : am_i m pc = some (pc, .invokestatic z, 3, [146], kz)) (hd : 11 < am_d m) (hA0 : isA v0) (hA1 : isA v1) (hs : stOk st) (hp : pc + 3 = pc') : rn m pc L (v1 :: v0 :: st) h = cl m pc' L st (rn m_L_isLike 0 [v0, v1, am_J] [] h) := tq_callS (mj := m_L_isLike) hi (fun k => rfl) (by rw [d_L_isLike]; exact hd) (gd_A hA0 (gd_A hA1 gd_nil)) hs hp rfl
theorem c_L_flatIsGood {m pc pc' z : Nat} {kz : Int} {L st : List Value} {h : am_H} {x0 : Int32} {x1 : Int32} {x2 : Int32} (hi : am_i m pc = some (pc, .invokestatic z, 3, [147], kz)) (hd : 12 < am_d m) (hs : stOk st) (hp : pc + 3 = pc') : rn m pc L (.int x2 :: .int x1 :: .int x0 :: st) h = cl m pc' L st (rn m_L_flatIsGood 0 [.int x0, .int x1, .int x2, am_J, am_J, am_J, am_J] [] h) := tq_callS (mj := m_L_flatIsGood) hi (fun k => rfl) (by rw [d_L_flatIsGood]; exact hd) (gd_I (gd_I (gd_I gd_nil))) hs hp rfl
theorem c_L_paints {m pc pc' z : Nat} {kz : Int} {L st : List Value} {h : am_H} {v0 : Value} {x1 : Int32} {v2 : Value} (hi : am_i m pc = some (pc, .invokestatic z, 3, [148], kz)) (hd : 12 < am_d m) (hA0 : isA v0) (hA2 : isA v2) (hs : stOk st) (hp : pc + 3 = pc') : rn m pc L (v2 :: .int x1 :: v0 :: st) h = cl m pc' L st (rn m_L_paints 0 [v0, .int x1, v2, am_J, am_J, am_J, am_J, am_J, am_J, am_J, am_J, am_J, am_J, am_J, am_J, am_J, am_J, am_J, am_J, am_J, am_J] [] h) := tq_callS (mj := m_L_paints) hi (fun k => rfl) (by rw [d_L_paints]; exact hd) (gd_A hA0 (gd_I (gd_A hA2 gd_nil))) hs hp rfl
theorem w_m2147000002 : wr (-2147000002) = (-2147000002) := wr_id (by decide) (by decide)
theorem w_m100005 : wr (-100005) = (-100005) := wr_id (by decide) (by decide)
theorem w_m100001 : wr (-100001) = (-100001) := wr_id (by decide) (by decide)
theorem w_m1005 : wr (-1005) = (-1005) := wr_id (by decide) (by decide)
theorem w_m1004 : wr (-1004) = (-1004) := wr_id (by decide) (by decide)
theorem w_m1003 : wr (-1003) = (-1003) := wr_id (by decide) (by decide)
theorem w_m1002 : wr (-1002) = (-1002) := wr_id (by decide) (by decide)
theorem w_m1001 : wr (-1001) = (-1001) := wr_id (by decide) (by decide)
theorem w_m99 : wr (-99) = (-99) := wr_id (by decide) (by decide)
theorem w_m16 : wr (-16) = (-16) := wr_id (by decide) (by decide)
theorem w_m8 : wr (-8) = (-8) := wr_id (by decide) (by decide)
theorem w_m1 : wr (-1) = (-1) := wr_id (by decide) (by decide)
theorem w_0 : wr 0 = 0 := wr_id (by decide) (by decide)
theorem w_1 : wr 1 = 1 := wr_id (by decide) (by decide)
theorem w_2 : wr 2 = 2 := wr_id (by decide) (by decide)
theorem w_3 : wr 3 = 3 := wr_id (by decide) (by decide)
theorem w_4 : wr 4 = 4 := wr_id (by decide) (by decide)
theorem w_5 : wr 5 = 5 := wr_id (by decide) (by decide)
theorem w_6 : wr 6 = 6 := wr_id (by decide) (by decide)
theorem w_7 : wr 7 = 7 := wr_id (by decide) (by decide)
theorem w_8 : wr 8 = 8 := wr_id (by decide) (by decide)
theorem w_9 : wr 9 = 9 := wr_id (by decide) (by decide)
theorem w_11 : wr 11 = 11 := wr_id (by decide) (by decide)
theorem w_12 : wr 12 = 12 := wr_id (by decide) (by decide)
theorem w_15 : wr 15 = 15 := wr_id (by decide) (by decide)
theorem w_16 : wr 16 = 16 := wr_id (by decide) (by decide)
theorem w_17 : wr 17 = 17 := wr_id (by decide) (by decide)
theorem w_24 : wr 24 = 24 := wr_id (by decide) (by decide)
theorem w_31 : wr 31 = 31 := wr_id (by decide) (by decide)
theorem w_32 : wr 32 = 32 := wr_id (by decide) (by decide)
theorem w_40 : wr 40 = 40 := wr_id (by decide) (by decide)
theorem w_41 : wr 41 = 41 := wr_id (by decide) (by decide)
theorem w_42 : wr 42 = 42 := wr_id (by decide) (by decide)
theorem w_47 : wr 47 = 47 := wr_id (by decide) (by decide)
theorem w_48 : wr 48 = 48 := wr_id (by decide) (by decide)
theorem w_63 : wr 63 = 63 := wr_id (by decide) (by decide)
theorem w_64 : wr 64 = 64 := wr_id (by decide) (by decide)
theorem w_70 : wr 70 = 70 := wr_id (by decide) (by decide)
theorem w_94 : wr 94 = 94 := wr_id (by decide) (by decide)
theorem w_98 : wr 98 = 98 := wr_id (by decide) (by decide)
theorem w_99 : wr 99 = 99 := wr_id (by decide) (by decide)
theorem w_100 : wr 100 = 100 := wr_id (by decide) (by decide)
theorem w_102 : wr 102 = 102 := wr_id (by decide) (by decide)
theorem w_103 : wr 103 = 103 := wr_id (by decide) (by decide)
theorem w_104 : wr 104 = 104 := wr_id (by decide) (by decide)
theorem w_105 : wr 105 = 105 := wr_id (by decide) (by decide)
theorem w_106 : wr 106 = 106 := wr_id (by decide) (by decide)
theorem w_108 : wr 108 = 108 := wr_id (by decide) (by decide)
theorem w_109 : wr 109 = 109 := wr_id (by decide) (by decide)
theorem w_112 : wr 112 = 112 := wr_id (by decide) (by decide)
theorem w_113 : wr 113 = 113 := wr_id (by decide) (by decide)
theorem w_115 : wr 115 = 115 := wr_id (by decide) (by decide)
theorem w_116 : wr 116 = 116 := wr_id (by decide) (by decide)
theorem w_119 : wr 119 = 119 := wr_id (by decide) (by decide)
theorem w_128 : wr 128 = 128 := wr_id (by decide) (by decide)
theorem w_199 : wr 199 = 199 := wr_id (by decide) (by decide)
theorem w_255 : wr 255 = 255 := wr_id (by decide) (by decide)
theorem w_256 : wr 256 = 256 := wr_id (by decide) (by decide)
theorem w_768 : wr 768 = 768 := wr_id (by decide) (by decide)
theorem w_1024 : wr 1024 = 1024 := wr_id (by decide) (by decide)
theorem w_2048 : wr 2048 = 2048 := wr_id (by decide) (by decide)
theorem w_2209 : wr 2209 = 2209 := wr_id (by decide) (by decide)
theorem w_4096 : wr 4096 = 4096 := wr_id (by decide) (by decide)
theorem w_10240 : wr 10240 = 10240 := wr_id (by decide) (by decide)
theorem w_12345 : wr 12345 = 12345 := wr_id (by decide) (by decide)
theorem w_51200 : wr 51200 = 51200 := wr_id (by decide) (by decide)
theorem w_65535 : wr 65535 = 65535 := wr_id (by decide) (by decide)
theorem w_70000 : wr 70000 = 70000 := wr_id (by decide) (by decide)
theorem w_99999 : wr 99999 = 99999 := wr_id (by decide) (by decide)
theorem w_100000 : wr 100000 = 100000 := wr_id (by decide) (by decide)
theorem w_1000000 : wr 1000000 = 1000000 := wr_id (by decide) (by decide)
theorem w_100000000 : wr 100000000 = 100000000 := wr_id (by decide) (by decide)
theorem w_1103515245 : wr 1103515245 = 1103515245 := wr_id (by decide) (by decide)
theorem wl_0 : wl 0 = 0 := wl_id (by decide) (by decide)
theorem wl_2 : wl 2 = 2 := wl_id (by decide) (by decide)
theorem wl_256 : wl 256 = 256 := wl_id (by decide) (by decide)
theorem wl_2048 : wl 2048 = 2048 := wl_id (by decide) (by decide)
theorem wl_16777216 : wl 16777216 = 16777216 := wl_id (by decide) (by decide)
theorem wl_4294967295 : wl 4294967295 = 4294967295 := wl_id (by decide) (by decide)
