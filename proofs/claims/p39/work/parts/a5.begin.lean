/-! ===== a new object ===== -/
section GO
variable {h : am_H} {a k t n : Nat} {c : am_C} {C : Nat} {fs : Nat → Value}
theorem sh_of (e : hget h a = some c) : sh h a = c_sh c := by unfold sh; rw [e]; rfl
theorem sh_ofo (e : hget h a = some (.inr (C, fs))) (w : am_wf C fs = true) : sh h a = (5, C) := (sh_of e).trans (if_pos w)
theorem gn_of (e : hget h a = some c) : gn h a = c_n c := by unfold gn; rw [e]; rfl
theorem fA_of (e : hget h a = some (.inr (C, fs))) : fA h a k = vA (fs k) := by unfold fA gV; rw [e]; rfl
theorem fZ_of (e : hget h a = some (.inr (C, fs))) : fZ h a k = vZ (fs k) := by unfold fZ gV; rw [e]; rfl
theorem gZ_of (e : hget h a = some (zI t n)) (i : Int) : gZ h a i = 0 := by unfold gZ gI; rw [e]; rfl
theorem start_tb (h : am_H) (C : Nat) : aO C h = tb h (am_nf C) ([] ++ [ob C]) := by
  have e := tb_alc (h := h) (s := 0) (l := []) (am_nf C) (ob C)
  rw [tb_zero, Nat.zero_add] at e
  exact e
end GO
def clC : List am_C := [.inr (9, am_fu (am_fu (am_fu (am_fu (am_fu (am_fu (am_fu (am_fu (am_fu (am_fu (am_fu (am_fu (am_fu (am_fu (am_fu (df 9) 0 (.ref 3)) 1 (.ref 4)) 2 (.int (mI 8))) 3 (.int (mI 7))) 4 (.int (mI 1))) 5 (.int (mI 1))) 6 (.ref 5)) 7 (.ref 6)) 8 (.int (mI 0))) 9 (.ref 7)) 10 (.ref 16)) 11 (.int (mI 0))) 12 (.ref 17)) 13 (.ref 28)) 14 (.ref 36)), zI 0 256, zI 0 256, .inr (0, am_fu (am_fu (am_fu (df 0) 0 (.int (mI 0))) 1 (.int (mI 0))) 2 (.int (mI 0))), zA 5 12, .inr (6, am_fu (am_fu (am_fu (am_fu (am_fu (am_fu (am_fu (am_fu (am_fu (am_fu (am_fu (am_fu (am_fu (am_fu (am_fu (am_fu (df 6) 0 (.int (mI 105))) 1 (.int (mI 0))) 2 (.int (mI 0))) 3 (.int (mI 1))) 4 (.int (mI 0))) 5 (.int (mI 1))) 6 (.int (mI 0))) 7 (.long (mL 0))) 8 (.ref 8)) 9 (.ref 9)) 10 (.ref 10)) 11 (.ref 11)) 12 (.ref 12)) 13 (.ref 13)) 14 (.ref 14)) 15 (.ref 15)), zI 0 0, zI 0 0, zI 0 16, zI 0 16, zI 0 16, zI 0 16, zI 0 256, zI 0 256, zI 0 3, .inr (2, am_fu (am_fu (df 2) 0 (.ref 18)) 1 (.ref 27)), .inr (1, am_fu (am_fu (am_fu (am_fu (am_fu (am_fu (am_fu (am_fu (df 1) 0 (.ref 19)) 1 (.ref 21)) 2 (.ref 23)) 3 (.ref 24)) 4 (.int (mI 128))) 5 (.int (mI 128))) 6 (.ref 25)) 7 (.ref 26)), .inr (4, am_fu (df 4) 0 (.ref 20)), zI 0 2209, .inr (4, am_fu (df 4) 0 (.ref 22)), zI 0 2209, zI 0 8, zI 0 8, zI 0 256, zI 0 16, .inr (5, am_fu (am_fu (am_fu (am_fu (am_fu (am_fu (am_fu (df 5) 0 (.int (mI 0))) 1 (.int (mI 0))) 2 (.int (mI 8))) 3 (.int (mI 0))) 4 (.int (mI 0))) 5 (.int (mI (-1)))) 6 (.int (mI (-1)))), .inr (7, am_fu (am_fu (am_fu (am_fu (df 7) 0 (.ref 29)) 1 (.ref 32)) 2 (.ref 29)) 3 (.ref 35)), .inr (8, am_fu (am_fu (am_fu (am_fu (am_fu (df 8) 0 (.ref 30)) 1 (.ref 31)) 2 (.int (mI 0))) 3 (.long (mL 0))) 4 (.long (mL 4294967295))), zI 0 70, zI 0 4096, .inr (8, am_fu (am_fu (am_fu (am_fu (am_fu (df 8) 0 (.ref 33)) 1 (.ref 34)) 2 (.int (mI 0))) 3 (.long (mL 0))) 4 (.long (mL 4294967295))), zI 0 70, zI 0 4096, .inr (5, am_fu (am_fu (am_fu (am_fu (am_fu (am_fu (am_fu (df 5) 0 (.int (mI 0))) 1 (.int (mI 0))) 2 (.int (mI 8))) 3 (.int (mI 0))) 4 (.int (mI 0))) 5 (.int (mI (-1)))) 6 (.int (mI (-1)))), .inr (3, am_fu (am_fu (am_fu (am_fu (am_fu (am_fu (am_fu (am_fu (am_fu (am_fu (am_fu (am_fu (df 3) 0 (.ref 37)) 1 (.ref 46)) 2 (.ref 47)) 3 (.int (mI 0))) 4 (.int (mI (-1)))) 5 (.int (mI 0))) 6 (.ref 48)) 7 (.int (mI 0))) 8 (.ref 49)) 9 (.ref 50)) 10 (.int (mI 0))) 11 (.int (mI 0))), .inr (1, am_fu (am_fu (am_fu (am_fu (am_fu (am_fu (am_fu (am_fu (df 1) 0 (.ref 38)) 1 (.ref 40)) 2 (.ref 42)) 3 (.ref 43)) 4 (.int (mI 128))) 5 (.int (mI 128))) 6 (.ref 44)) 7 (.ref 45)), .inr (4, am_fu (df 4) 0 (.ref 39)), zI 0 2209, .inr (4, am_fu (df 4) 0 (.ref 41)), zI 0 2209, zI 0 8, zI 0 8, zI 0 256, zI 0 16, .inr (5, am_fu (am_fu (am_fu (am_fu (am_fu (am_fu (am_fu (df 5) 0 (.int (mI 0))) 1 (.int (mI 0))) 2 (.int (mI 8))) 3 (.int (mI 0))) 4 (.int (mI 0))) 5 (.int (mI (-1)))) 6 (.int (mI (-1)))), zI 0 256, zI 0 256, zI 0 768, zI 0 3]
theorem wf_2 : am_wf 9 (am_fu (am_fu (am_fu (am_fu (am_fu (am_fu (am_fu (am_fu (am_fu (am_fu (am_fu (am_fu (am_fu (am_fu (am_fu (df 9) 0 (.ref 3)) 1 (.ref 4)) 2 (.int (mI 8))) 3 (.int (mI 7))) 4 (.int (mI 1))) 5 (.int (mI 1))) 6 (.ref 5)) 7 (.ref 6)) 8 (.int (mI 0))) 9 (.ref 7)) 10 (.ref 16)) 11 (.int (mI 0))) 12 (.ref 17)) 13 (.ref 28)) 14 (.ref 36)) = true := rfl
theorem wf_5 : am_wf 0 (am_fu (am_fu (am_fu (df 0) 0 (.int (mI 0))) 1 (.int (mI 0))) 2 (.int (mI 0))) = true := rfl
theorem wf_7 : am_wf 6 (am_fu (am_fu (am_fu (am_fu (am_fu (am_fu (am_fu (am_fu (am_fu (am_fu (am_fu (am_fu (am_fu (am_fu (am_fu (am_fu (df 6) 0 (.int (mI 105))) 1 (.int (mI 0))) 2 (.int (mI 0))) 3 (.int (mI 1))) 4 (.int (mI 0))) 5 (.int (mI 1))) 6 (.int (mI 0))) 7 (.long (mL 0))) 8 (.ref 8)) 9 (.ref 9)) 10 (.ref 10)) 11 (.ref 11)) 12 (.ref 12)) 13 (.ref 13)) 14 (.ref 14)) 15 (.ref 15)) = true := rfl
theorem wf_17 : am_wf 2 (am_fu (am_fu (df 2) 0 (.ref 18)) 1 (.ref 27)) = true := rfl
theorem wf_18 : am_wf 1 (am_fu (am_fu (am_fu (am_fu (am_fu (am_fu (am_fu (am_fu (df 1) 0 (.ref 19)) 1 (.ref 21)) 2 (.ref 23)) 3 (.ref 24)) 4 (.int (mI 128))) 5 (.int (mI 128))) 6 (.ref 25)) 7 (.ref 26)) = true := rfl
theorem wf_19 : am_wf 4 (am_fu (df 4) 0 (.ref 20)) = true := rfl
theorem wf_21 : am_wf 4 (am_fu (df 4) 0 (.ref 22)) = true := rfl
theorem wf_27 : am_wf 5 (am_fu (am_fu (am_fu (am_fu (am_fu (am_fu (am_fu (df 5) 0 (.int (mI 0))) 1 (.int (mI 0))) 2 (.int (mI 8))) 3 (.int (mI 0))) 4 (.int (mI 0))) 5 (.int (mI (-1)))) 6 (.int (mI (-1)))) = true := rfl
theorem wf_28 : am_wf 7 (am_fu (am_fu (am_fu (am_fu (df 7) 0 (.ref 29)) 1 (.ref 32)) 2 (.ref 29)) 3 (.ref 35)) = true := rfl
theorem wf_29 : am_wf 8 (am_fu (am_fu (am_fu (am_fu (am_fu (df 8) 0 (.ref 30)) 1 (.ref 31)) 2 (.int (mI 0))) 3 (.long (mL 0))) 4 (.long (mL 4294967295))) = true := rfl
theorem wf_32 : am_wf 8 (am_fu (am_fu (am_fu (am_fu (am_fu (df 8) 0 (.ref 33)) 1 (.ref 34)) 2 (.int (mI 0))) 3 (.long (mL 0))) 4 (.long (mL 4294967295))) = true := rfl
theorem wf_35 : am_wf 5 (am_fu (am_fu (am_fu (am_fu (am_fu (am_fu (am_fu (df 5) 0 (.int (mI 0))) 1 (.int (mI 0))) 2 (.int (mI 8))) 3 (.int (mI 0))) 4 (.int (mI 0))) 5 (.int (mI (-1)))) 6 (.int (mI (-1)))) = true := rfl
theorem wf_36 : am_wf 3 (am_fu (am_fu (am_fu (am_fu (am_fu (am_fu (am_fu (am_fu (am_fu (am_fu (am_fu (am_fu (df 3) 0 (.ref 37)) 1 (.ref 46)) 2 (.ref 47)) 3 (.int (mI 0))) 4 (.int (mI (-1)))) 5 (.int (mI 0))) 6 (.ref 48)) 7 (.int (mI 0))) 8 (.ref 49)) 9 (.ref 50)) 10 (.int (mI 0))) 11 (.int (mI 0))) = true := rfl
theorem wf_37 : am_wf 1 (am_fu (am_fu (am_fu (am_fu (am_fu (am_fu (am_fu (am_fu (df 1) 0 (.ref 38)) 1 (.ref 40)) 2 (.ref 42)) 3 (.ref 43)) 4 (.int (mI 128))) 5 (.int (mI 128))) 6 (.ref 44)) 7 (.ref 45)) = true := rfl
theorem wf_38 : am_wf 4 (am_fu (df 4) 0 (.ref 39)) = true := rfl
theorem wf_40 : am_wf 4 (am_fu (df 4) 0 (.ref 41)) = true := rfl
theorem wf_46 : am_wf 5 (am_fu (am_fu (am_fu (am_fu (am_fu (am_fu (am_fu (df 5) 0 (.int (mI 0))) 1 (.int (mI 0))) 2 (.int (mI 8))) 3 (.int (mI 0))) 4 (.int (mI 0))) 5 (.int (mI (-1)))) 6 (.int (mI (-1)))) = true := rfl
section BG
variable {h : am_H}
theorem kC (hh : hnx h = 2) : K9 (tb h 20233 clC) 2 := by
  have c2 : hget (tb h 20233 clC) 2 = some (.inr (9, am_fu (am_fu (am_fu (am_fu (am_fu (am_fu (am_fu (am_fu (am_fu (am_fu (am_fu (am_fu (am_fu (am_fu (am_fu (df 9) 0 (.ref 3)) 1 (.ref 4)) 2 (.int (mI 8))) 3 (.int (mI 7))) 4 (.int (mI 1))) 5 (.int (mI 1))) 6 (.ref 5)) 7 (.ref 6)) 8 (.int (mI 0))) 9 (.ref 7)) 10 (.ref 16)) 11 (.int (mI 0))) 12 (.ref 17)) 13 (.ref 28)) 14 (.ref 36))) := by
    have q := tb_hget (h := h) (s := 20233) (l := clC) (i := 0) (c := .inr (9, am_fu (am_fu (am_fu (am_fu (am_fu (am_fu (am_fu (am_fu (am_fu (am_fu (am_fu (am_fu (am_fu (am_fu (am_fu (df 9) 0 (.ref 3)) 1 (.ref 4)) 2 (.int (mI 8))) 3 (.int (mI 7))) 4 (.int (mI 1))) 5 (.int (mI 1))) 6 (.ref 5)) 7 (.ref 6)) 8 (.int (mI 0))) 9 (.ref 7)) 10 (.ref 16)) 11 (.int (mI 0))) 12 (.ref 17)) 13 (.ref 28)) 14 (.ref 36))) rfl
    rw [hh] at q
    exact q
  have w2 := wf_2
  have c3 : hget (tb h 20233 clC) 3 = some (zI 0 256) := by
    have q := tb_hget (h := h) (s := 20233) (l := clC) (i := 1) (c := zI 0 256) rfl
    rw [hh] at q
    exact q
  have c4 : hget (tb h 20233 clC) 4 = some (zI 0 256) := by
    have q := tb_hget (h := h) (s := 20233) (l := clC) (i := 2) (c := zI 0 256) rfl
    rw [hh] at q
    exact q
  have c5 : hget (tb h 20233 clC) 5 = some (.inr (0, am_fu (am_fu (am_fu (df 0) 0 (.int (mI 0))) 1 (.int (mI 0))) 2 (.int (mI 0)))) := by
    have q := tb_hget (h := h) (s := 20233) (l := clC) (i := 3) (c := .inr (0, am_fu (am_fu (am_fu (df 0) 0 (.int (mI 0))) 1 (.int (mI 0))) 2 (.int (mI 0)))) rfl
    rw [hh] at q
    exact q
  have w5 := wf_5
  have c6 : hget (tb h 20233 clC) 6 = some (zA 5 12) := by
    have q := tb_hget (h := h) (s := 20233) (l := clC) (i := 4) (c := zA 5 12) rfl
    rw [hh] at q
    exact q
  have c16 : hget (tb h 20233 clC) 16 = some (zI 0 3) := by
    have q := tb_hget (h := h) (s := 20233) (l := clC) (i := 14) (c := zI 0 3) rfl
    rw [hh] at q
    exact q
  have c17 : hget (tb h 20233 clC) 17 = some (.inr (2, am_fu (am_fu (df 2) 0 (.ref 18)) 1 (.ref 27))) := by
    have q := tb_hget (h := h) (s := 20233) (l := clC) (i := 15) (c := .inr (2, am_fu (am_fu (df 2) 0 (.ref 18)) 1 (.ref 27))) rfl
    rw [hh] at q
    exact q
  have w17 := wf_17
  have c18 : hget (tb h 20233 clC) 18 = some (.inr (1, am_fu (am_fu (am_fu (am_fu (am_fu (am_fu (am_fu (am_fu (df 1) 0 (.ref 19)) 1 (.ref 21)) 2 (.ref 23)) 3 (.ref 24)) 4 (.int (mI 128))) 5 (.int (mI 128))) 6 (.ref 25)) 7 (.ref 26))) := by
    have q := tb_hget (h := h) (s := 20233) (l := clC) (i := 16) (c := .inr (1, am_fu (am_fu (am_fu (am_fu (am_fu (am_fu (am_fu (am_fu (df 1) 0 (.ref 19)) 1 (.ref 21)) 2 (.ref 23)) 3 (.ref 24)) 4 (.int (mI 128))) 5 (.int (mI 128))) 6 (.ref 25)) 7 (.ref 26))) rfl
    rw [hh] at q
    exact q
  have w18 := wf_18
  have c19 : hget (tb h 20233 clC) 19 = some (.inr (4, am_fu (df 4) 0 (.ref 20))) := by
    have q := tb_hget (h := h) (s := 20233) (l := clC) (i := 17) (c := .inr (4, am_fu (df 4) 0 (.ref 20))) rfl
    rw [hh] at q
    exact q
  have w19 := wf_19
  have c20 : hget (tb h 20233 clC) 20 = some (zI 0 2209) := by
    have q := tb_hget (h := h) (s := 20233) (l := clC) (i := 18) (c := zI 0 2209) rfl
    rw [hh] at q
    exact q
  have c21 : hget (tb h 20233 clC) 21 = some (.inr (4, am_fu (df 4) 0 (.ref 22))) := by
    have q := tb_hget (h := h) (s := 20233) (l := clC) (i := 19) (c := .inr (4, am_fu (df 4) 0 (.ref 22))) rfl
    rw [hh] at q
    exact q
  have w21 := wf_21
  have c22 : hget (tb h 20233 clC) 22 = some (zI 0 2209) := by
    have q := tb_hget (h := h) (s := 20233) (l := clC) (i := 20) (c := zI 0 2209) rfl
    rw [hh] at q
    exact q
  have c23 : hget (tb h 20233 clC) 23 = some (zI 0 8) := by
    have q := tb_hget (h := h) (s := 20233) (l := clC) (i := 21) (c := zI 0 8) rfl
    rw [hh] at q
    exact q
  have c24 : hget (tb h 20233 clC) 24 = some (zI 0 8) := by
    have q := tb_hget (h := h) (s := 20233) (l := clC) (i := 22) (c := zI 0 8) rfl
    rw [hh] at q
    exact q
  have c25 : hget (tb h 20233 clC) 25 = some (zI 0 256) := by
    have q := tb_hget (h := h) (s := 20233) (l := clC) (i := 23) (c := zI 0 256) rfl
    rw [hh] at q
    exact q
  have c26 : hget (tb h 20233 clC) 26 = some (zI 0 16) := by
    have q := tb_hget (h := h) (s := 20233) (l := clC) (i := 24) (c := zI 0 16) rfl
    rw [hh] at q
    exact q
  have c27 : hget (tb h 20233 clC) 27 = some (.inr (5, am_fu (am_fu (am_fu (am_fu (am_fu (am_fu (am_fu (df 5) 0 (.int (mI 0))) 1 (.int (mI 0))) 2 (.int (mI 8))) 3 (.int (mI 0))) 4 (.int (mI 0))) 5 (.int (mI (-1)))) 6 (.int (mI (-1))))) := by
    have q := tb_hget (h := h) (s := 20233) (l := clC) (i := 25) (c := .inr (5, am_fu (am_fu (am_fu (am_fu (am_fu (am_fu (am_fu (df 5) 0 (.int (mI 0))) 1 (.int (mI 0))) 2 (.int (mI 8))) 3 (.int (mI 0))) 4 (.int (mI 0))) 5 (.int (mI (-1)))) 6 (.int (mI (-1))))) rfl
    rw [hh] at q
    exact q
  have w27 := wf_27
  have c28 : hget (tb h 20233 clC) 28 = some (.inr (7, am_fu (am_fu (am_fu (am_fu (df 7) 0 (.ref 29)) 1 (.ref 32)) 2 (.ref 29)) 3 (.ref 35))) := by
    have q := tb_hget (h := h) (s := 20233) (l := clC) (i := 26) (c := .inr (7, am_fu (am_fu (am_fu (am_fu (df 7) 0 (.ref 29)) 1 (.ref 32)) 2 (.ref 29)) 3 (.ref 35))) rfl
    rw [hh] at q
    exact q
  have w28 := wf_28
  have c29 : hget (tb h 20233 clC) 29 = some (.inr (8, am_fu (am_fu (am_fu (am_fu (am_fu (df 8) 0 (.ref 30)) 1 (.ref 31)) 2 (.int (mI 0))) 3 (.long (mL 0))) 4 (.long (mL 4294967295)))) := by
    have q := tb_hget (h := h) (s := 20233) (l := clC) (i := 27) (c := .inr (8, am_fu (am_fu (am_fu (am_fu (am_fu (df 8) 0 (.ref 30)) 1 (.ref 31)) 2 (.int (mI 0))) 3 (.long (mL 0))) 4 (.long (mL 4294967295)))) rfl
    rw [hh] at q
    exact q
  have w29 := wf_29
  have c30 : hget (tb h 20233 clC) 30 = some (zI 0 70) := by
    have q := tb_hget (h := h) (s := 20233) (l := clC) (i := 28) (c := zI 0 70) rfl
    rw [hh] at q
    exact q
  have c31 : hget (tb h 20233 clC) 31 = some (zI 0 4096) := by
    have q := tb_hget (h := h) (s := 20233) (l := clC) (i := 29) (c := zI 0 4096) rfl
    rw [hh] at q
    exact q
  have c32 : hget (tb h 20233 clC) 32 = some (.inr (8, am_fu (am_fu (am_fu (am_fu (am_fu (df 8) 0 (.ref 33)) 1 (.ref 34)) 2 (.int (mI 0))) 3 (.long (mL 0))) 4 (.long (mL 4294967295)))) := by
    have q := tb_hget (h := h) (s := 20233) (l := clC) (i := 30) (c := .inr (8, am_fu (am_fu (am_fu (am_fu (am_fu (df 8) 0 (.ref 33)) 1 (.ref 34)) 2 (.int (mI 0))) 3 (.long (mL 0))) 4 (.long (mL 4294967295)))) rfl
    rw [hh] at q
    exact q
  have w32 := wf_32
  have c33 : hget (tb h 20233 clC) 33 = some (zI 0 70) := by
    have q := tb_hget (h := h) (s := 20233) (l := clC) (i := 31) (c := zI 0 70) rfl
    rw [hh] at q
    exact q
  have c34 : hget (tb h 20233 clC) 34 = some (zI 0 4096) := by
    have q := tb_hget (h := h) (s := 20233) (l := clC) (i := 32) (c := zI 0 4096) rfl
    rw [hh] at q
    exact q
  have c35 : hget (tb h 20233 clC) 35 = some (.inr (5, am_fu (am_fu (am_fu (am_fu (am_fu (am_fu (am_fu (df 5) 0 (.int (mI 0))) 1 (.int (mI 0))) 2 (.int (mI 8))) 3 (.int (mI 0))) 4 (.int (mI 0))) 5 (.int (mI (-1)))) 6 (.int (mI (-1))))) := by
    have q := tb_hget (h := h) (s := 20233) (l := clC) (i := 33) (c := .inr (5, am_fu (am_fu (am_fu (am_fu (am_fu (am_fu (am_fu (df 5) 0 (.int (mI 0))) 1 (.int (mI 0))) 2 (.int (mI 8))) 3 (.int (mI 0))) 4 (.int (mI 0))) 5 (.int (mI (-1)))) 6 (.int (mI (-1))))) rfl
    rw [hh] at q
    exact q
  have w35 := wf_35
  have c36 : hget (tb h 20233 clC) 36 = some (.inr (3, am_fu (am_fu (am_fu (am_fu (am_fu (am_fu (am_fu (am_fu (am_fu (am_fu (am_fu (am_fu (df 3) 0 (.ref 37)) 1 (.ref 46)) 2 (.ref 47)) 3 (.int (mI 0))) 4 (.int (mI (-1)))) 5 (.int (mI 0))) 6 (.ref 48)) 7 (.int (mI 0))) 8 (.ref 49)) 9 (.ref 50)) 10 (.int (mI 0))) 11 (.int (mI 0)))) := by
    have q := tb_hget (h := h) (s := 20233) (l := clC) (i := 34) (c := .inr (3, am_fu (am_fu (am_fu (am_fu (am_fu (am_fu (am_fu (am_fu (am_fu (am_fu (am_fu (am_fu (df 3) 0 (.ref 37)) 1 (.ref 46)) 2 (.ref 47)) 3 (.int (mI 0))) 4 (.int (mI (-1)))) 5 (.int (mI 0))) 6 (.ref 48)) 7 (.int (mI 0))) 8 (.ref 49)) 9 (.ref 50)) 10 (.int (mI 0))) 11 (.int (mI 0)))) rfl
    rw [hh] at q
    exact q
  have w36 := wf_36
  have c37 : hget (tb h 20233 clC) 37 = some (.inr (1, am_fu (am_fu (am_fu (am_fu (am_fu (am_fu (am_fu (am_fu (df 1) 0 (.ref 38)) 1 (.ref 40)) 2 (.ref 42)) 3 (.ref 43)) 4 (.int (mI 128))) 5 (.int (mI 128))) 6 (.ref 44)) 7 (.ref 45))) := by
    have q := tb_hget (h := h) (s := 20233) (l := clC) (i := 35) (c := .inr (1, am_fu (am_fu (am_fu (am_fu (am_fu (am_fu (am_fu (am_fu (df 1) 0 (.ref 38)) 1 (.ref 40)) 2 (.ref 42)) 3 (.ref 43)) 4 (.int (mI 128))) 5 (.int (mI 128))) 6 (.ref 44)) 7 (.ref 45))) rfl
    rw [hh] at q
    exact q
  have w37 := wf_37
  have c38 : hget (tb h 20233 clC) 38 = some (.inr (4, am_fu (df 4) 0 (.ref 39))) := by
    have q := tb_hget (h := h) (s := 20233) (l := clC) (i := 36) (c := .inr (4, am_fu (df 4) 0 (.ref 39))) rfl
    rw [hh] at q
    exact q
  have w38 := wf_38
  have c39 : hget (tb h 20233 clC) 39 = some (zI 0 2209) := by
    have q := tb_hget (h := h) (s := 20233) (l := clC) (i := 37) (c := zI 0 2209) rfl
    rw [hh] at q
    exact q
  have c40 : hget (tb h 20233 clC) 40 = some (.inr (4, am_fu (df 4) 0 (.ref 41))) := by
    have q := tb_hget (h := h) (s := 20233) (l := clC) (i := 38) (c := .inr (4, am_fu (df 4) 0 (.ref 41))) rfl
    rw [hh] at q
    exact q
  have w40 := wf_40
  have c41 : hget (tb h 20233 clC) 41 = some (zI 0 2209) := by
    have q := tb_hget (h := h) (s := 20233) (l := clC) (i := 39) (c := zI 0 2209) rfl
    rw [hh] at q
    exact q
  have c42 : hget (tb h 20233 clC) 42 = some (zI 0 8) := by
    have q := tb_hget (h := h) (s := 20233) (l := clC) (i := 40) (c := zI 0 8) rfl
    rw [hh] at q
    exact q
  have c43 : hget (tb h 20233 clC) 43 = some (zI 0 8) := by
    have q := tb_hget (h := h) (s := 20233) (l := clC) (i := 41) (c := zI 0 8) rfl
    rw [hh] at q
    exact q
  have c44 : hget (tb h 20233 clC) 44 = some (zI 0 256) := by
    have q := tb_hget (h := h) (s := 20233) (l := clC) (i := 42) (c := zI 0 256) rfl
    rw [hh] at q
    exact q
  have c45 : hget (tb h 20233 clC) 45 = some (zI 0 16) := by
    have q := tb_hget (h := h) (s := 20233) (l := clC) (i := 43) (c := zI 0 16) rfl
    rw [hh] at q
    exact q
  have c46 : hget (tb h 20233 clC) 46 = some (.inr (5, am_fu (am_fu (am_fu (am_fu (am_fu (am_fu (am_fu (df 5) 0 (.int (mI 0))) 1 (.int (mI 0))) 2 (.int (mI 8))) 3 (.int (mI 0))) 4 (.int (mI 0))) 5 (.int (mI (-1)))) 6 (.int (mI (-1))))) := by
    have q := tb_hget (h := h) (s := 20233) (l := clC) (i := 44) (c := .inr (5, am_fu (am_fu (am_fu (am_fu (am_fu (am_fu (am_fu (df 5) 0 (.int (mI 0))) 1 (.int (mI 0))) 2 (.int (mI 8))) 3 (.int (mI 0))) 4 (.int (mI 0))) 5 (.int (mI (-1)))) 6 (.int (mI (-1))))) rfl
    rw [hh] at q
    exact q
  have w46 := wf_46
  have c47 : hget (tb h 20233 clC) 47 = some (zI 0 256) := by
    have q := tb_hget (h := h) (s := 20233) (l := clC) (i := 45) (c := zI 0 256) rfl
    rw [hh] at q
    exact q
  have c48 : hget (tb h 20233 clC) 48 = some (zI 0 256) := by
    have q := tb_hget (h := h) (s := 20233) (l := clC) (i := 46) (c := zI 0 256) rfl
    rw [hh] at q
    exact q
  have c49 : hget (tb h 20233 clC) 49 = some (zI 0 768) := by
    have q := tb_hget (h := h) (s := 20233) (l := clC) (i := 47) (c := zI 0 768) rfl
    rw [hh] at q
    exact q
  have c50 : hget (tb h 20233 clC) 50 = some (zI 0 3) := by
    have q := tb_hget (h := h) (s := 20233) (l := clC) (i := 48) (c := zI 0 3) rfl
    rw [hh] at q
    exact q
  exact ⟨sh_ofo c2 w2, (fA_of c2).trans rfl, (sh_of c3).trans rfl, (gn_of c3).trans rfl, (fA_of c2).trans rfl, (sh_of c4).trans rfl, (gn_of c4).trans rfl, (fA_of c2).trans rfl, sh_ofo c5 w5, (fA_of c2).trans rfl, (sh_of c6).trans rfl, (gn_of c6).trans rfl, (fA_of c2).trans rfl, (sh_of c16).trans rfl, (gn_of c16).trans rfl, (fA_of c2).trans rfl, ⟨sh_ofo c17 w17, (fA_of c17).trans rfl, ⟨sh_ofo c18 w18, (fA_of c18).trans rfl, ⟨sh_ofo c19 w19, (fA_of c19).trans rfl, (sh_of c20).trans rfl, (gn_of c20).trans rfl⟩, (fA_of c18).trans rfl, ⟨sh_ofo c21 w21, (fA_of c21).trans rfl, (sh_of c22).trans rfl, (gn_of c22).trans rfl⟩, (fA_of c18).trans rfl, (sh_of c23).trans rfl, (gn_of c23).trans rfl, (fA_of c18).trans rfl, (sh_of c24).trans rfl, (gn_of c24).trans rfl, (fA_of c18).trans rfl, (sh_of c25).trans rfl, (gn_of c25).trans rfl, (fA_of c18).trans rfl, (sh_of c26).trans rfl, (gn_of c26).trans rfl⟩, (fA_of c17).trans rfl, sh_ofo c27 w27⟩, (fA_of c2).trans rfl, ⟨sh_ofo c28 w28, (fA_of c28).trans rfl, ⟨sh_ofo c29 w29, (fA_of c29).trans rfl, (sh_of c30).trans rfl, (gn_of c30).trans rfl, (fA_of c29).trans rfl, (sh_of c31).trans rfl, (gn_of c31).trans rfl⟩, (fA_of c28).trans rfl, ⟨sh_ofo c32 w32, (fA_of c32).trans rfl, (sh_of c33).trans rfl, (gn_of c33).trans rfl, (fA_of c32).trans rfl, (sh_of c34).trans rfl, (gn_of c34).trans rfl⟩, (fA_of c28).trans rfl, sh_ofo c35 w35⟩, (fA_of c2).trans rfl, ⟨sh_ofo c36 w36, (fA_of c36).trans rfl, ⟨sh_ofo c37 w37, (fA_of c37).trans rfl, ⟨sh_ofo c38 w38, (fA_of c38).trans rfl, (sh_of c39).trans rfl, (gn_of c39).trans rfl⟩, (fA_of c37).trans rfl, ⟨sh_ofo c40 w40, (fA_of c40).trans rfl, (sh_of c41).trans rfl, (gn_of c41).trans rfl⟩, (fA_of c37).trans rfl, (sh_of c42).trans rfl, (gn_of c42).trans rfl, (fA_of c37).trans rfl, (sh_of c43).trans rfl, (gn_of c43).trans rfl, (fA_of c37).trans rfl, (sh_of c44).trans rfl, (gn_of c44).trans rfl, (fA_of c37).trans rfl, (sh_of c45).trans rfl, (gn_of c45).trans rfl⟩, (fA_of c36).trans rfl, sh_ofo c46 w46, (fA_of c36).trans rfl, (sh_of c47).trans rfl, (gn_of c47).trans rfl, (fA_of c36).trans rfl, (sh_of c48).trans rfl, (gn_of c48).trans rfl, (fA_of c36).trans rfl, (sh_of c49).trans rfl, (gn_of c49).trans rfl, (fA_of c36).trans rfl, (sh_of c50).trans rfl, (gn_of c50).trans rfl⟩⟩
theorem kD (hh : hnx h = 2) : K6 (tb h 20233 clC) 7 := by
  have c7 : hget (tb h 20233 clC) 7 = some (.inr (6, am_fu (am_fu (am_fu (am_fu (am_fu (am_fu (am_fu (am_fu (am_fu (am_fu (am_fu (am_fu (am_fu (am_fu (am_fu (am_fu (df 6) 0 (.int (mI 105))) 1 (.int (mI 0))) 2 (.int (mI 0))) 3 (.int (mI 1))) 4 (.int (mI 0))) 5 (.int (mI 1))) 6 (.int (mI 0))) 7 (.long (mL 0))) 8 (.ref 8)) 9 (.ref 9)) 10 (.ref 10)) 11 (.ref 11)) 12 (.ref 12)) 13 (.ref 13)) 14 (.ref 14)) 15 (.ref 15))) := by
    have q := tb_hget (h := h) (s := 20233) (l := clC) (i := 5) (c := .inr (6, am_fu (am_fu (am_fu (am_fu (am_fu (am_fu (am_fu (am_fu (am_fu (am_fu (am_fu (am_fu (am_fu (am_fu (am_fu (am_fu (df 6) 0 (.int (mI 105))) 1 (.int (mI 0))) 2 (.int (mI 0))) 3 (.int (mI 1))) 4 (.int (mI 0))) 5 (.int (mI 1))) 6 (.int (mI 0))) 7 (.long (mL 0))) 8 (.ref 8)) 9 (.ref 9)) 10 (.ref 10)) 11 (.ref 11)) 12 (.ref 12)) 13 (.ref 13)) 14 (.ref 14)) 15 (.ref 15))) rfl
    rw [hh] at q
    exact q
  have w7 := wf_7
  have c10 : hget (tb h 20233 clC) 10 = some (zI 0 16) := by
    have q := tb_hget (h := h) (s := 20233) (l := clC) (i := 8) (c := zI 0 16) rfl
    rw [hh] at q
    exact q
  have c11 : hget (tb h 20233 clC) 11 = some (zI 0 16) := by
    have q := tb_hget (h := h) (s := 20233) (l := clC) (i := 9) (c := zI 0 16) rfl
    rw [hh] at q
    exact q
  have c12 : hget (tb h 20233 clC) 12 = some (zI 0 16) := by
    have q := tb_hget (h := h) (s := 20233) (l := clC) (i := 10) (c := zI 0 16) rfl
    rw [hh] at q
    exact q
  have c13 : hget (tb h 20233 clC) 13 = some (zI 0 16) := by
    have q := tb_hget (h := h) (s := 20233) (l := clC) (i := 11) (c := zI 0 16) rfl
    rw [hh] at q
    exact q
  have c14 : hget (tb h 20233 clC) 14 = some (zI 0 256) := by
    have q := tb_hget (h := h) (s := 20233) (l := clC) (i := 12) (c := zI 0 256) rfl
    rw [hh] at q
    exact q
  have c15 : hget (tb h 20233 clC) 15 = some (zI 0 256) := by
    have q := tb_hget (h := h) (s := 20233) (l := clC) (i := 13) (c := zI 0 256) rfl
    rw [hh] at q
    exact q
  exact ⟨sh_ofo c7 w7, (fA_of c7).trans rfl, (sh_of c10).trans rfl, (gn_of c10).trans rfl, (fA_of c7).trans rfl, (sh_of c11).trans rfl, (gn_of c11).trans rfl, (fA_of c7).trans rfl, (sh_of c12).trans rfl, (gn_of c12).trans rfl, (fA_of c7).trans rfl, (sh_of c13).trans rfl, (gn_of c13).trans rfl, (fA_of c7).trans rfl, (sh_of c14).trans rfl, (gn_of c14).trans rfl, (fA_of c7).trans rfl, (sh_of c15).trans rfl, (gn_of c15).trans rfl⟩
theorem sC (hh : hnx h = 2) : fZ (tb h 20233 clC) 2 2 = 8 ∧ fZ (tb h 20233 clC) 2 3 = 7 ∧ fZ (tb h 20233 clC) 2 4 = 1 ∧ fZ (tb h 20233 clC) 2 5 = 1 ∧ fZ (tb h 20233 clC) 5 0 = 0 ∧ fZ (tb h 20233 clC) 5 1 = 0 ∧ fZ (tb h 20233 clC) 5 2 = 0 ∧ fZ (tb h 20233 clC) 2 8 = 0 ∧ fZ (tb h 20233 clC) 2 11 = 0 ∧ fZ (tb h 20233 clC) 36 10 = 0 ∧ fZ (tb h 20233 clC) 36 11 = 0 := by
  have c2 : hget (tb h 20233 clC) 2 = some (.inr (9, am_fu (am_fu (am_fu (am_fu (am_fu (am_fu (am_fu (am_fu (am_fu (am_fu (am_fu (am_fu (am_fu (am_fu (am_fu (df 9) 0 (.ref 3)) 1 (.ref 4)) 2 (.int (mI 8))) 3 (.int (mI 7))) 4 (.int (mI 1))) 5 (.int (mI 1))) 6 (.ref 5)) 7 (.ref 6)) 8 (.int (mI 0))) 9 (.ref 7)) 10 (.ref 16)) 11 (.int (mI 0))) 12 (.ref 17)) 13 (.ref 28)) 14 (.ref 36))) := by
    have q := tb_hget (h := h) (s := 20233) (l := clC) (i := 0) (c := .inr (9, am_fu (am_fu (am_fu (am_fu (am_fu (am_fu (am_fu (am_fu (am_fu (am_fu (am_fu (am_fu (am_fu (am_fu (am_fu (df 9) 0 (.ref 3)) 1 (.ref 4)) 2 (.int (mI 8))) 3 (.int (mI 7))) 4 (.int (mI 1))) 5 (.int (mI 1))) 6 (.ref 5)) 7 (.ref 6)) 8 (.int (mI 0))) 9 (.ref 7)) 10 (.ref 16)) 11 (.int (mI 0))) 12 (.ref 17)) 13 (.ref 28)) 14 (.ref 36))) rfl
    rw [hh] at q
    exact q
  have w2 := wf_2
  have c5 : hget (tb h 20233 clC) 5 = some (.inr (0, am_fu (am_fu (am_fu (df 0) 0 (.int (mI 0))) 1 (.int (mI 0))) 2 (.int (mI 0)))) := by
    have q := tb_hget (h := h) (s := 20233) (l := clC) (i := 3) (c := .inr (0, am_fu (am_fu (am_fu (df 0) 0 (.int (mI 0))) 1 (.int (mI 0))) 2 (.int (mI 0)))) rfl
    rw [hh] at q
    exact q
  have w5 := wf_5
  have c36 : hget (tb h 20233 clC) 36 = some (.inr (3, am_fu (am_fu (am_fu (am_fu (am_fu (am_fu (am_fu (am_fu (am_fu (am_fu (am_fu (am_fu (df 3) 0 (.ref 37)) 1 (.ref 46)) 2 (.ref 47)) 3 (.int (mI 0))) 4 (.int (mI (-1)))) 5 (.int (mI 0))) 6 (.ref 48)) 7 (.int (mI 0))) 8 (.ref 49)) 9 (.ref 50)) 10 (.int (mI 0))) 11 (.int (mI 0)))) := by
    have q := tb_hget (h := h) (s := 20233) (l := clC) (i := 34) (c := .inr (3, am_fu (am_fu (am_fu (am_fu (am_fu (am_fu (am_fu (am_fu (am_fu (am_fu (am_fu (am_fu (df 3) 0 (.ref 37)) 1 (.ref 46)) 2 (.ref 47)) 3 (.int (mI 0))) 4 (.int (mI (-1)))) 5 (.int (mI 0))) 6 (.ref 48)) 7 (.int (mI 0))) 8 (.ref 49)) 9 (.ref 50)) 10 (.int (mI 0))) 11 (.int (mI 0)))) rfl
    rw [hh] at q
    exact q
  have w36 := wf_36
  exact ⟨(fZ_of c2).trans (wr_id (z := 8) (by decide) (by decide)), (fZ_of c2).trans (wr_id (z := 7) (by decide) (by decide)), (fZ_of c2).trans (wr_id (z := 1) (by decide) (by decide)), (fZ_of c2).trans (wr_id (z := 1) (by decide) (by decide)), (fZ_of c5).trans (wr_id (z := 0) (by decide) (by decide)), (fZ_of c5).trans (wr_id (z := 0) (by decide) (by decide)), (fZ_of c5).trans (wr_id (z := 0) (by decide) (by decide)), (fZ_of c2).trans (wr_id (z := 0) (by decide) (by decide)), (fZ_of c2).trans (wr_id (z := 0) (by decide) (by decide)), (fZ_of c36).trans (wr_id (z := 0) (by decide) (by decide)), (fZ_of c36).trans (wr_id (z := 0) (by decide) (by decide))⟩
theorem zC (hh : hnx h = 2) : fA (tb h 20233 clC) 2 9 = some 7 ∧ (∀ i, gZ (tb h 20233 clC) 3 i = 0) ∧ (∀ i, gZ (tb h 20233 clC) 15 i = 0) ∧ (∀ i, gZ (tb h 20233 clC) 47 i = 0) := by
  have c2 : hget (tb h 20233 clC) 2 = some (.inr (9, am_fu (am_fu (am_fu (am_fu (am_fu (am_fu (am_fu (am_fu (am_fu (am_fu (am_fu (am_fu (am_fu (am_fu (am_fu (df 9) 0 (.ref 3)) 1 (.ref 4)) 2 (.int (mI 8))) 3 (.int (mI 7))) 4 (.int (mI 1))) 5 (.int (mI 1))) 6 (.ref 5)) 7 (.ref 6)) 8 (.int (mI 0))) 9 (.ref 7)) 10 (.ref 16)) 11 (.int (mI 0))) 12 (.ref 17)) 13 (.ref 28)) 14 (.ref 36))) := by
    have q := tb_hget (h := h) (s := 20233) (l := clC) (i := 0) (c := .inr (9, am_fu (am_fu (am_fu (am_fu (am_fu (am_fu (am_fu (am_fu (am_fu (am_fu (am_fu (am_fu (am_fu (am_fu (am_fu (df 9) 0 (.ref 3)) 1 (.ref 4)) 2 (.int (mI 8))) 3 (.int (mI 7))) 4 (.int (mI 1))) 5 (.int (mI 1))) 6 (.ref 5)) 7 (.ref 6)) 8 (.int (mI 0))) 9 (.ref 7)) 10 (.ref 16)) 11 (.int (mI 0))) 12 (.ref 17)) 13 (.ref 28)) 14 (.ref 36))) rfl
    rw [hh] at q
    exact q
  have w2 := wf_2
  have c3 : hget (tb h 20233 clC) 3 = some (zI 0 256) := by
    have q := tb_hget (h := h) (s := 20233) (l := clC) (i := 1) (c := zI 0 256) rfl
    rw [hh] at q
    exact q
  have c15 : hget (tb h 20233 clC) 15 = some (zI 0 256) := by
    have q := tb_hget (h := h) (s := 20233) (l := clC) (i := 13) (c := zI 0 256) rfl
    rw [hh] at q
    exact q
  have c47 : hget (tb h 20233 clC) 47 = some (zI 0 256) := by
    have q := tb_hget (h := h) (s := 20233) (l := clC) (i := 45) (c := zI 0 256) rfl
    rw [hh] at q
    exact q
  exact ⟨(fA_of c2).trans rfl, gZ_of c3, gZ_of c15, gZ_of c47⟩
/-- what both are at first -/
def s0 : St := (fun j => if j = 0 then 8 else if j = 1 then 7 else if j = 2 then 1 else if j = 3 then 1 else if j = 10 then -1 else 0, (fun _ => 0, (fun _ => 0, (fun _ _ => 0, (fun _ _ _ => 0, (fun _ => 128, (fun _ _ => 128, fun _ => 0)))))))
theorem px0 : pixels (fun _ => 0) := fun _ _ _ => (by decide : (0 : Int) ≤ 0 ∧ (0 : Int) ≤ 255)
theorem px128 : pixels (fun _ => 128) := fun _ _ _ => (by decide : (0 : Int) ≤ 128 ∧ (128 : Int) ≤ 255)
theorem wf0 : WfS s0 0 := by
  refine ⟨⟨?_, ?_, ?_, ?_, ?_, ?_, ?_⟩, ⟨?_, ?_, fun j h0 h1 => ?_⟩, px0, fun i h0 h1 => ?_, ⟨?_, ?_, ?_, ?_, ?_, ?_⟩, px128, fun j _ _ => ⟨px128, Or.inl rfl⟩, fun j _ _ _ => ⟨fun _ _ _ => rfl, rfl⟩, fun _ _ _ _ => rfl⟩
  · exact (by decide : (1 : Int) ≤ 8 ∧ (8 : Int) ≤ 40)
  · exact (by decide : (0 : Int) ≤ 7 ∧ (7 : Int) ≤ 7)
  · exact Or.inl rfl
  · exact Or.inr rfl
  · exact (by decide : (0 : Int) ≤ 0 ∧ (0 : Int) ≤ 99999)
  · exact (by decide : (0 : Int) ≤ 0 ∧ (0 : Int) ≤ 99999)
  · exact (by decide : (0 : Int) ≤ 0 ∧ (0 : Int) ≤ 99999)
  · exact (by decide : (0 : Int) ≤ 0 ∧ (0 : Int) ≤ 12)
  · exact (by decide : (0 : Int) ≤ 0 ∧ (0 : Int) ≤ 3)
  · have h1' : j < 0 := h1
    omega
  · have h1' : i < 0 := h1
    omega
  · exact (by decide : (0 : Int) ≤ 0 ∧ (0 : Int) ≤ 0)
  · exact Or.inl rfl
  · exact Or.inl rfl
  · exact (by decide : (0 : Int) ≤ 0 ∧ (0 : Int) ≤ 3)
  · exact (by decide : (0 : Int) ≤ 0 ∧ (0 : Int) ≤ 0)
  · exact (by decide : (0 : Int) ≤ 0 ∧ (0 : Int) ≤ 0)
/-- a new object, in a heap that holds only what comes from outside -/
theorem new_ok (hh : hnx h = 2) (rw0 : RW h) : ∃ h2, rn m_X11_init 0 [.ref 2] [] (aO 9 h) = some (.inl none, h2) ∧ hnx h2 = 51 ∧ Fr (SDR 36) 49 20233 h h2 ∧ ∀ {S : Nat → Nat → Prop} {cc ss : Nat} {hI : am_H}, Fr S cc ss h2 hI → (∀ a k, a < 51 → ¬ S a k) → 51 < hnx hI → CJ s0 0 hI 7 := by
  have k9 := kC hh
  have k6 := kD hh
  have e1 : rn m_X11_init 0 [.ref 2] [] (aO 9 h) = cl m_X11_init 133 [.ref 2] [] (rn m_X3_startAt 0 [.ref 36, .int (mI 0)] [] (tb h 20233 clC)) := by
    rw [start_tb]
    exact n_X11 (h := h) (s := am_nf 9) (l := []) (A := 2) (by rw [hh]; rfl)
  obtain ⟨h2, e2, m2, ⟨q3, q4, q5, q7, q10, q11⟩, g12, g13, g14, g11⟩ := startAt_ok (A := 36) (x := 0) (K9_k14 k9) (by omega)
  have F1 := tb_fr h 20233 clC
  have nC : hnx (tb h 20233 clC) = 51 := by
    show hnx h + 49 = 51
    rw [hh]
  have n2 : hnx h2 = 51 := m2.1.2.2.2.1.trans nC
  have sc := sC hh
  have zc := zC hh
  have lC : clC.length = 49 := rfl
  generalize tb h 20233 clC = hC at *
  have F0 : Fr (SDR 36) (clC.length + 0) (20233 + 0) h h2 := Fr_tr F1 (md_fr m2) (fun _ _ _ q => q.elim) (fun _ _ _ q => q)
  refine ⟨h2, by rw [e1, e2, cl_n, b_X11_init_133], n2, F0, ?_⟩
  intro S cc ss hI F2 nS al
  have F : Fr (fun a k => SDR 36 a k ∨ S a k) (0 + cc) (0 + ss) hC hI := Fr_tr (md_fr m2) F2 (fun _ _ _ q => Or.inl q) (fun _ _ _ q => Or.inr q)
  have FT : Fr (fun a k => SDR 36 a k ∨ S a k) (clC.length + (0 + cc)) (20233 + (0 + ss)) h hI := Fr_tr F1 F (fun _ _ _ q => q.elim) (fun _ _ _ q => q)
  have nF : ∀ a k, a < 36 → ¬ (SDR 36 a k ∨ S a k) := fun a k ha q => by
    rcases q with q | q
    · unfold SDR at q
      omega
    · exact nS a k (by omega) q
  have f2 : ∀ k, fZ hI 2 k = fZ hC 2 k := fun k => F.1.fZ1 (by omega) (nF _ _ (by omega))
  have f5 : ∀ k, fZ hI 5 k = fZ hC 5 k := fun k => F.1.fZ1 (by omega) (nF _ _ (by omega))
  have f36 : ∀ k, fZ hI 36 k = fZ h2 36 k := fun k => F2.1.fZ1 (by omega) (nS _ _ (by omega))
  have gg : ∀ a i, a < 51 → gZ hI a i = gZ h2 a i := fun a i ha => F2.1.gZ1 i (by omega) (nS _ _ ha)
  have g3 : gZ hI 3 = fun _ => 0 := funext fun i => (F.1.gZ1 i (by omega) (nF _ _ (by omega))).trans (zc.2.1 i)
  have g15 : gZ hI 15 = fun _ => 0 := funext fun i => (F.1.gZ1 i (by omega) (nF _ _ (by omega))).trans (zc.2.2.1 i)
  have g47 : gZ hI 47 = fun _ => 0 := funext fun i => (gg 47 i (by decide)).trans ((congrFun g11 i).trans (zc.2.2.2 i))
  obtain ⟨x1, x2, x3, x4, y1, y2, y3, y4, y5, y6, y7⟩ := sc
  refine ⟨⟨K9_fr F (by omega) k9, ⟨(F.1.fA1 (by omega) (nF _ _ (by omega))).trans zc.1, K6_fr F (by omega) k6, ⟨Or.inr rfl, by omega⟩, by omega⟩, g3, ⟨⟨(f2 2).trans x1, (f2 3).trans x2, (f2 4).trans x3, (f2 5).trans x4⟩, ⟨(f5 0).trans y1, (f5 1).trans y2, (f5 2).trans y3⟩, (f2 8).trans y4, (f2 11).trans y5⟩, fun j h0 h1 => ?_, fun j h0 h1 => ?_, ⟨⟨(f36 3).trans q3, (f36 4).trans q4, (f36 5).trans q5, (f36 7).trans q7, (f36 10).trans (q10.trans y6), (f36 11).trans (q11.trans y7)⟩, fun i i0 i1 => (gg 48 i (by decide)).trans (g12 i i0 i1), fun j i j0 j1 i0 i1 => (gg 49 _ (by decide)).trans (g13 _ (by omega) (by omega)), fun j j0 j1 => (gg 50 j (by decide)).trans (g14 j j0 j1), ?_⟩, ⟨(FT.1.gn1 (by omega)).trans rw0.1, (FT.1.sh1 (by omega)).trans rw0.2.1, fun k k0 k1 => (FT.1.gZ1 _ (by omega) (nF _ _ (by omega))).trans (rw0.2.2 k k0 k1)⟩⟩, wf0, ?_⟩
  · have h1' : j < 0 := h1
    omega
  · have h1' : j < 0 := h1
    omega
  · rw [g47]; exact px0
  · show pixels (gZ hI 15)
    rw [g15]
    exact px0
end BG
