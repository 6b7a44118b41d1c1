/-! ===== a heap with cells made behind its own: a list of them ===== -/
def df (C : Nat) : Nat → Value := fun k => defaultValue (am_ft C k)
abbrev ob (C : Nat) : am_C := .inr (C, df C)
def zI (t n : Nat) : am_C := .inl (t, n, .inl fun _ => 0)
def zJ (n : Nat) : am_C := .inl (3, n, .inr (.inl fun _ => 0))
def zD (n : Nat) : am_C := .inl (4, n, .inr (.inr (.inl fun _ => 0)))
def zA (t n : Nat) : am_C := .inl (t, n, .inr (.inr (.inr fun _ => none)))
def tb (h : am_H) (s : Nat) (l : List am_C) : am_H := (hnx h + l.length, hcl h + l.length, hsl h + s, fun j => if hnx h ≤ j ∧ j < hnx h + l.length then l[j - hnx h]? else hget h j)
section TB
variable {h : am_H} {s A : Nat} {l r : List am_C}
theorem tb_zero (h : am_H) : tb h 0 [] = h := by
  unfold tb
  refine Prod.ext rfl (Prod.ext rfl (Prod.ext rfl (funext fun j => ?_)))
  exact if_neg (by simp only [List.length_nil]; omega)
theorem tb_alc (n : Nat) (c : am_C) : halc (tb h s l) n c = tb h (s + n) (l ++ [c]) := by
  have e : (l ++ [c]).length = l.length + 1 := by rw [List.length_append]; rfl
  unfold halc tb
  refine Prod.ext ?_ (Prod.ext ?_ (Prod.ext ?_ (funext fun j => ?_)))
  · show hnx h + l.length + 1 = hnx h + (l ++ [c]).length
    omega
  · show hcl h + l.length + 1 = hcl h + (l ++ [c]).length
    omega
  · show hsl h + s + n = hsl h + (s + n)
    omega
  · show (if j = hnx h + l.length then some c else if hnx h ≤ j ∧ j < hnx h + l.length then l[j - hnx h]? else hget h j) = if hnx h ≤ j ∧ j < hnx h + (l ++ [c]).length then (l ++ [c])[j - hnx h]? else hget h j
    rw [e]
    by_cases q : j = hnx h + l.length
    · rw [if_pos q, if_pos (by omega), show j - hnx h = l.length by omega, List.getElem?_append_right (Nat.le_refl _), Nat.sub_self]
      rfl
    · rw [if_neg q]
      by_cases q2 : hnx h ≤ j ∧ j < hnx h + l.length
      · rw [if_pos q2, if_pos (by omega), List.getElem?_append_left (by omega)]
      · rw [if_neg q2, if_neg (by omega)]
theorem tb_nxk (hA : A = hnx h + l.length) : hnx (tb h s (l ++ r)) = A + r.length := by
  show hnx h + (l ++ r).length = A + r.length
  rw [List.length_append]
  omega
theorem tb_aO (C : Nat) : aO C (tb h s (l ++ r)) = tb h (s + am_nf C) (l ++ (r ++ [ob C])) := by
  rw [← List.append_assoc]
  exact tb_alc _ _
theorem tb_aI (t n : Nat) : aI t n (tb h s (l ++ r)) = tb h (s + n) (l ++ (r ++ [zI t n])) := by
  rw [← List.append_assoc]
  exact tb_alc _ _
theorem tb_aJ (n : Nat) : aJ n (tb h s (l ++ r)) = tb h (s + n) (l ++ (r ++ [zJ n])) := by
  rw [← List.append_assoc]
  exact tb_alc _ _
theorem tb_aD (n : Nat) : aD n (tb h s (l ++ r)) = tb h (s + n) (l ++ (r ++ [zD n])) := by
  rw [← List.append_assoc]
  exact tb_alc _ _
theorem tb_aA (t n : Nat) : aA t n (tb h s (l ++ r)) = tb h (s + n) (l ++ (r ++ [zA t n])) := by
  rw [← List.append_assoc]
  exact tb_alc _ _
theorem tb_at {c : am_C} (hA : A = hnx h + l.length) : hget (tb h s (l ++ c :: r)) A = some c := by
  show (if hnx h ≤ A ∧ A < hnx h + (l ++ c :: r).length then (l ++ c :: r)[A - hnx h]? else hget h A) = some c
  have e : (l ++ c :: r).length = l.length + (r.length + 1) := by rw [List.length_append]; rfl
  rw [if_pos (by omega), List.getElem?_append_right (by omega), show A - hnx h - l.length = 0 by omega]
  rfl
theorem tb_sh {C : Nat} {fs : Nat → Value} (hA : A = hnx h + l.length) (hw : am_wf C fs = true) : sh (tb h s (l ++ .inr (C, fs) :: r)) A = (5, C) := by
  unfold sh
  rw [tb_at hA]
  exact if_pos hw
theorem tb_fA {C k : Nat} {fs : Nat → Value} (hA : A = hnx h + l.length) : fA (tb h s (l ++ .inr (C, fs) :: r)) A k = vA (fs k) := by
  unfold fA gV
  rw [tb_at hA]
  rfl
theorem tb_uF {C k : Nat} {v : Value} {fs : Nat → Value} (hA : A = hnx h + l.length) (hw : am_wf C fs = true) (hv : am_okV (am_ft C k) v = true) : uF C (tb h s (l ++ .inr (C, fs) :: r)) A k v = tb h s (l ++ .inr (C, am_fu fs k v) :: r) := by
  have g := tb_at (h := h) (s := s) (l := l) (r := r) (c := .inr (C, fs)) hA
  have e1 : gV (tb h s (l ++ .inr (C, fs) :: r)) A = fs := by unfold gV; rw [g]; rfl
  have e2 : gn (tb h s (l ++ .inr (C, fs) :: r)) A = 0 := by unfold gn; rw [g]; rfl
  have e3 := tb_sh (s := s) (r := r) hA hw
  have e4 : c_sh (.inr (C, am_fu fs k v)) = (5, C) := if_pos (am_wf_fu hw hv)
  unfold uF hupd
  rw [e1, e2, e3, if_pos ⟨e4, rfl, by rw [e4]; exact Nat.succ_ne_zero 4⟩]
  have ln : ∀ c : am_C, (l ++ c :: r).length = l.length + (r.length + 1) := fun c => by rw [List.length_append]; rfl
  refine Prod.ext ?_ (Prod.ext ?_ (Prod.ext rfl (funext fun j => ?_)))
  · show hnx h + (l ++ _ :: r).length = hnx h + (l ++ _ :: r).length
    rw [ln, ln]
  · show hcl h + (l ++ _ :: r).length = hcl h + (l ++ _ :: r).length
    rw [ln, ln]
  · show (if j = A then some (.inr (C, am_fu fs k v)) else if hnx h ≤ j ∧ j < hnx h + (l ++ _ :: r).length then (l ++ _ :: r)[j - hnx h]? else hget h j) = if hnx h ≤ j ∧ j < hnx h + (l ++ _ :: r).length then (l ++ _ :: r)[j - hnx h]? else hget h j
    rw [ln, ln]
    by_cases q : j = A
    · rw [if_pos q, if_pos (by omega), List.getElem?_append_right (by omega), show j - hnx h - l.length = 0 by omega]
      rfl
    · rw [if_neg q]
      by_cases q2 : hnx h ≤ j ∧ j < hnx h + (l.length + (r.length + 1))
      · rw [if_pos q2, if_pos q2]
        by_cases q3 : j - hnx h < l.length
        · rw [List.getElem?_append_left q3, List.getElem?_append_left q3]
        · rw [List.getElem?_append_right (by omega), List.getElem?_append_right (by omega)]
          obtain ⟨d, hd⟩ : ∃ d, j - hnx h - l.length = d + 1 := ⟨j - hnx h - l.length - 1, by omega⟩
          rw [hd, List.getElem?_cons_succ, List.getElem?_cons_succ]
      · rw [if_neg q2, if_neg q2]
theorem tb_hget {i : Nat} {c : am_C} (e : l[i]? = some c) : hget (tb h s l) (hnx h + i) = some c := by
  have q : i < l.length := by
    rcases Nat.lt_or_ge i l.length with q | q
    · exact q
    · rw [List.getElem?_eq_none q] at e; cases e
  show (if hnx h ≤ hnx h + i ∧ hnx h + i < hnx h + l.length then l[hnx h + i - hnx h]? else hget h (hnx h + i)) = some c
  rw [if_pos (by omega), show hnx h + i - hnx h = i by omega]
  exact e
theorem tb_old {a : Nat} (ha : a < hnx h) : hget (tb h s l) a = hget h a := by
  show (if hnx h ≤ a ∧ a < hnx h + l.length then l[a - hnx h]? else hget h a) = hget h a
  rw [if_neg (by omega)]
/-- what stood before stands -/
theorem tb_fr (h : am_H) (s : Nat) (l : List am_C) : Fr (fun _ _ => False) l.length s h (tb h s l) := by
  have o : ∀ a, a < hnx h → hget (tb h s l) a = hget h a := fun a ha => tb_old ha
  refine ⟨⟨Nat.le_add_right _ _, Nat.le_refl _, Nat.le_refl _, fun a ha => ⟨⟨?_, ?_⟩, fun _ => ⟨?_, ?_, ?_, ?_⟩, fun k _ => ?_⟩⟩, fun a c k ha _ _ => ?_⟩
  · unfold sh; rw [o a ha]
  · unfold gn; rw [o a ha]
  · unfold gI; rw [o a ha]
  · unfold gJJ; rw [o a ha]
  · unfold gDD; rw [o a ha]
  · unfold gA; rw [o a ha]
  · unfold gV; rw [o a ha]
  · unfold fA gV; rw [o a ha]
end TB
theorem nf_0 : am_nf 0 = 3 := rfl
theorem nf_1 : am_nf 1 = 8 := rfl
theorem nf_2 : am_nf 2 = 2 := rfl
theorem nf_3 : am_nf 3 = 12 := rfl
theorem nf_4 : am_nf 4 = 1 := rfl
theorem nf_5 : am_nf 5 = 7 := rfl
theorem nf_6 : am_nf 6 = 16 := rfl
theorem nf_7 : am_nf 7 = 4 := rfl
theorem nf_8 : am_nf 8 = 5 := rfl
theorem nf_9 : am_nf 9 = 15 := rfl
