
/-! ===== locals ===== -/
theorem am_st_len : ∀ (L : List Value) (i : Nat) (v : Value), (am_st L i v).length = L.length
  | [], _, _ => rfl
  | _ :: _, 0, _ => rfl
  | a :: l, 1, v => by simp [am_st, am_st_len l 0 v]
  | a :: l, n + 2, v => by simp [am_st, am_st_len l (n + 1) v]
theorem am_s2_len : ∀ (L : List Value) (i : Nat) (v : Value), (am_s2 L i v).length = L.length
  | [], _, _ => rfl
  | [_], 0, _ => rfl
  | _ :: _ :: _, 0, _ => rfl
  | a :: l, 1, v => by simp [am_s2, am_s2_len l 0 v]
  | a :: l, n + 2, v => by simp [am_s2, am_s2_len l (n + 1) v]
theorem am_st_get : ∀ (L : List Value) (i : Nat) (v : Value) (j : Nat) (w : Value), (am_st L i v)[j]? = some w → (j = i ∧ w = v) ∨ (j ≠ i ∧ j + 1 = i ∧ ∃ a, L[j]? = some a ∧ w = am_k1 a) ∨ (j ≠ i ∧ j + 1 ≠ i ∧ L[j]? = some w)
  | [], _, _, j, w, h => by simp [am_st] at h
  | _ :: l, 0, v, 0, w, h => by simp [am_st] at h; exact Or.inl ⟨rfl, h.symm⟩
  | _ :: l, 0, v, j + 1, w, h => by simp [am_st] at h; exact Or.inr (Or.inr ⟨by omega, by omega, by simpa using h⟩)
  | a :: l, 1, v, 0, w, h => by simp [am_st] at h; exact Or.inr (Or.inl ⟨by omega, rfl, a, by simp, h.symm⟩)
  | a :: l, 1, v, j + 1, w, h => by
    simp [am_st] at h
    rcases am_st_get l 0 v j w h with ⟨rfl, h2⟩ | ⟨-, h2, -⟩ | ⟨h1, h2, h3⟩
    · exact Or.inl ⟨rfl, h2⟩
    · exact absurd h2 (by omega)
    · exact Or.inr (Or.inr ⟨by omega, by omega, by simpa using h3⟩)
  | a :: l, n + 2, v, 0, w, h => by simp [am_st] at h; exact Or.inr (Or.inr ⟨by omega, by omega, by simpa using h⟩)
  | a :: l, n + 2, v, j + 1, w, h => by
    simp [am_st] at h
    rcases am_st_get l (n + 1) v j w h with ⟨rfl, h2⟩ | ⟨h1, h2, b, h3, h4⟩ | ⟨h1, h2, h3⟩
    · exact Or.inl ⟨rfl, h2⟩
    · exact Or.inr (Or.inl ⟨by omega, by omega, b, by simpa using h3, h4⟩)
    · exact Or.inr (Or.inr ⟨by omega, by omega, by simpa using h3⟩)
theorem am_s2_get : ∀ (L : List Value) (i : Nat) (v : Value) (j : Nat) (w : Value), (am_s2 L i v)[j]? = some w → w = am_J ∨ (j = i ∧ w = v) ∨ (j ≠ i ∧ j ≠ i + 1 ∧ j + 1 = i ∧ ∃ a, L[j]? = some a ∧ w = am_k1 a) ∨ (j ≠ i ∧ j ≠ i + 1 ∧ j + 1 ≠ i ∧ L[j]? = some w)
  | [], _, _, j, w, h => by simp [am_s2] at h
  | [_], 0, v, 0, w, h => by simp [am_s2] at h; exact Or.inl h.symm
  | [_], 0, v, j + 1, w, h => by simp [am_s2] at h
  | _ :: _ :: l, 0, v, 0, w, h => by simp [am_s2] at h; exact Or.inr (Or.inl ⟨rfl, h.symm⟩)
  | _ :: _ :: l, 0, v, 1, w, h => by simp [am_s2] at h; exact Or.inl h.symm
  | _ :: _ :: l, 0, v, j + 2, w, h => by simp [am_s2] at h; exact Or.inr (Or.inr (Or.inr ⟨by omega, by omega, by omega, by simpa using h⟩))
  | a :: l, 1, v, 0, w, h => by simp [am_s2] at h; exact Or.inr (Or.inr (Or.inl ⟨by omega, by omega, rfl, a, by simp, h.symm⟩))
  | a :: l, 1, v, j + 1, w, h => by
    simp [am_s2] at h
    rcases am_s2_get l 0 v j w h with h2 | ⟨rfl, h2⟩ | ⟨-, -, h2, -⟩ | ⟨h1, h1', h2, h3⟩
    · exact Or.inl h2
    · exact Or.inr (Or.inl ⟨rfl, h2⟩)
    · exact absurd h2 (by omega)
    · exact Or.inr (Or.inr (Or.inr ⟨by omega, by omega, by omega, by simpa using h3⟩))
  | a :: l, n + 2, v, 0, w, h => by simp [am_s2] at h; exact Or.inr (Or.inr (Or.inr ⟨by omega, by omega, by omega, by simpa using h⟩))
  | a :: l, n + 2, v, j + 1, w, h => by
    simp [am_s2] at h
    rcases am_s2_get l (n + 1) v j w h with h2 | ⟨rfl, h2⟩ | ⟨h1, h1', h2, b, h3, h4⟩ | ⟨h1, h1', h2, h3⟩
    · exact Or.inl h2
    · exact Or.inr (Or.inl ⟨rfl, h2⟩)
    · exact Or.inr (Or.inr (Or.inl ⟨by omega, by omega, by omega, b, by simpa using h3, h4⟩))
    · exact Or.inr (Or.inr (Or.inr ⟨by omega, by omega, by omega, by simpa using h3⟩))
def am_lr (ad : Nat → Nat) (L : List Value) (l : List (Nat × Value)) : Prop := ∀ i v, L[i]? = some v → v ≠ am_J → (i, am_cv ad v) ∈ l
theorem am_cv_cat (ad : Nat → Nat) (v : Value) : (am_cv ad v).category = v.category := by cases v <;> rfl
theorem am_k1_or (a : Value) : am_k1 a = am_J ∨ (am_k1 a = a ∧ ¬ a.category = 2) := by
  cases a <;> simp [am_k1, Value.category]
theorem am_lr.st {ad : Nat → Nat} {L : List Value} {l : List (Nat × Value)} (h : am_lr ad L l) (i : Nat) (v : Value) : am_lr ad (am_st L i v) ((i, am_cv ad v) :: l.filter (fun q => !(q.1 == i) && !(q.1 + 1 == i && q.2.category == 2))) := by
  intro j w hj hw
  rcases am_st_get L i v j w hj with ⟨rfl, rfl⟩ | ⟨h1, h2, a, h3, h4⟩ | ⟨h1, h2, h3⟩
  · exact List.mem_cons_self
  · rcases am_k1_or a with q | ⟨q1, q2⟩
    · exact absurd (h4.trans q) hw
    · refine List.mem_cons_of_mem _ (List.mem_filter.mpr ⟨?_, ?_⟩)
      · rw [h4, q1]; exact h j a h3 (fun z => hw (h4.trans (q1.trans z)))
      · have : w = a := h4.trans q1
        subst this
        simp [h1, am_cv_cat, q2]
  · refine List.mem_cons_of_mem _ (List.mem_filter.mpr ⟨h j w h3 hw, ?_⟩)
    simp [h1, h2]
theorem am_lr.s2 {ad : Nat → Nat} {L : List Value} {l : List (Nat × Value)} (h : am_lr ad L l) (i : Nat) (v : Value) : am_lr ad (am_s2 L i v) ((i, am_cv ad v) :: l.filter (fun q => !(q.1 == i) && (!(q.1 == i + 1) && !(q.1 + 1 == i && q.2.category == 2)))) := by
  intro j w hj hw
  rcases am_s2_get L i v j w hj with h1 | ⟨rfl, rfl⟩ | ⟨h1, h1', h2, a, h3, h4⟩ | ⟨h1, h1', h2, h3⟩
  · exact absurd h1 hw
  · exact List.mem_cons_self
  · rcases am_k1_or a with q | ⟨q1, q2⟩
    · exact absurd (h4.trans q) hw
    · refine List.mem_cons_of_mem _ (List.mem_filter.mpr ⟨?_, ?_⟩)
      · rw [h4, q1]; exact h j a h3 (fun z => hw (h4.trans (q1.trans z)))
      · have : w = a := h4.trans q1
        subst this
        simp [h1, h1', am_cv_cat, q2]
  · refine List.mem_cons_of_mem _ (List.mem_filter.mpr ⟨h j w h3 hw, ?_⟩)
    simp [h1, h1', h2]
theorem am_lr.ag {ad ad' : Nat → Nat} {L : List Value} {l : List (Nat × Value)} {n : Nat} (h : am_lr ad L l) (hag : ∀ k, k < n → ad' k = ad k) (hL : ∀ v ∈ L, am_vo n v) : am_lr ad' L l := by
  intro i v hi hv
  rw [am_cv_ag hag (hL v (List.mem_of_getElem? hi))]
  exact h i v hi hv
theorem am_vo_k1 {n : Nat} {a : Value} (h : am_vo n a) : am_vo n (am_k1 a) := by cases a <;> first | exact h | trivial
theorem am_vo_st {n : Nat} {L : List Value} (h : ∀ v ∈ L, am_vo n v) (i : Nat) {v : Value} (hv : am_vo n v) : ∀ w ∈ am_st L i v, am_vo n w := by
  intro w hw
  obtain ⟨j, hj⟩ := List.getElem?_of_mem hw
  rcases am_st_get L i v j w hj with ⟨-, rfl⟩ | ⟨-, -, a, h3, rfl⟩ | ⟨-, -, h3⟩
  · exact hv
  · exact am_vo_k1 (h a (List.mem_of_getElem? h3))
  · exact h w (List.mem_of_getElem? h3)
theorem am_vo_s2 {n : Nat} {L : List Value} (h : ∀ v ∈ L, am_vo n v) (i : Nat) {v : Value} (hv : am_vo n v) : ∀ w ∈ am_s2 L i v, am_vo n w := by
  intro w hw
  obtain ⟨j, hj⟩ := List.getElem?_of_mem hw
  rcases am_s2_get L i v j w hj with rfl | ⟨-, rfl⟩ | ⟨-, -, -, a, h3, rfl⟩ | ⟨-, -, -, h3⟩
  · trivial
  · exact hv
  · exact am_vo_k1 (h a (List.mem_of_getElem? h3))
  · exact h w (List.mem_of_getElem? h3)
/-- a callee's locals -/
theorem am_en_lr (ad : Nat → Nat) : ∀ (bs : List Bool) (vs : List Value) (n i : Nat), am_gd bs vs = true → ∀ (j : Nat) (w : Value), (am_en bs vs n)[j]? = some w → w ≠ am_J → (i + j, am_cv ad w) ∈ lv_args i (vs.map (am_cv ad))
  | [], [], n, i, _, j, w, hj, hw => by
    simp only [am_en, List.getElem?_replicate] at hj
    split at hj
    · cases hj; exact absurd rfl hw
    · cases hj
  | [], _ :: _, _, _, hg, _, _, _, _ => by simp [am_gd] at hg
  | _ :: _, [], _, _, hg, _, _, _, _ => by simp [am_gd] at hg
  | true :: bs, v :: vs, n, i, hg, j, w, hj, hw => by
    simp only [am_gd, Bool.and_eq_true] at hg
    obtain ⟨h1, h2, h3⟩ := hg
    have hc : v.category = 2 := by simpa using h1
    simp only [am_en] at hj
    simp only [List.map_cons, lv_args]
    rw [if_pos (by rw [am_cv_cat]; exact hc)]
    match j, hj with
    | 0, hj => simp at hj; subst hj; exact List.mem_cons_self
    | 1, hj => simp at hj; exact absurd hj.symm hw
    | j + 2, hj =>
      refine List.mem_cons_of_mem _ ?_
      have := am_en_lr ad bs vs (n - 2) (i + 2) h3 j w (by simpa using hj) hw
      rwa [show i + 2 + j = i + (j + 2) by omega] at this
  | false :: bs, v :: vs, n, i, hg, j, w, hj, hw => by
    simp only [am_gd, Bool.and_eq_true] at hg
    obtain ⟨h1, h2, h3⟩ := hg
    have hc : ¬ v.category = 2 := by simpa using h1
    simp only [am_en] at hj
    simp only [List.map_cons, lv_args]
    rw [if_neg (by rw [am_cv_cat]; exact hc)]
    match j, hj with
    | 0, hj => simp at hj; subst hj; exact List.mem_cons_self
    | j + 1, hj =>
      refine List.mem_cons_of_mem _ ?_
      have := am_en_lr ad bs vs (n - 1) (i + 1) h3 j w (by simpa using hj) hw
      rwa [show i + 1 + j = i + (j + 1) by omega] at this
/-- the room that a callee's arguments take -/
def am_sz : List Bool → Nat
  | [] => 0
  | true :: bs => am_sz bs + 2
  | false :: bs => am_sz bs + 1
theorem am_en_len : ∀ (bs : List Bool) (vs : List Value) (n : Nat), am_gd bs vs = true → am_sz bs ≤ n → (am_en bs vs n).length = n
  | [], [], n, _, _ => by simp [am_en]
  | [], _ :: _, _, hg, _ => by simp [am_gd] at hg
  | _ :: _, [], _, hg, _ => by simp [am_gd] at hg
  | true :: bs, v :: vs, n, hg, hn => by
    simp only [am_gd, Bool.and_eq_true] at hg
    simp only [am_sz] at hn
    simp only [am_en, List.length_cons, am_en_len bs vs (n - 2) hg.2.2 (by omega)]
    omega
  | false :: bs, v :: vs, n, hg, hn => by
    simp only [am_gd, Bool.and_eq_true] at hg
    simp only [am_sz] at hn
    simp only [am_en, List.length_cons, am_en_len bs vs (n - 1) hg.2.2 (by omega)]
    omega
theorem am_sl_len (ad : Nat → Nat) : ∀ (bs : List Bool) (vs : List Value), am_gd bs vs = true → (lg_sl (vs.map (am_cv ad))).length = am_sz bs
  | [], [], _ => rfl
  | [], _ :: _, hg => by simp [am_gd] at hg
  | _ :: _, [], hg => by simp [am_gd] at hg
  | b :: bs, v :: vs, hg => by
    simp only [am_gd, Bool.and_eq_true] at hg
    have ih := am_sl_len ad bs vs hg.2.2
    simp only [lg_sl, List.map_cons, List.flatMap_cons, List.length_append] at ih ⊢
    rw [am_cv_cat, ih]
    cases b with
    | true => rw [if_pos (by simpa using hg.1)]; simp [am_sz]; omega
    | false => rw [if_neg (by simpa using hg.1)]; simp [am_sz]; omega
theorem am_en_vo {n : Nat} : ∀ (bs : List Bool) (vs : List Value) (q : Nat), (∀ v ∈ vs, am_vo n v) → ∀ w ∈ am_en bs vs q, am_vo n w
  | [], _, q, _, w, hw => by
    have : w = am_J := by cases ‹List Value› <;> simpa [am_en] using (List.mem_replicate.mp (by simpa [am_en] using hw)).2
    subst this; trivial
  | true :: bs, [], q, _, w, hw => by
    have : w = am_J := (List.mem_replicate.mp (by simpa [am_en] using hw)).2
    subst this; trivial
  | false :: bs, [], q, _, w, hw => by
    have : w = am_J := (List.mem_replicate.mp (by simpa [am_en] using hw)).2
    subst this; trivial
  | true :: bs, v :: vs, q, h, w, hw => by
    simp only [am_en, List.mem_cons] at hw
    rcases hw with rfl | rfl | hw
    · exact h _ List.mem_cons_self
    · trivial
    · exact am_en_vo bs vs (q - 2) (fun v hv => h v (List.mem_cons_of_mem _ hv)) w hw
  | false :: bs, v :: vs, q, h, w, hw => by
    simp only [am_en, List.mem_cons] at hw
    rcases hw with rfl | hw
    · exact h _ List.mem_cons_self
    · exact am_en_vo bs vs (q - 1) (fun v hv => h v (List.mem_cons_of_mem _ hv)) w hw
