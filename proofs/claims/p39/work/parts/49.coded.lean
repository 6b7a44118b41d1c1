/-! ===== what a coded picture is ===== -/
def Gq (pd : Nat → Int → Int) (f1 f2 : Int → Int) (sl : Int) (p : Int → Int) (s x y : Int) : Int := gss p f1 f2 (X0 (pd 0) s) (Y0 (pd 0) s) (SZ (pd 0) s) (tp sl (Y0 (pd 0) s)) (pd 1 s) (pd 2 s) (pd 3 s) x y
def Bu (pd : Nat → Int → Int) (f1 f2 : Int → Int) (sl q : Int) (p : Int → Int) (s : Int) : Prop := ∀ k, 0 ≤ k → k < 16 → p (pl s k) = clampv (Gq pd f1 f2 sl p s (cx s + k % 4) (cy s + k / 4) + dif q (fun j => pd 4 (pl s j)) k)
def E1 (c : Int → Int) (tl q : Int) (pd : Nat → Int → Int) (s : Int) : Prop := pd 0 s = if splitB c tl q (8 * (s / 4 % 2)) (8 * (s / 8 % 2)) then 4 else 8
def E2 (c f1 f2 : Int → Int) (kd tl sl : Int) (pd : Nat → Int → Int) (p : Int → Int) (s : Int) : Prop := pd 1 s = cmo kd tl c p f1 f2 (X0 (pd 0) s) (Y0 (pd 0) s) (SZ (pd 0) s) (tp sl (Y0 (pd 0) s)) ∧ pd 2 s = used1 (pd 1 s) (cv1 kd tl c f1 (X0 (pd 0) s) (Y0 (pd 0) s) (SZ (pd 0) s)) ∧ pd 3 s = used2 (pd 1 s) (cv2 kd tl c f2 (X0 (pd 0) s) (Y0 (pd 0) s) (SZ (pd 0) s))
def E4 (c f1 f2 : Int → Int) (sl q : Int) (pd : Nat → Int → Int) (p : Int → Int) (s : Int) : Prop := ∀ k, 0 ≤ k → k < 16 → pd 4 (pl s k) = lev q (hd (fun j => c (pl s j) - Gq pd f1 f2 sl p s (cx s + j % 4) (cy s + j / 4)) k)
def Cod (c f1 f2 : Int → Int) (kd tl sl q : Int) (pd : Nat → Int → Int) (p : Int → Int) (s : Int) : Prop := E1 c tl q pd s ∧ E2 c f1 f2 kd tl sl pd p s ∧ E4 c f1 f2 sl q pd p s ∧ Bu pd f1 f2 sl q p s
/-- both are the same at the squares below i -/
def agr (i : Int) (pd pd' : Nat → Int → Int) (p p' : Int → Int) : Prop := ∀ t, 0 ≤ t → t < i → (pd 0 t = pd' 0 t ∧ pd 1 t = pd' 1 t ∧ pd 2 t = pd' 2 t ∧ pd 3 t = pd' 3 t) ∧ ∀ k, 0 ≤ k → k < 16 → pd 4 (pl t k) = pd' 4 (pl t k) ∧ p (pl t k) = p' (pl t k)
def agp (i : Int) (p p' : Int → Int) : Prop := ∀ x y, 0 ≤ x → x < 16 → 0 ≤ y → y < 16 → sq x y < i → p (16 * y + x) = p' (16 * y + x)
theorem pl_xy {x y : Int} (hx : 0 ≤ x ∧ x < 16) (hy : 0 ≤ y ∧ y < 16) : pl (sq x y) (4 * (y % 4) + x % 4) = 16 * y + x ∧ 0 ≤ sq x y ∧ sq x y < 16 := by
  have e : sq x y = 4 * (2 * (y / 4 / 2) + x / 4 / 2) + (2 * (y / 4 % 2) + x / 4 % 2) := by unfold sq; omega
  have hx4 : x / 4 = 0 ∨ x / 4 = 1 ∨ x / 4 = 2 ∨ x / 4 = 3 := by omega
  have hy4 : y / 4 = 0 ∨ y / 4 = 1 ∨ y / 4 = 2 ∨ y / 4 = 3 := by omega
  rcases hx4 with q | q | q | q <;> rcases hy4 with r | r | r | r <;> (rw [q, r] at e; rw [e]; unfold pl cx cy ip; omega)
theorem pl_xy2 {s k : Int} (hs : 0 ≤ s ∧ s < 16) (hk : 0 ≤ k ∧ k < 16) : pl s k = 16 * (cy s + k / 4) + (cx s + k % 4) ∧ sq (cx s + k % 4) (cy s + k / 4) = s ∧ (0 ≤ cx s + k % 4 ∧ cx s + k % 4 < 16) ∧ 0 ≤ cy s + k / 4 ∧ cy s + k / 4 < 16 := by unfold pl sq cx cy ip; omega
theorem pl_inj {s t k j : Int} (hs : 0 ≤ s ∧ s < 16) (ht : 0 ≤ t ∧ t < 16) (hk : 0 ≤ k ∧ k < 16) (hj : 0 ≤ j ∧ j < 16) (e : pl s k = pl t j) : s = t ∧ k = j := by
  obtain ⟨a1, a2, a3, a4⟩ := pl_xy2 hs hk
  obtain ⟨b1, b2, b3, b4⟩ := pl_xy2 ht hj
  rw [a1, b1] at e
  have e1 : cy s + k / 4 = cy t + j / 4 := by omega
  have e2 : cx s + k % 4 = cx t + j % 4 := by omega
  have e3 : s = t := by rw [← a2, ← b2, e1, e2]
  subst e3
  exact ⟨rfl, by omega⟩
theorem agr_p {i : Int} {pd pd' : Nat → Int → Int} {p p' : Int → Int} (h : agr i pd pd' p p') : agp i p p' := by
  intro x y x0 x1 y0 y1 q
  obtain ⟨e, q0, q1⟩ := pl_xy ⟨x0, x1⟩ ⟨y0, y1⟩
  rw [← e]
  exact ((h (sq x y) q0 q).2 (4 * (y % 4) + x % 4) (by omega) (by omega)).2
theorem agp_le {i j : Int} {p p' : Int → Int} (h : agp i p p') (le : j ≤ i) : agp j p p' := fun x y x0 x1 y0 y1 q => h x y x0 x1 y0 y1 (by omega)
theorem agr_le {i j : Int} {pd pd' : Nat → Int → Int} {p p' : Int → Int} (h : agr i pd pd' p p') (le : j ≤ i) : agr j pd pd' p p' := fun t t0 t1 => h t t0 (by omega)
theorem agr_sy {i : Int} {pd pd' : Nat → Int → Int} {p p' : Int → Int} (h : agr i pd pd' p p') : agr i pd' pd p' p := fun t t0 t1 => ⟨⟨(h t t0 t1).1.1.symm, (h t t0 t1).1.2.1.symm, (h t t0 t1).1.2.2.1.symm, (h t t0 t1).1.2.2.2.symm⟩, fun k k0 k1 => ⟨((h t t0 t1).2 k k0 k1).1.symm, ((h t t0 t1).2 k k0 k1).2.symm⟩⟩
/-- a part that lies as parts lie -/
def lies (X Y Z T : Int) : Prop := (Z = 4 ∧ (X = 0 ∨ X = 4 ∨ X = 8 ∨ X = 12) ∧ (Y = 0 ∨ Y = 4 ∨ Y = 8 ∨ Y = 12) ∨ Z = 8 ∧ (X = 0 ∨ X = 8) ∧ (Y = 0 ∨ Y = 8)) ∧ 0 ≤ T
theorem bord_loc {p p' : Int → Int} {X Y Z T x y : Int} (li : lies X Y Z T) (ag : agp (sq X Y) p p') (hxy : (y = Y - 1 ∧ X - 1 ≤ x ∧ x < X + Z) ∨ (x = X - 1 ∧ Y - 1 ≤ y ∧ y < Y + Z)) : bord p T x y = bord p' T x y := by
  unfold bord
  split
  · rfl
  · rename_i c
    obtain ⟨l1, l2⟩ := li
    have : sq x y < sq X Y ∧ x < 16 ∧ y < 16 := by
      unfold sq
      rcases l1 with ⟨rfl, hX, hY⟩ | ⟨rfl, hX, hY⟩
      · rcases hX with rfl | rfl | rfl | rfl <;> rcases hY with rfl | rfl | rfl | rfl <;> omega
      · rcases hX with rfl | rfl <;> rcases hY with rfl | rfl <;> omega
    exact ag x y (by omega) (by omega) (by omega) (by omega) this.1
theorem gsB_loc {p p' : Int → Int} {X Y Z T m x y : Int} (li : lies X Y Z T) (ag : agp (sq X Y) p p') (hx : X ≤ x ∧ x < X + Z) (hy : Y ≤ y ∧ y < Y + Z) : gsB p X Y Z T m x y = gsB p' X Y Z T m x y := by
  have hz : Z = 4 ∨ Z = 8 := by rcases li.1 with q | q <;> omega
  unfold gsB
  rw [bord_loc (x := x) (y := Y - 1) li ag (by omega), bord_loc (x := X - 1) (y := y) li ag (by omega), bord_loc (x := X - 1) (y := Y - 1) li ag (by omega)]
  have e : meanv p X Y Z T = meanv p' X Y Z T := by
    unfold meanv
    rw [sm_congr (g := fun i => bord p' T (X + i) (Y - 1) + bord p' T (X - 1) (Y + i)) fun i i0 i1 => by
      rw [bord_loc (x := X + i) (y := Y - 1) li ag (by omega), bord_loc (x := X - 1) (y := Y + i) li ag (by omega)]]
  rw [e]
theorem gss_loc {p p' f1 f2 : Int → Int} {X Y Z T m v1 v2 x y : Int} (li : lies X Y Z T) (ag : agp (sq X Y) p p') (hx : X ≤ x ∧ x < X + Z) (hy : Y ≤ y ∧ y < Y + Z) : gss p f1 f2 X Y Z T m v1 v2 x y = gss p' f1 f2 X Y Z T m v1 v2 x y := by
  unfold gss
  rw [gsB_loc li ag hx hy]
theorem mnv_congr {C C' V : Int → Int} {d : Int} : ∀ n : Nat, (∀ k : Int, 0 ≤ k → k < n → C k = C' k) → mnv C V d n = mnv C' V d n
  | 0, _ => rfl
  | n + 1, h => by
    simp only [mnv]
    rw [mnv_congr n fun k k0 k1 => h k k0 (by omega), h n (by omega) (by omega)]
theorem dsum_congr {c : Int → Int} {g g' : Int → Int → Int} {X Y Z : Int} (hz : Z = 4 ∨ Z = 8) (h : ∀ x y, X ≤ x → x < X + Z → Y ≤ y → y < Y + Z → g x y = g' x y) : dsum c g X Y Z (Z * Z).toNat = dsum c g' X Y Z (Z * Z).toNat := by
  unfold dsum
  refine sm_congr fun k k0 k1 => ?_
  have q : 0 ≤ k % Z ∧ k % Z < Z ∧ 0 ≤ k / Z ∧ k / Z < Z := by rcases hz with rfl | rfl <;> omega
  simp only [h (X + k % Z) (Y + k / Z) (by omega) (by omega) (by omega) (by omega)]
theorem cmo_loc {c p p' f1 f2 : Int → Int} {kd tl X Y Z T : Int} (li : lies X Y Z T) (ag : agp (sq X Y) p p') : cmo kd tl c p f1 f2 X Y Z T = cmo kd tl c p' f1 f2 X Y Z T := by
  have hz : Z = 4 ∨ Z = 8 := by rcases li.1 with q | q <;> omega
  unfold cmo bestm
  rw [mnv_congr (C' := fun k => cost c p' f1 f2 X Y Z T k (cv1 kd tl c f1 X Y Z) (cv2 kd tl c f2 X Y Z)) _ fun k k0 k1 => by
    unfold cost
    rw [dsum_congr hz fun x y x0 x1 y0 y1 => gss_loc li ag ⟨x0, x1⟩ ⟨y0, y1⟩]]
theorem tp_b (sl y : Int) : 0 ≤ tp sl y ∧ tp sl y ≤ 8 := by unfold tp; split <;> omega
theorem lies_s {z : Int → Int} {s sl : Int} : lies (X0 z s) (Y0 z s) (SZ z s) (tp sl (Y0 z s)) := by
  refine ⟨?_, (tp_b _ _).1⟩
  unfold X0 Y0 SZ
  have := cx_b s
  have := cy_b s
  split
  · left; omega
  · right; omega
theorem lies_part {X Y Z T : Int} (li : lies X Y Z T) (hT : T ≤ 8) : isPart X Y Z T ∧ X % 4 = 0 ∧ Y % 4 = 0 := by
  obtain ⟨l1, l2⟩ := li
  unfold isPart
  omega
theorem start_le {z : Int → Int} {s : Int} (hs : 0 ≤ s ∧ s < 16) : sq (X0 z s) (Y0 z s) ≤ s := by
  unfold X0 Y0
  split
  · rw [sq_s hs]; omega
  · unfold sq; omega
theorem in_part {z : Int → Int} {s k : Int} (hs : 0 ≤ s ∧ s < 16) (hk : 0 ≤ k ∧ k < 16) : (X0 z s ≤ cx s + k % 4 ∧ cx s + k % 4 < X0 z s + SZ z s) ∧ Y0 z s ≤ cy s + k / 4 ∧ cy s + k / 4 < Y0 z s + SZ z s := by
  unfold X0 Y0 SZ
  split
  · omega
  · unfold cx cy; omega
theorem Gq_agr {i s k sl : Int} {pd pd' : Nat → Int → Int} {p p' f1 f2 : Int → Int} (e : pd 0 s = pd' 0 s ∧ pd 1 s = pd' 1 s ∧ pd 2 s = pd' 2 s ∧ pd 3 s = pd' 3 s) (ag : agp s p p') (hs : 0 ≤ s ∧ s < 16) (hk : 0 ≤ k ∧ k < 16) : Gq pd f1 f2 sl p s (cx s + k % 4) (cy s + k / 4) = Gq pd' f1 f2 sl p' s (cx s + k % 4) (cy s + k / 4) := by
  have ip := in_part (z := pd 0) hs hk
  have e1 : X0 (pd' 0) s = X0 (pd 0) s ∧ Y0 (pd' 0) s = Y0 (pd 0) s ∧ SZ (pd' 0) s = SZ (pd 0) s := by unfold X0 Y0 SZ; rw [e.1]; exact ⟨rfl, rfl, rfl⟩
  unfold Gq
  rw [e1.1, e1.2.1, e1.2.2, ← e.2.1, ← e.2.2.1, ← e.2.2.2]
  exact gss_loc lies_s (agp_le ag (start_le hs)) ip.1 ip.2
theorem dif_congr {q : Int} {l l' : Int → Int} (h : ∀ j, 0 ≤ j → j < 16 → l j = l' j) (k : Int) : dif q l k = dif q l' k := by
  have := hd_congr (s := fun j => 4 * q * l j) (t := fun j => 4 * q * l' j) (fun j j0 j1 => by simp only [h j j0 j1]) k
  unfold dif
  rw [this]
theorem Bu_agr {i s sl q : Int} {pd pd' : Nat → Int → Int} {p p' f1 f2 : Int → Int} (ag : agr i pd pd' p p') (hs : 0 ≤ s ∧ s < 16) (hi : s < i) (b : Bu pd f1 f2 sl q p s) : Bu pd' f1 f2 sl q p' s := by
  intro k k0 k1
  have a := ag s hs.1 hi
  rw [← (a.2 k k0 k1).2, b k k0 k1, Gq_agr (i := i) a.1 (agp_le (agr_p ag) (by omega)) hs ⟨k0, k1⟩]
  rw [dif_congr fun j j0 j1 => (a.2 j j0 j1).1]
theorem Cod_agr {i s kd tl sl q : Int} {c f1 f2 : Int → Int} {pd pd' : Nat → Int → Int} {p p' : Int → Int} (ag : agr i pd pd' p p') (hs : 0 ≤ s ∧ s < 16) (hi : s < i) (b : Cod c f1 f2 kd tl sl q pd p s) : Cod c f1 f2 kd tl sl q pd' p' s := by
  have a := ag s hs.1 hi
  obtain ⟨b1, b2, b4, b5⟩ := b
  have e1 : X0 (pd' 0) s = X0 (pd 0) s ∧ Y0 (pd' 0) s = Y0 (pd 0) s ∧ SZ (pd' 0) s = SZ (pd 0) s := by unfold X0 Y0 SZ; rw [a.1.1]; exact ⟨rfl, rfl, rfl⟩
  refine ⟨?_, ?_, ?_, Bu_agr ag hs hi b5⟩
  · unfold E1 at *
    rw [← a.1.1]
    exact b1
  · unfold E2 at *
    rw [e1.1, e1.2.1, e1.2.2, ← a.1.2.1, ← a.1.2.2.1, ← a.1.2.2.2, ← cmo_loc lies_s (agp_le (agr_p ag) (by have := start_le (z := pd 0) hs; omega))]
    exact b2
  · intro k k0 k1
    rw [← (a.2 k k0 k1).1, b4 k k0 k1]
    rw [hd_congr fun j j0 j1 => by rw [Gq_agr (i := i) a.1 (agp_le (agr_p ag) (by omega)) hs ⟨j0, j1⟩]]
theorem Cod_one {kd tl sl q : Int} {c f1 f2 : Int → Int} {pd pd' : Nat → Int → Int} {p p' : Int → Int} (h : ∀ s, 0 ≤ s → s < 16 → Cod c f1 f2 kd tl sl q pd p s) (h' : ∀ s, 0 ≤ s → s < 16 → Cod c f1 f2 kd tl sl q pd' p' s) : ∀ i : Nat, i ≤ 16 → agr i pd pd' p p'
  | 0, _ => fun t t0 t1 => by omega
  | i + 1, hi => by
    have ih := Cod_one h h' i (by omega)
    have ihp := agr_p ih
    intro t t0 t1
    by_cases qt : t < i
    · exact ih t t0 qt
    · have e : t = i := by omega
      subst e
      have hs : 0 ≤ (i : Int) ∧ (i : Int) < 16 := by omega
      obtain ⟨a1, a2, a4, a5⟩ := h i t0 (by omega)
      obtain ⟨b1, b2, b4, b5⟩ := h' i t0 (by omega)
      have z0 : pd 0 i = pd' 0 i := by
        unfold E1 at a1 b1
        rw [a1, b1]
      have e1 : X0 (pd' 0) i = X0 (pd 0) i ∧ Y0 (pd' 0) i = Y0 (pd 0) i ∧ SZ (pd' 0) i = SZ (pd 0) i := by unfold X0 Y0 SZ; rw [z0]; exact ⟨rfl, rfl, rfl⟩
      unfold E2 at a2 b2
      rw [e1.1, e1.2.1, e1.2.2, ← cmo_loc (p := p) lies_s (agp_le ihp (start_le hs))] at b2
      have m0 : pd 1 i = pd' 1 i := by rw [a2.1, b2.1]
      have v10 : pd 2 i = pd' 2 i := by rw [a2.2.1, b2.2.1, m0]
      have v20 : pd 3 i = pd' 3 i := by rw [a2.2.2, b2.2.2, m0]
      have g := fun (k : Int) (k0 : 0 ≤ k ∧ k < 16) => Gq_agr (i := i) (f1 := f1) (f2 := f2) (sl := sl) ⟨z0, m0, v10, v20⟩ ihp hs k0
      have l0 : ∀ k, 0 ≤ k → k < 16 → pd 4 (pl i k) = pd' 4 (pl i k) := by
        intro k k0 k1
        rw [a4 k k0 k1, b4 k k0 k1]
        rw [hd_congr fun j j0 j1 => by rw [g j ⟨j0, j1⟩]]
      refine ⟨⟨z0, m0, v10, v20⟩, fun k k0 k1 => ⟨l0 k k0 k1, ?_⟩⟩
      rw [a5 k k0 k1, b5 k k0 k1, g k ⟨k0, k1⟩]
      rw [dif_congr l0]
theorem gss_used {p f1 f2 : Int → Int} {X Y Z T m v1 v2 x y : Int} (hm : m ≤ 6) : gss p f1 f2 X Y Z T m (used1 m v1) (used2 m v2) x y = gss p f1 f2 X Y Z T m v1 v2 x y := by
  unfold gss gsK used1 used2
  by_cases c : m < 4
  · rw [if_pos c, if_pos c]
  · rw [if_neg c, if_neg c]
    by_cases c4 : m = 4
    · rw [if_pos c4, if_pos c4, if_pos (Or.inl c4)]
    · rw [if_neg c4, if_neg c4]
      by_cases c5 : m = 5
      · rw [if_pos c5, if_pos c5, if_pos (Or.inl c5)]
      · rw [if_neg c5, if_neg c5]
        have c6 : m = 6 := by omega
        rw [if_pos (Or.inr c6), if_pos (Or.inr c6)]
