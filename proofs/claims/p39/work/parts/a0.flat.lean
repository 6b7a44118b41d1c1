/-! ===== a picture of one value ===== -/
theorem sp_in {lo hi q o t : Int} {p : Int → Int} (hp : ∀ i, 0 ≤ i → i < 256 → lo ≤ p i ∧ p i ≤ hi) (ho : 0 ≤ o ∧ o < 256) (ht : 0 ≤ t ∧ t < 256) : ∀ i, 0 ≤ i → i < 256 → lo ≤ sp q o t p i ∧ sp q o t p i ≤ hi := by
  unfold sp
  have h1 := hp o ho.1 ho.2
  have h2 := hp t ht.1 ht.2
  split
  · intro i i0 i1
    have h3 := hp i i0 i1
    have e := td4 (p t - p o)
    simp only
    split at e <;> repeat' split
    all_goals omega
  · exact hp
theorem smV_in {lo hi q : Int} {p : Int → Int} (hp : ∀ i, 0 ≤ i → i < 256 → lo ≤ p i ∧ p i ≤ hi) : ∀ n, n ≤ 48 → ∀ i, 0 ≤ i → i < 256 → lo ≤ smV q n p i ∧ smV q n p i ≤ hi
  | 0, _ => hp
  | n + 1, h => by
    unfold smV
    exact sp_in (smV_in hp n (by omega)) (by omega) (by omega)
theorem smH_in {lo hi q sl : Int} {p : Int → Int} (hp : ∀ i, 0 ≤ i → i < 256 → lo ≤ p i ∧ p i ≤ hi) : ∀ n, n ≤ 48 → ∀ i, 0 ≤ i → i < 256 → lo ≤ smH q sl n p i ∧ smH q sl n p i ≤ hi
  | 0, _ => hp
  | n + 1, h => by
    unfold smH
    split
    · exact smH_in hp n (by omega)
    · exact sp_in (smH_in hp n (by omega)) (by omega) (by omega)
/-- smoothing stays between bounds -/
theorem smo_in {lo hi q tl sl : Int} {p : Int → Int} (hp : ∀ i, 0 ≤ i → i < 256 → lo ≤ p i ∧ p i ≤ hi) : ∀ i, 0 ≤ i → i < 256 → lo ≤ smo q tl sl p i ∧ smo q tl sl p i ≤ hi := by
  unfold smo
  split
  · exact hp
  · exact smH_in (smV_in hp 48 (by omega)) 48 (by omega)
theorem fmx_flat {f : Int → Int} {v : Int} (hv : 0 ≤ v) : ∀ n : Nat, (∀ i : Int, 0 ≤ i → i < n → f i = v) → fmx n f ≤ v
  | 0, _ => hv
  | n + 1, h => by
    have h1 := fmx_flat hv n fun i h0 h1 => h i h0 (by omega)
    have h2 := h n (by omega) (by omega)
    simp only [fmx]
    omega
theorem fmn_flat {f : Int → Int} {v : Int} (hv : v ≤ 255) : ∀ n : Nat, (∀ i : Int, 0 ≤ i → i < n → f i = v) → v ≤ fmn n f
  | 0, _ => hv
  | n + 1, h => by
    have h1 := fmn_flat hv n fun i h0 h1 => h i h0 (by omega)
    have h2 := h n (by omega) (by omega)
    simp only [fmn]
    omega
theorem flat_split {c : Int → Int} {v tl q X Y : Int} (hv : 0 ≤ v ∧ v ≤ 255) (hq : 1 ≤ q) (hc : ∀ i, 0 ≤ i → i < 256 → c i = v) (hX : 0 ≤ X ∧ X ≤ 8) (hY : 0 ≤ Y ∧ Y ≤ 8) : ¬ splitB c tl q X Y := by
  have e : ∀ i : Int, 0 ≤ i → i < (64 : Nat) → blk c X Y i = v := fun i i0 i1 => hc _ (by omega) (by omega)
  have h1 := fmx_flat hv.1 64 e
  have h2 := fmn_flat hv.2 64 e
  rintro ⟨-, h3⟩
  omega
theorem h4_flat (i a : Int) : h4 i a a a a = if i = 0 then 4 * a else 0 := by
  unfold h4
  split
  · omega
  · split
    · omega
    · split <;> omega
theorem h4_1 (i a : Int) : h4 i a 0 0 0 = a := by
  unfold h4
  repeat' split
  all_goals omega
theorem hd_flat (d k : Int) : hd (fun _ => d) k = if k / 4 = 0 ∧ k % 4 = 0 then 16 * d else 0 := by
  unfold hd
  simp only [h4_flat]
  by_cases a : k / 4 = 0 <;> by_cases b : k % 4 = 0
  · rw [if_pos a, if_pos b, if_pos ⟨a, b⟩]; omega
  · rw [if_pos a, if_neg b, if_neg (fun w => b w.2)]; rfl
  · rw [if_neg a, if_neg (fun w => a w.1)]
  · rw [if_neg a, if_neg (fun w => a w.1)]
theorem lev_0 {q : Int} (hq : 1 ≤ q) : lev q 0 = 0 := by
  unfold lev iabs
  rw [if_neg (by omega)]
  exact Int.ediv_eq_zero_of_lt (by omega) (by omega)
/-- what a flat square is built as -/
def flv (q v g : Int) : Int := clampv (g + (4 * q * lev q (16 * (v - g)) + 8) / 16)
theorem flv_near {q v g : Int} (hq : 1 ≤ q ∧ q ≤ 40) (hv : 0 ≤ v ∧ v ≤ 255) : (0 ≤ flv q v g ∧ flv q v g ≤ 255) ∧ v - (q / 4 + 1) ≤ flv q v g ∧ flv q v g ≤ v + (q / 4 + 1) := by
  refine ⟨⟨clampv_0 _, clampv_255 _⟩, ?_⟩
  have m : ∀ x : Int, 4 * q * (x / (4 * q)) ≤ x ∧ x < 4 * q * (x / (4 * q)) + 4 * q := fun x => by
    have h1 := Int.emod_nonneg x (show 4 * q ≠ 0 by omega)
    have h2 := Int.emod_lt_of_pos x (show 0 < 4 * q by omega)
    have h3 := Int.mul_ediv_add_emod x (4 * q)
    omega
  have key : ∃ T : Int, 4 * q * lev q (16 * (v - g)) = T ∧ ((0 ≤ v - g → T ≤ 16 * (v - g) + q ∧ 16 * (v - g) + q < T + 4 * q) ∧ (v - g < 0 → -T ≤ 16 * (g - v) + q ∧ 16 * (g - v) + q < -T + 4 * q)) := by
    refine ⟨_, rfl, fun d0 => ?_, fun d0 => ?_⟩
    · unfold lev iabs
      rw [if_neg (by omega)]
      have := m (max (16 * (v - g)) (-(16 * (v - g))) + q)
      omega
    · unfold lev iabs
      rw [if_pos (by omega), Int.mul_neg]
      have := m (max (16 * (v - g)) (-(16 * (v - g))) + q)
      omega
  obtain ⟨T, e, k1, k2⟩ := key
  unfold flv
  rw [e]
  unfold clampv
  by_cases d0 : 0 ≤ v - g
  · have := k1 d0
    repeat' split
    all_goals omega
  · have := k2 (by omega)
    repeat' split
    all_goals omega
def gvv (A L C m : Int) : Int := if m = 0 then (8 * (A + L) + 8) / 16 else if m = 1 then A else if m = 2 then L else clampv (A + L - C)
theorem sm8 (z : Int) : sm 8 (fun _ => z) = 8 * z := by simp only [sm]; omega
theorem gsB_flat {p : Int → Int} {X Y m A L C x y : Int} (hA : ∀ i, 0 ≤ i → i < 8 → bord p 0 (X + i) (Y - 1) = A) (hL : ∀ i, 0 ≤ i → i < 8 → bord p 0 (X - 1) (Y + i) = L) (hC : bord p 0 (X - 1) (Y - 1) = C) (hx : X ≤ x ∧ x < X + 8) (hy : Y ≤ y ∧ y < Y + 8) : gsB p X Y 8 0 m x y = gvv A L C m := by
  have ax := hA (x - X) (by omega) (by omega)
  rw [show X + (x - X) = x by omega] at ax
  have ly := hL (y - Y) (by omega) (by omega)
  rw [show Y + (y - Y) = y by omega] at ly
  unfold gsB gvv
  rw [ax, ly, hC]
  have e : meanv p X Y 8 0 = (8 * (A + L) + 8) / 16 := by
    unfold meanv
    have : sm (8 : Int).toNat (fun i => bord p 0 (X + i) (Y - 1) + bord p 0 (X - 1) (Y + i)) = sm 8 (fun _ => A + L) := sm_congr (n := 8) fun i i0 i1 => by rw [hA i i0 (by omega), hL i i0 (by omega)]
    rw [this, sm8]
    rfl
  rw [e]
section FLAT
variable {c f1 f2 p : Int → Int} {tl q v : Int} {pd : Nat → Int → Int}
theorem sq_flat {kd s g : Int} (hq : 1 ≤ q ∧ q ≤ 40) (hs : 0 ≤ s ∧ s < 16) (hc : ∀ i, 0 ≤ i → i < 256 → c i = v) (cod : Cod c f1 f2 kd tl 1 q pd p s) (hG : ∀ k, 0 ≤ k → k < 16 → Gq pd f1 f2 1 p s (cx s + k % 4) (cy s + k / 4) = g) : ∀ k, 0 ≤ k → k < 16 → p (pl s k) = flv q v g := by
  obtain ⟨-, -, e4, bu⟩ := cod
  intro k k0 k1
  rw [bu k k0 k1, hG k k0 k1]
  have l : ∀ j, 0 ≤ j → j < 16 → pd 4 (pl s j) = if j = 0 then lev q (16 * (v - g)) else 0 := fun j j0 j1 => by
    rw [e4 j j0 j1, hd_congr (t := fun _ => v - g) fun i i0 i1 => by rw [hc _ (pl_b s i).1 (pl_b s i).2, hG i i0 i1], hd_flat]
    by_cases e : j = 0
    · rw [if_pos e, if_pos (by omega)]
    · rw [if_neg e, if_neg (by omega), lev_0 hq.1]
  have d : dif q (fun j => pd 4 (pl s j)) k = (4 * q * lev q (16 * (v - g)) + 8) / 16 := by
    rw [dif_congr l]
    unfold dif hd
    simp only [show (0 : Int) = 0 ↔ True by simp, if_true, show ((1 : Int) = 0) = False by simp, show ((2 : Int) = 0) = False by simp, show ((3 : Int) = 0) = False by simp, show ((4 : Int) = 0) = False by simp, show ((5 : Int) = 0) = False by simp, show ((6 : Int) = 0) = False by simp, show ((7 : Int) = 0) = False by simp, show ((8 : Int) = 0) = False by simp, show ((9 : Int) = 0) = False by simp, show ((10 : Int) = 0) = False by simp, show ((11 : Int) = 0) = False by simp, show ((12 : Int) = 0) = False by simp, show ((13 : Int) = 0) = False by simp, show ((14 : Int) = 0) = False by simp, show ((15 : Int) = 0) = False by simp, if_false, Int.mul_zero, h4_1]
  rw [d]
  rfl
/-- one block of a flat picture of the kind that needs no other -/
theorem bk_flat {b A L C : Int} (hq : 1 ≤ q ∧ q ≤ 40) (hv : 0 ≤ v ∧ v ≤ 255) (hb : 0 ≤ b ∧ b < 4) (hc : ∀ i, 0 ≤ i → i < 256 → c i = v) (cod : ∀ s, 0 ≤ s → s < 16 → Cod c f1 f2 105 tl 1 q pd p s) (w : ∀ s, 0 ≤ s → s < 16 → pdW pd 105 q s)
    (hA : ∀ i, 0 ≤ i → i < 8 → bord p 0 (8 * (b % 2) + i) (8 * (b / 2) - 1) = A) (hL : ∀ i, 0 ≤ i → i < 8 → bord p 0 (8 * (b % 2) - 1) (8 * (b / 2) + i) = L) (hC : bord p 0 (8 * (b % 2) - 1) (8 * (b / 2) - 1) = C) :
    ∃ P, (v - (q / 4 + 1) ≤ P ∧ P ≤ v + (q / 4 + 1)) ∧ ∀ x y, 8 * (b % 2) ≤ x → x < 8 * (b % 2) + 8 → 8 * (b / 2) ≤ y → y < 8 * (b / 2) + 8 → p (16 * y + x) = P := by
  refine ⟨flv q v (gvv A L C (pd 1 (4 * b))), (flv_near hq hv).2, fun x y x0 x1 y0 y1 => ?_⟩
  obtain ⟨e, s0, s1⟩ := pl_xy (x := x) (y := y) (by omega) (by omega)
  have sb : sq x y / 4 = b := by unfold sq; omega
  generalize hs : sq x y = s at e s0 s1 sb
  have z8 : pd 0 s = 8 := by
    have := (cod s s0 s1).1
    unfold E1 at this
    rw [this, if_neg (flat_split hv hq.1 hc (by omega) (by omega))]
  have ws := w s s0 s1
  have m1 : pd 1 s = pd 1 (4 * b) := by rw [(ws.2.2.1 (by omega)).1, sb]
  have m4 : pd 1 s < 4 := ws.2.2.2.1.2
  rw [← e]
  refine sq_flat hq ⟨s0, s1⟩ hc (cod s s0 s1) (fun k k0 k1 => ?_) _ (by omega) (by omega)
  have i1 := in_part (z := pd 0) ⟨s0, s1⟩ ⟨k0, k1⟩
  have eX : X0 (pd 0) s = 8 * (b % 2) := by unfold X0; rw [if_neg (by omega), sb]
  have eY : Y0 (pd 0) s = 8 * (b / 2) := by unfold Y0; rw [if_neg (by omega)]; omega
  have eZ : SZ (pd 0) s = 8 := by unfold SZ; rw [if_neg (by omega)]
  rw [eX, eY, eZ] at i1
  unfold Gq gss
  rw [eX, eY, eZ, if_pos m4, m1, show tp 1 (8 * (b / 2)) = 0 from if_neg (fun w => absurd w.1 (by decide))]
  exact gsB_flat hA hL hC i1.1 i1.2
theorem bord_out {x y : Int} (h : x < 0 ∨ y < 0) : bord p 0 x y = 128 := if_pos h
theorem bord_in {x y : Int} (h : 0 ≤ x ∧ 0 ≤ y) : bord p 0 x y = p (16 * y + x) := if_neg (by omega)
/-- a picture of one value is built near it -/
theorem flat_near (hq : 1 ≤ q ∧ q ≤ 40) (hv : 0 ≤ v ∧ v ≤ 255) (hc : ∀ i, 0 ≤ i → i < 256 → c i = v) (cod : ∀ s, 0 ≤ s → s < 16 → Cod c f1 f2 105 tl 1 q pd p s) (w : ∀ s, 0 ≤ s → s < 16 → pdW pd 105 q s) : ∀ i, 0 ≤ i → i < 256 → v - (q / 4 + 1) ≤ p i ∧ p i ≤ v + (q / 4 + 1) := by
  obtain ⟨P0, n0, a0⟩ := bk_flat (b := 0) (A := 128) (L := 128) (C := 128) hq hv (by decide) hc cod w (fun i _ _ => bord_out (Or.inr (by decide))) (fun i _ _ => bord_out (Or.inl (by decide))) (bord_out (Or.inl (by decide)))
  obtain ⟨P1, n1, a1⟩ := bk_flat (b := 1) (A := 128) (L := P0) (C := 128) hq hv (by decide) hc cod w (fun i _ _ => bord_out (Or.inr (by decide))) (fun i i0 i1 => by rw [bord_in (by omega)]; exact a0 _ _ (by decide) (by decide) (by omega) (by omega)) (bord_out (Or.inr (by decide)))
  obtain ⟨P2, n2, a2⟩ := bk_flat (b := 2) (A := P0) (L := 128) (C := 128) hq hv (by decide) hc cod w (fun i i0 i1 => by rw [bord_in (by omega)]; exact a0 _ _ (by omega) (by omega) (by decide) (by decide)) (fun i _ _ => bord_out (Or.inl (by decide))) (bord_out (Or.inl (by decide)))
  obtain ⟨P3, n3, a3⟩ := bk_flat (b := 3) (A := P1) (L := P2) (C := P0) hq hv (by decide) hc cod w (fun i i0 i1 => by rw [bord_in (by omega)]; exact a1 _ _ (by omega) (by omega) (by decide) (by decide)) (fun i i0 i1 => by rw [bord_in (by omega)]; exact a2 _ _ (by decide) (by decide) (by omega) (by omega)) (by rw [bord_in (by omega)]; exact a0 _ _ (by decide) (by decide) (by decide) (by decide))
  intro i i0 i1
  have e : i = 16 * (i / 16) + i % 16 := by omega
  rw [e]
  by_cases hx : i % 16 < 8 <;> by_cases hy : i / 16 < 8
  · rw [a0 _ _ (by omega) (by omega) (by omega) (by omega)]; exact n0
  · rw [a2 _ _ (by omega) (by omega) (by omega) (by omega)]; exact n2
  · rw [a1 _ _ (by omega) (by omega) (by omega) (by omega)]; exact n1
  · rw [a3 _ _ (by omega) (by omega) (by omega) (by omega)]; exact n3
theorem flat_8 {kd s : Int} (hq : 1 ≤ q ∧ q ≤ 40) (hv : 0 ≤ v ∧ v ≤ 255) (hc : ∀ i, 0 ≤ i → i < 256 → c i = v) (cod : Cod c f1 f2 kd tl 1 q pd p s) : pd 0 s = 8 := by
  have := cod.1
  unfold E1 at this
  rw [this, if_neg (flat_split hv hq.1 hc (by omega) (by omega))]
/-- what came whole is decoded as it was built -/
theorem hv_agr {f g : Int → Int} (e : ∀ i, 0 ≤ i → i < 256 → f i = g i) : hv f = hv g := by
  funext x y
  have a1 := ixs_b (y / 2)
  have a2 := ixs_b (x / 2)
  have a3 := ixs_b ((y + 1) / 2)
  have a4 := ixs_b ((x + 1) / 2)
  unfold hv
  rw [e (16 * ixs (y / 2) + ixs (x / 2)) (by omega) (by omega), e (16 * ixs (y / 2) + ixs ((x + 1) / 2)) (by omega) (by omega), e (16 * ixs ((y + 1) / 2) + ixs (x / 2)) (by omega) (by omega), e (16 * ixs ((y + 1) / 2) + ixs ((x + 1) / 2)) (by omega) (by omega)]
theorem not_lost (sl s : Int) : ¬ lostAt 0 sl s := by
  unfold lostAt
  rcases slo_01 sl s with e | e <;> rw [e] <;> decide
theorem dec_same {g1 g2 s0 p' : Int → Int} {kd sl : Int} (e1 : hv f1 = hv g1) (e2 : hv f2 = hv g2) (cod : ∀ s, 0 ≤ s → s < 16 → Cod c f1 f2 kd tl sl q pd p s) (dec : ∀ s, 0 ≤ s → s < 16 → Dcd pd g1 g2 s0 sl q 0 p' s) : ∀ i, 0 ≤ i → i < 256 → p' i = p i := by
  have a := Dcd_one dec (fun s s0 s1 => ⟨fun l => absurd l (not_lost _ _), fun _ => Bu_hv e1 e2 (cod s s0 s1).2.2.2⟩) 16 (Nat.le_refl _)
  intro i i0 i1
  have := agr_p a (i % 16) (i / 16) (by omega) (by omega) (by omega) (by omega) (pl_xy (x := i % 16) (y := i / 16) (by omega) (by omega)).2.2
  rw [show 16 * (i / 16) + i % 16 = i by omega] at this
  exact this
theorem dfs_same {f g : Int → Int} : ∀ n : Nat, (∀ i : Int, 0 ≤ i → i < n → f i = g i) → dfs f g n = 0
  | 0, _ => rfl
  | n + 1, h => by
    have h1 := dfs_same n fun i i0 i1 => h i i0 (by omega)
    unfold dfs at *
    simp only [sm]
    rw [h1, if_pos (h n (by omega) (by omega))]
    rfl
end FLAT
