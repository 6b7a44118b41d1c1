/-! ===== the bits of a slice ===== -/
def rowp (k : Int) : Int := if k = 2 then 4 else if k = 3 then 8 else if k = 4 then 5 else if k = 5 then 2 else if k = 6 then 3 else if k = 7 then 6 else if k = 8 then 9 else if k = 9 then 12 else if k = 10 then 13 else if k = 11 then 10 else if k = 12 then 7 else if k = 13 then 11 else k
theorem rowp_b {k : Int} (h : 0 ≤ k ∧ k < 16) : 0 ≤ rowp k ∧ rowp k < 16 := by unfold rowp; repeat' split
                                                                               all_goals omega
def evS (r : Int) : List (Int × Bool) := evN 8 (iabs r) ++ (if r = 0 then [] else [(-1, decide (r < 0))])
def evV (v l : Int) : List (Int × Bool) := evS (vX v - vX l) ++ evS (vY v - vY l)
def evM2 (kd m : Int) : List (Int × Bool) := if m < 4 then [(4, decide (1 < m)), (if m < 2 then 5 else 6, decide (m % 2 = 1))] else if kd = 98 then (2, decide (m = 6)) :: (if m = 6 then [] else [(3, decide (m = 5))]) else []
def evM (kd m : Int) : List (Int × Bool) := (if kd = 105 then [] else [(1, decide (3 < m))]) ++ evM2 kd m
def lst (f : Int → Int) : Nat → Int
  | 0 => -1
  | n + 1 => if f n = 0 then lst f n else n
theorem lst_b (f : Int → Int) : ∀ n : Nat, -1 ≤ lst f n ∧ lst f n < n
  | 0 => by unfold lst; omega
  | n + 1 => by
    have := lst_b f n
    unfold lst
    split <;> omega
def evLP (l : Int) : List (Int × Bool) := [(33, decide (l / 8 % 2 = 1)), (34 + l / 8, decide (l / 4 % 2 = 1)), (36 + l / 4, decide (l / 2 % 2 = 1)), (40 + l / 2, decide (l % 2 = 1))]
def evX (f : Int → Int) (l n : Int) : List (Int × Bool) := (if n = l then [] else [(48 + n, decide (f n ≠ 0))]) ++ (if f n = 0 then [] else (-1, decide (f n < 0)) :: evN 64 (iabs (f n) - 1))
def evW (f : Int → Int) (l : Int) : Nat → List (Int × Bool)
  | 0 => []
  | n + 1 => evX f l n ++ evW f l n
def evQ (f : Int → Int) : List (Int × Bool) := (7, decide (lst f 16 ≠ -1)) :: (if lst f 16 = -1 then [] else evLP (lst f 16) ++ evW f (lst f 16) (lst f 16 + 1).toNat)

def slo (sl s : Int) : Int := if 1 < sl ∧ 8 ≤ cy s then 1 else 0
def evP (kd m v1 v2 l1 l2 : Int) : List (Int × Bool) := evM kd m ++ ((if m = 4 ∨ m = 6 then evV v1 l1 else []) ++ (if m = 5 ∨ m = 6 then evV v2 l2 else []))
def evE0 (pd : Nat → Int → Int) (tl s : Int) : List (Int × Bool) := if s % 4 = 0 ∧ tl % 2 = 1 then [(0, decide (pd 0 s = 4))] else []
def evE1 (pd : Nat → Int → Int) (kd l1 l2 s : Int) : List (Int × Bool) := if s % 4 = 0 ∨ pd 0 s = 4 then evP kd (pd 1 s) (pd 2 s) (pd 3 s) l1 l2 else []
def lvs (pd : Nat → Int → Int) (s : Int) : Int → Int := fun k => pd 4 (pl s (rowp k))
def evE (pd : Nat → Int → Int) (kd tl l1 l2 s : Int) : List (Int × Bool) := evE0 pd tl s ++ (evE1 pd kd l1 l2 s ++ evQ (lvs pd s))
def nl1 (pd : Nat → Int → Int) (l s : Int) : Int := if (s % 4 = 0 ∨ pd 0 s = 4) ∧ (pd 1 s = 4 ∨ pd 1 s = 6) then pd 2 s else l
def nl2 (pd : Nat → Int → Int) (l s : Int) : Int := if (s % 4 = 0 ∨ pd 0 s = 4) ∧ (pd 1 s = 5 ∨ pd 1 s = 6) then pd 3 s else l
def slS (pd : Nat → Int → Int) (kd tl sl w : Int) : Nat → List (Int × Bool) × (Int × Int)
  | 0 => ([], (808, 808))
  | i + 1 => if slo sl i = w then ((slS pd kd tl sl w i).1 ++ evE pd kd tl (slS pd kd tl sl w i).2.1 (slS pd kd tl sl w i).2.2 i, (nl1 pd (slS pd kd tl sl w i).2.1 i, nl2 pd (slS pd kd tl sl w i).2.2 i)) else slS pd kd tl sl w i
/-- what the bits want of a square -/
def pdB (pd : Nat → Int → Int) (s : Int) : Prop := (pd 0 s = 4 ∨ pd 0 s = 8) ∧ (0 ≤ pd 1 s ∧ pd 1 s ≤ 6) ∧ ((pd 1 s = 4 ∨ pd 1 s = 6) → okv (pd 2 s)) ∧ ((pd 1 s = 5 ∨ pd 1 s = 6) → okv (pd 3 s)) ∧ ∀ k, 0 ≤ k → k < 16 → -1020 ≤ pd 4 (pl s k) ∧ pd 4 (pl s k) ≤ 1020
theorem okv_r {v l : Int} (hv : okv v) (hl : okv l) : (-16 ≤ vX v - vX l ∧ vX v - vX l ≤ 16) ∧ -16 ≤ vY v - vY l ∧ vY v - vY l ≤ 16 := by
  unfold okv at *
  unfold vX vY
  omega
theorem n_evS {r : Int} (h : -16 ≤ r ∧ r ≤ 16) : nC (evS r) ≤ 12 ∧ nP (evS r) ≤ 6 := by
  unfold evS
  rw [nC_app, nP_app]
  have a := nC_evN (c := 8) (n := iabs r) (by decide)
  have p3 : (2 : Int) ^ (2 + 1) = 8 := by decide
  have b : nP (evN 8 (iabs r)) ≤ 5 := by
    by_cases g : 11 < iabs r
    · rw [if_pos g] at a
      have := hl_b (m := iabs r - 11) (t := 2) (by omega) (by unfold iabs; omega)
      omega
    · rw [if_neg g] at a
      omega
  split
  · simp only [nC, nP]; omega
  · simp only [nC, nP]
    rw [if_pos (by decide), if_pos (by decide)]
    omega
theorem n_evV {v l : Int} (hv : okv v) (hl : okv l) : nC (evV v l) ≤ 24 ∧ nP (evV v l) ≤ 12 := by
  unfold evV
  rw [nC_app, nP_app]
  have r := okv_r hv hl
  have a := n_evS r.1
  have b := n_evS r.2
  omega
theorem n_evM (kd m : Int) : nC (evM kd m) ≤ 3 ∧ nP (evM kd m) = 0 := by
  unfold evM evM2
  rw [nC_app, nP_app]
  have a : nC (if kd = 105 then [] else [((1 : Int), decide (3 < m))]) ≤ 1 ∧ nP (if kd = 105 then [] else [((1 : Int), decide (3 < m))]) = 0 := by
    split
    · exact ⟨Nat.zero_le _, rfl⟩
    · simp only [nC, nP]
      rw [if_neg (by decide), if_neg (by decide)]
      omega
  have b : nC (if m < 4 then [(4, decide (1 < m)), (if m < 2 then 5 else 6, decide (m % 2 = 1))] else if kd = 98 then ((2 : Int), decide (m = 6)) :: (if m = 6 then [] else [(3, decide (m = 5))]) else []) ≤ 2 ∧ nP (if m < 4 then [(4, decide (1 < m)), (if m < 2 then 5 else 6, decide (m % 2 = 1))] else if kd = 98 then ((2 : Int), decide (m = 6)) :: (if m = 6 then [] else [(3, decide (m = 5))]) else []) = 0 := by
    split
    · have e : ¬ ((if m < 2 then (5 : Int) else 6) < 0) := by split <;> decide
      simp only [nC, nP]
      rw [if_neg e, if_neg e, if_neg (by decide), if_neg (by decide)]
      omega
    · split
      · split
        · simp only [nC, nP]
          rw [if_neg (by decide), if_neg (by decide)]
          omega
        · simp only [nC, nP]
          rw [if_neg (by decide), if_neg (by decide), if_neg (by decide), if_neg (by decide)]
          omega
      · exact ⟨Nat.zero_le _, rfl⟩
  omega
theorem n_evP {kd m v1 v2 l1 l2 : Int} (h1 : (m = 4 ∨ m = 6) → okv v1) (h2 : (m = 5 ∨ m = 6) → okv v2) (o1 : okv l1) (o2 : okv l2) : nC (evP kd m v1 v2 l1 l2) ≤ 51 ∧ nP (evP kd m v1 v2 l1 l2) ≤ 24 := by
  unfold evP
  rw [nC_app, nP_app, nC_app, nP_app]
  have a := n_evM kd m
  have b : nC (if m = 4 ∨ m = 6 then evV v1 l1 else []) ≤ 24 ∧ nP (if m = 4 ∨ m = 6 then evV v1 l1 else []) ≤ 12 := by
    split
    · rename_i g; exact n_evV (h1 g) o1
    · simp only [nC, nP]; omega
  have c : nC (if m = 5 ∨ m = 6 then evV v2 l2 else []) ≤ 24 ∧ nP (if m = 5 ∨ m = 6 then evV v2 l2 else []) ≤ 12 := by
    split
    · rename_i g; exact n_evV (h2 g) o2
    · simp only [nC, nP]; omega
  omega
theorem n_evX {f : Int → Int} {l n : Int} (hn : 0 ≤ n) (h : -1020 ≤ f n ∧ f n ≤ 1020) : nC (evX f l n) ≤ (if n = l then 12 else 13) ∧ nP (evX f l n) ≤ 20 := by
  unfold evX
  rw [nC_app, nP_app]
  have a := nC_evN (c := 64) (n := iabs (f n) - 1) (by decide)
  have p : (2 : Int) ^ (9 + 1) = 1024 := by decide
  have b : nP (evN 64 (iabs (f n) - 1)) ≤ 19 := by
    by_cases g : 11 < iabs (f n) - 1
    · rw [if_pos g] at a
      have := hl_b (m := iabs (f n) - 1 - 11) (t := 9) (by omega) (by unfold iabs; omega)
      omega
    · rw [if_neg g] at a
      omega
  have c : nC (if f n = 0 then [] else ((-1 : Int), decide (f n < 0)) :: evN 64 (iabs (f n) - 1)) ≤ 12 ∧ nP (if f n = 0 then [] else ((-1 : Int), decide (f n < 0)) :: evN 64 (iabs (f n) - 1)) ≤ 20 := by
    split
    · simp only [nC, nP]; omega
    · simp only [nC, nP]
      rw [if_pos (by decide), if_pos (by decide)]
      omega
  have e : ¬ (48 + n < 0) := by omega
  split
  · simp only [nC, nP]; omega
  · simp only [nC, nP]
    rw [if_neg e, if_neg e]
    omega
theorem n_evW {f : Int → Int} {l : Int} (h : ∀ n : Int, 0 ≤ n → n < 16 → -1020 ≤ f n ∧ f n ≤ 1020) : ∀ n : Nat, n ≤ 16 → (n : Int) ≤ l + 1 → nC (evW f l n) ≤ (if (n : Int) = l + 1 then 13 * n - 1 else 13 * n) ∧ nP (evW f l n) ≤ 20 * n
  | 0, _, _ => by simp only [evW, nC, nP]; omega
  | n + 1, h1, h2 => by
    have ih := n_evW (l := l) h n (by omega) (by omega)
    have x := n_evX (f := f) (l := l) (n := n) (by omega) (h n (by omega) (by omega))
    unfold evW
    rw [nC_app, nP_app]
    rw [if_neg (by omega)] at ih
    by_cases g : (n : Int) = l
    · rw [if_pos g] at x
      rw [if_pos (by omega)]
      omega
    · rw [if_neg g] at x
      rw [if_neg (by omega)]
      omega
theorem n_evQ {f : Int → Int} (h : ∀ n : Int, 0 ≤ n → n < 16 → -1020 ≤ f n ∧ f n ≤ 1020) : nC (evQ f) ≤ 212 ∧ nP (evQ f) ≤ 320 := by
  unfold evQ
  have b := lst_b f 16
  simp only [nC, nP]
  rw [if_neg (show ¬ ((7 : Int) < 0) by decide), if_neg (show ¬ ((7 : Int) < 0) by decide)]
  by_cases g : lst f 16 = -1
  · rw [if_pos g]
    simp only [nC, nP]; omega
  · rw [if_neg g]
    rw [nC_app, nP_app]
    have w := n_evW (l := lst f 16) h (lst f 16 + 1).toNat (by omega) (by omega)
    rw [if_pos (by omega)] at w
    unfold evLP
    simp only [nC, nP]
    rw [if_neg (by omega), if_neg (by omega), if_neg (by omega), if_neg (by omega), if_neg (by omega), if_neg (by omega), if_neg (by omega), if_neg (by omega)]
    omega
theorem n_evE {pd : Nat → Int → Int} {kd tl l1 l2 s : Int} (b : pdB pd s) (o1 : okv l1) (o2 : okv l2) : nC (evE pd kd tl l1 l2 s) ≤ 264 ∧ nP (evE pd kd tl l1 l2 s) ≤ 344 := by
  obtain ⟨b0, b1, b2, b3, b4⟩ := b
  unfold evE
  rw [nC_app, nP_app, nC_app, nP_app]
  have q := n_evQ (f := lvs pd s) fun n n0 n1 => by
    have := rowp_b ⟨n0, n1⟩
    exact b4 _ this.1 this.2
  have p := n_evP (kd := kd) b2 b3 o1 o2
  have e0 : nC (evE0 pd tl s) ≤ 1 ∧ nP (evE0 pd tl s) = 0 := by
    unfold evE0
    split
    · simp only [nC, nP]
      rw [if_neg (by decide), if_neg (by decide)]
      omega
    · exact ⟨Nat.zero_le _, rfl⟩
  have e1 : nC (evE1 pd kd l1 l2 s) ≤ 51 ∧ nP (evE1 pd kd l1 l2 s) ≤ 24 := by
    unfold evE1
    split
    · exact p
    · simp only [nC, nP]; omega
  omega
theorem nl_ok {pd : Nat → Int → Int} {l1 l2 s : Int} (b : pdB pd s) (o1 : okv l1) (o2 : okv l2) : okv (nl1 pd l1 s) ∧ okv (nl2 pd l2 s) := by
  unfold nl1 nl2
  constructor
  · split
    · rename_i g; exact b.2.2.1 g.2
    · exact o1
  · split
    · rename_i g; exact b.2.2.2.1 g.2
    · exact o2
theorem slS_b {pd : Nat → Int → Int} {kd tl sl w : Int} (h : ∀ s, 0 ≤ s → s < 16 → pdB pd s) : ∀ i : Nat, i ≤ 16 → okv (slS pd kd tl sl w i).2.1 ∧ okv (slS pd kd tl sl w i).2.2 ∧ nC (slS pd kd tl sl w i).1 ≤ 264 * i ∧ nP (slS pd kd tl sl w i).1 ≤ 344 * i
  | 0, _ => by
    have : okv 808 := by unfold okv; decide
    refine ⟨this, this, ?_, ?_⟩ <;> (simp only [slS, nC, nP]; omega)
  | i + 1, hi => by
    have ih := slS_b (kd := kd) (tl := tl) (sl := sl) (w := w) h i (by omega)
    unfold slS
    split
    · have b := h i (by omega) (by omega)
      have n := n_evE (kd := kd) (tl := tl) b ih.1 ih.2.1
      have o := nl_ok b ih.1 ih.2.1
      refine ⟨o.1, o.2, ?_, ?_⟩
      · rw [nC_app]; omega
      · rw [nP_app]; omega
    · exact ⟨ih.1, ih.2.1, by omega, by omega⟩
/-- both slices together -/
theorem slS_b2 {pd : Nat → Int → Int} {kd tl sl : Int} (h : ∀ s, 0 ≤ s → s < 16 → pdB pd s) : ∀ i : Nat, i ≤ 16 → nC (slS pd kd tl sl 0 i).1 + nC (slS pd kd tl sl 1 i).1 ≤ 264 * i ∧ nP (slS pd kd tl sl 0 i).1 + nP (slS pd kd tl sl 1 i).1 ≤ 344 * i
  | 0, _ => by simp only [slS, nC, nP]; omega
  | i + 1, hi => by
    have ih := slS_b2 (kd := kd) (tl := tl) (sl := sl) h i (by omega)
    have i0 := slS_b (kd := kd) (tl := tl) (sl := sl) (w := 0) h i (by omega)
    have i1 := slS_b (kd := kd) (tl := tl) (sl := sl) (w := 1) h i (by omega)
    have b := h i (by omega) (by omega)
    unfold slS
    by_cases g : slo sl i = 0
    · rw [if_pos g, if_neg (by omega)]
      have n := n_evE (kd := kd) (tl := tl) b i0.1 i0.2.1
      simp only
      rw [nC_app, nP_app]
      omega
    · rw [if_neg g]
      split
      · have n := n_evE (kd := kd) (tl := tl) b i1.1 i1.2.1
        simp only
        rw [nC_app, nP_app]
        omega
      · omega
theorem slS_Ft {pd : Nat → Int → Int} {kd tl sl w : Int} (h : ∀ s, 0 ≤ s → s < 16 → pdB pd s) {i : Nat} (hi : i < 16) : Ft (runA A0 (slS pd kd tl sl w i).1) (slS pd kd tl sl w i).1.length 266 344 := by
  have b := slS_b (kd := kd) (tl := tl) (sl := sl) (w := w) h i (by omega)
  have r := runA_ok (slS pd kd tl sl w i).1 okA_0 potA_0
  rw [Nat.zero_add, Nat.zero_add] at r
  have l := nCP_len (slS pd kd tl sl w i).1
  exact ⟨_, _, r.1, r.2, by omega, by omega, by omega⟩
theorem slS_end {pd : Nat → Int → Int} {kd tl sl w : Int} (h : ∀ s, 0 ≤ s → s < 16 → pdB pd s) : Ft (runA A0 (slS pd kd tl sl w 16).1) (slS pd kd tl sl w 16).1.length 0 0 := by
  have b := slS_b (kd := kd) (tl := tl) (sl := sl) (w := w) h 16 (by omega)
  have r := runA_ok (slS pd kd tl sl w 16).1 okA_0 potA_0
  rw [Nat.zero_add, Nat.zero_add] at r
  have l := nCP_len (slS pd kd tl sl w 16).1
  exact ⟨_, _, r.1, r.2, by omega, by omega, by omega⟩
theorem big_no2 : ¬ 256 ^ 3965 * 100 ^ 5504 ≤ 4294967296 * 4294967296 * (70 ^ 4228 * 201 ^ 5504) := by decide +kernel
theorem len_b2 {pd : Nat → Int → Int} {kd tl sl : Int} (h : ∀ s, 0 ≤ s → s < 16 → pdB pd s) : (runA A0 (slS pd kd tl sl 0 16).1).2.2.2 + (runA A0 (slS pd kd tl sl 1 16).1).2.2.2 ≤ 3964 := by
  have b := slS_b2 (kd := kd) (tl := tl) (sl := sl) h 16 (by omega)
  have r := runA_ok (slS pd kd tl sl 0 16).1 okA_0 potA_0
  have t := runA_ok (slS pd kd tl sl 1 16).1 okA_0 potA_0
  rw [Nat.zero_add, Nat.zero_add] at r t
  generalize nC (slS pd kd tl sl 0 16).1 = c0 at *
  generalize nC (slS pd kd tl sl 1 16).1 = c1 at *
  generalize nP (slS pd kd tl sl 0 16).1 = p0 at *
  generalize nP (slS pd kd tl sl 1 16).1 = p1 at *
  generalize runA A0 (slS pd kd tl sl 0 16).1 = R at *
  generalize runA A0 (slS pd kd tl sl 1 16).1 = T at *
  rcases Nat.lt_or_ge 3964 (R.2.2.2 + T.2.2.2) with g | g
  · exfalso
    apply big_no2
    have q0 := r.2
    have q1 := t.2
    unfold potA at q0 q1
    have w0 : R.2.2.1.toNat ≤ 4294967296 := by have := r.1.2.1; omega
    have w1 : T.2.2.1.toNat ≤ 4294967296 := by have := t.1.2.1; omega
    have q0' := Nat.le_trans q0 (Nat.mul_le_mul_right (70 ^ c0 * 201 ^ p0) w0)
    have q1' := Nat.le_trans q1 (Nat.mul_le_mul_right (70 ^ c1 * 201 ^ p1) w1)
    have q2 := Nat.mul_le_mul q0' q1'
    have m1 : ∀ a b c d : Nat, a * b * (c * d) = a * c * (b * d) := fun a b c d => by ac_rfl
    rw [m1, ← Nat.pow_add, ← Nat.pow_add, m1, m1 (70 ^ c0), ← Nat.pow_add, ← Nat.pow_add] at q2
    obtain ⟨k, hk⟩ := Nat.le.dest (show c0 + c1 ≤ 4228 by omega)
    obtain ⟨j, hj⟩ := Nat.le.dest (show p0 + p1 ≤ 5504 by omega)
    have h1 : 100 ^ j ≤ 70 ^ k * 201 ^ j := Nat.le_trans (Nat.pow_le_pow_left (by decide) j) (Nat.le_mul_of_pos_left _ (Nat.pow_pos (by decide)))
    have h2 : 256 ^ 3965 * 100 ^ (p0 + p1) ≤ 4294967296 * 4294967296 * (70 ^ (c0 + c1) * 201 ^ (p0 + p1)) := Nat.le_trans (Nat.mul_le_mul_right _ (Nat.pow_le_pow_right (by decide) g)) q2
    have h3 := Nat.mul_le_mul h2 h1
    rw [mul4, Nat.mul_assoc, ← Nat.pow_add, ← Nat.pow_add, ← Nat.pow_add, hk, hj] at h3
    exact h3
  · exact g
theorem lst_congr {f g : Int → Int} : ∀ {n : Nat}, (∀ i : Int, 0 ≤ i → i < n → f i = g i) → lst f n = lst g n
  | 0, _ => rfl
  | n + 1, h => by
    unfold lst
    rw [lst_congr (n := n) fun i i0 i1 => h i i0 (by omega), h n (by omega) (by omega)]
theorem evW_congr {f g : Int → Int} {l : Int} : ∀ {n : Nat}, (∀ i : Int, 0 ≤ i → i < n → f i = g i) → evW f l n = evW g l n
  | 0, _ => rfl
  | n + 1, h => by
    unfold evW evX
    rw [evW_congr (n := n) fun i i0 i1 => h i i0 (by omega), h n (by omega) (by omega)]
theorem evQ_congr {f g : Int → Int} (h : ∀ i : Int, 0 ≤ i → i < 16 → f i = g i) : evQ f = evQ g := by
  have b := lst_b g 16
  unfold evQ
  rw [lst_congr (n := 16) (g := g) h]
  split
  · rfl
  · rw [evW_congr fun i i0 i1 => h i i0 (by omega)]
theorem slS_congr {pd pd' : Nat → Int → Int} {kd tl sl w : Int} {p p' : Int → Int} (h : agr 16 pd pd' p p') : ∀ i : Nat, i ≤ 16 → slS pd kd tl sl w i = slS pd' kd tl sl w i
  | 0, _ => rfl
  | i + 1, hi => by
    have ih := slS_congr (kd := kd) (tl := tl) (sl := sl) (w := w) h i (by omega)
    obtain ⟨⟨a0, a1, a2, a3⟩, a4⟩ := h i (by omega) (by omega)
    unfold slS
    rw [ih]
    unfold evE evE0 evE1 nl1 nl2
    rw [a0, a1, a2, a3, evQ_congr (f := lvs pd i) (g := lvs pd' i) fun k k0 k1 => by
      have := rowp_b ⟨k0, k1⟩
      exact (a4 _ this.1 this.2).1]
theorem lev1020 {q z : Int} (hq : 1 ≤ q ∧ q ≤ 40) (hz : -4080 ≤ z ∧ z ≤ 4080) : -1020 ≤ lev q z ∧ lev q z ≤ 1020 := by
  have h4 : 0 < 4 * q := by omega
  have ha : 0 ≤ iabs z ∧ iabs z ≤ 4080 := by unfold iabs; omega
  have h1 : 0 ≤ (iabs z + q) / (4 * q) := Int.ediv_nonneg (by omega) (by omega)
  have h2 : (iabs z + q) / (4 * q) < 1021 := Int.ediv_lt_of_lt_mul h4 (by omega)
  unfold lev
  split <;> omega
theorem Cod_pdB {c f1 f2 p : Int → Int} {kd tl sl q : Int} {pd : Nat → Int → Int} {s : Int} (hk : isKind kd) (hc : pixels c) (hp : pixels p) (h1 : kd ≠ 105 → pixels f1) (h2 : kd = 98 → pixels f2) (hq : 1 ≤ q ∧ q ≤ 40) (hs : 0 ≤ s ∧ s < 16) (d : Cod c f1 f2 kd tl sl q pd p s) : pdB pd s := by
  obtain ⟨d1, ⟨d2, d3, d4⟩, d5, d6⟩ := d
  have nb := nmo_b hk
  have cb := cmo_b (tl := tl) (c := c) (p := p) (f1 := f1) (f2 := f2) (X := X0 (pd 0) s) (Y := Y0 (pd 0) s) (Z := SZ (pd 0) s) (T := tp sl (Y0 (pd 0) s)) hk
  rw [← d2] at cb
  refine ⟨?_, by omega, fun g => ?_, fun g => ?_, fun k k0 k1 => ?_⟩
  · unfold E1 at d1
    rw [d1]
    split <;> simp
  · have kk := nb.2.1 (by omega)
    rw [d3]
    unfold used1 cv1
    rw [if_pos g, if_neg kk]
    exact bestv_okv (stp_ok tl)
  · have kk := nb.2.2 (by omega)
    rw [d4]
    unfold used2 cv2
    rw [if_pos g, if_pos kk]
    exact bestv_okv (stp_ok tl)
  · rw [d5 k k0 k1]
    have hb := hd_b (s := fun j => c (pl s j) - Gq pd f1 f2 sl p s (cx s + j % 4) (cy s + j / 4)) (m := 255) (fun j j0 j1 => by
      have a := hc (pl s j) (pl_b s j).1 (pl_b s j).2
      have b := Gq_b (pd := pd) (sl := sl) hp (fun g => h1 (nb.2.1 (by omega))) (fun g => h2 (nb.2.2 (by omega))) (by omega) hs ⟨j0, j1⟩
      omega) k
    exact lev1020 hq (by omega)
