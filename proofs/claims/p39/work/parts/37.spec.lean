/-! ===== the picture, in whole numbers ===== -/
def sm : Nat → (Int → Int) → Int
  | 0, _ => 0
  | n + 1, f => sm n f + f n
theorem sm_congr {f g : Int → Int} : ∀ {n : Nat}, (∀ i : Int, 0 ≤ i → i < n → f i = g i) → sm n f = sm n g
  | 0, _ => rfl
  | n + 1, h => by
    unfold sm
    rw [sm_congr (n := n) fun i h0 h1 => h i h0 (by omega), h n (by omega) (by omega)]
theorem sm_le {f : Int → Int} {b : Int} : ∀ {n : Nat}, (∀ i : Int, 0 ≤ i → i < n → 0 ≤ f i ∧ f i ≤ b) → 0 ≤ sm n f ∧ sm n f ≤ n * b
  | 0, _ => by unfold sm; omega
  | n + 1, h => by
    have h1 := sm_le (n := n) fun i h0 h1 => h i h0 (by omega)
    have h2 := h n (by omega) (by omega)
    unfold sm
    have : ((n + 1 : Nat) : Int) * b = n * b + b := by rw [Int.natCast_add, Int.add_mul]; omega
    rw [this]
    omega
/-- the pixel at half places -/
def hv (f : Int → Int) (x y : Int) : Int := (((f (16 * ixs (y / 2) + ixs (x / 2)) + f (16 * ixs (y / 2) + ixs ((x + 1) / 2))) + f (16 * ixs ((y + 1) / 2) + ixs (x / 2))) + f (16 * ixs ((y + 1) / 2) + ixs ((x + 1) / 2)) + 2) / 4
def pixels (f : Int → Int) : Prop := ∀ i, 0 ≤ i → i < 256 → 0 ≤ f i ∧ f i ≤ 255
theorem hv_b {f : Int → Int} (hf : pixels f) (x y : Int) : 0 ≤ hv f x y ∧ hv f x y ≤ 255 := by
  have a1 := ixs_b (y / 2)
  have a2 := ixs_b (x / 2)
  have a3 := ixs_b ((y + 1) / 2)
  have a4 := ixs_b ((x + 1) / 2)
  have b1 := hf (16 * ixs (y / 2) + ixs (x / 2)) (by omega) (by omega)
  have b2 := hf (16 * ixs (y / 2) + ixs ((x + 1) / 2)) (by omega) (by omega)
  have b3 := hf (16 * ixs ((y + 1) / 2) + ixs (x / 2)) (by omega) (by omega)
  have b4 := hf (16 * ixs ((y + 1) / 2) + ixs ((x + 1) / 2)) (by omega) (by omega)
  unfold hv
  omega
def bord (p : Int → Int) (top x y : Int) : Int := if x < 0 ∨ y < top then 128 else p (16 * y + x)
def meanv (p : Int → Int) (x0 y0 sz top : Int) : Int := (sm sz.toNat (fun i => bord p top (x0 + i) (y0 - 1) + bord p top (x0 - 1) (y0 + i)) + sz) / (2 * sz)
def gsB (p : Int → Int) (x0 y0 sz top mode x y : Int) : Int :=
  if mode = 0 then meanv p x0 y0 sz top
  else if mode = 1 then bord p top x (y0 - 1)
  else if mode = 2 then bord p top (x0 - 1) y
  else clampv (bord p top x (y0 - 1) + bord p top (x0 - 1) y - bord p top (x0 - 1) (y0 - 1))
def vX (v : Int) : Int := v / 100 - 8
def vY (v : Int) : Int := v % 100 - 8
def gsK (f1 f2 : Int → Int) (mode v1 v2 x y : Int) : Int :=
  if mode = 4 then hv f1 (2 * x + vX v1) (2 * y + vY v1)
  else if mode = 5 then hv f2 (2 * x + vX v2) (2 * y + vY v2)
  else (hv f1 (2 * x + vX v1) (2 * y + vY v1) + hv f2 (2 * x + vX v2) (2 * y + vY v2) + 1) / 2
def gss (p f1 f2 : Int → Int) (x0 y0 sz top mode v1 v2 x y : Int) : Int :=
  if mode < 4 then gsB p x0 y0 sz top mode x y else gsK f1 f2 mode v1 v2 x y
def iabs (z : Int) : Int := max z (-z)
def vlen (v : Int) : Int := iabs (vX v) + iabs (vY v)
def extc (mode v1 v2 : Int) : Int := if mode < 4 then 2 * mode else if mode = 4 then vlen v1 else if mode = 5 then vlen v2 else vlen v1 + vlen v2
/-- the differences of a part -/
def dsum (c : Int → Int) (g : Int → Int → Int) (x0 y0 sz : Int) (n : Nat) : Int := sm n (fun k => iabs (c (16 * (y0 + k / sz) + (x0 + k % sz)) - g (x0 + k % sz) (y0 + k / sz)))
def cost (c p f1 f2 : Int → Int) (x0 y0 sz top mode v1 v2 : Int) : Int := dsum c (gss p f1 f2 x0 y0 sz top mode v1 v2) x0 y0 sz (sz * sz).toNat + extc mode v1 v2
def mnv (C V : Int → Int) (d : Int) : Nat → Int × Int
  | 0 => (1000000, d)
  | n + 1 => if C n < (mnv C V d n).1 then (C n, V n) else mnv C V d n
def cand (st n k : Int) : Int := 100 * (st * (k % n)) + st * (k / n)
def vcost (c f : Int → Int) (x0 y0 sz v : Int) : Int := dsum c (fun x y => hv f (2 * x + vX v) (2 * y + vY v)) x0 y0 sz (sz * sz).toNat + vlen v
def bestv (c f : Int → Int) (x0 y0 sz st n : Int) : Int := (mnv (fun k => vcost c f x0 y0 sz (cand st n k)) (cand st n) 808 (n * n).toNat).2
def bestm (c p f1 f2 : Int → Int) (x0 y0 sz top v1 v2 : Int) (n : Nat) : Int := (mnv (fun k => cost c p f1 f2 x0 y0 sz top k v1 v2) (fun k => k) 0 n).2
/-- H S H -/
def h4 (i a b c d : Int) : Int := if i = 0 then a + b + c + d else if i = 1 then a + b - c - d else if i = 2 then a - b - c + d else a - b + c - d
def hd (s : Int → Int) (k : Int) : Int := h4 (k / 4) (h4 (k % 4) (s 0) (s 1) (s 2) (s 3)) (h4 (k % 4) (s 4) (s 5) (s 6) (s 7)) (h4 (k % 4) (s 8) (s 9) (s 10) (s 11)) (h4 (k % 4) (s 12) (s 13) (s 14) (s 15))
theorem h4_b {i a b c d m : Int} (ha : -m ≤ a ∧ a ≤ m) (hb : -m ≤ b ∧ b ≤ m) (hc : -m ≤ c ∧ c ≤ m) (he : -m ≤ d ∧ d ≤ m) : -(4 * m) ≤ h4 i a b c d ∧ h4 i a b c d ≤ 4 * m := by
  unfold h4
  repeat' split
  all_goals omega
theorem hd_b {s : Int → Int} {m : Int} (hs : ∀ j, 0 ≤ j → j < 16 → -m ≤ s j ∧ s j ≤ m) (k : Int) : -(16 * m) ≤ hd s k ∧ hd s k ≤ 16 * m := by
  unfold hd
  have q := fun a b c d (ha : 0 ≤ a ∧ a < 16) (hb : 0 ≤ b ∧ b < 16) (hc : 0 ≤ c ∧ c < 16) (he : 0 ≤ d ∧ d < 16) => h4_b (i := k % 4) (hs a ha.1 ha.2) (hs b hb.1 hb.2) (hs c hc.1 hc.2) (hs d he.1 he.2)
  have := h4_b (i := k / 4) (q 0 1 2 3 (by decide) (by decide) (by decide) (by decide)) (q 4 5 6 7 (by decide) (by decide) (by decide) (by decide)) (q 8 9 10 11 (by decide) (by decide) (by decide) (by decide)) (q 12 13 14 15 (by decide) (by decide) (by decide) (by decide))
  omega
theorem hd_congr {s t : Int → Int} (h : ∀ j, 0 ≤ j → j < 16 → s j = t j) (k : Int) : hd s k = hd t k := by
  unfold hd
  rw [h 0 (by decide) (by decide), h 1 (by decide) (by decide), h 2 (by decide) (by decide), h 3 (by decide) (by decide), h 4 (by decide) (by decide), h 5 (by decide) (by decide), h 6 (by decide) (by decide), h 7 (by decide) (by decide), h 8 (by decide) (by decide), h 9 (by decide) (by decide), h 10 (by decide) (by decide), h 11 (by decide) (by decide), h 12 (by decide) (by decide), h 13 (by decide) (by decide), h 14 (by decide) (by decide), h 15 (by decide) (by decide)]
def lev (q co : Int) : Int := if co < 0 then -((iabs co + q) / (4 * q)) else (iabs co + q) / (4 * q)
def dif (q : Int) (l : Int → Int) (k : Int) : Int := (hd (fun j => 4 * q * l j) k + 8) / 16
/-- the place of a square's pixel -/
def pl (s k : Int) : Int := 16 * cy s + cx s + ip k
theorem pl_b (s k : Int) : 0 ≤ pl s k ∧ pl s k < 256 := by unfold pl cx cy ip; omega
def tp (sl y : Int) : Int := if 1 < sl ∧ 8 ≤ y then 8 else 0
/-- where the part of a square begins, and its size -/
def X0 (z : Int → Int) (s : Int) : Int := if z s = 4 then cx s else 8 * (s / 4 % 2)
def Y0 (z : Int → Int) (s : Int) : Int := if z s = 4 then cy s else 8 * (s / 8 % 2)
def SZ (z : Int → Int) (s : Int) : Int := if z s = 4 then 4 else 8
