/-! ===== the arithmetic coder, in whole numbers ===== -/
abbrev cA : Type := (Int → Int) × (Int × (Int × Nat))
def nrmA (ch : Int → Int) (L w : Int) (n : Nat) : cA := if w < 16777216 then (ch, L * 256, w * 256, n + 1) else (ch, L, w, n)
def setA (ch : Int → Int) (i v : Int) : Int → Int := fun j => if j = i then v else ch j
def bdA (A : cA) (c : Int) : Int := A.2.2.1 / 2048 * A.1 c
def stA (A : cA) (e : Int × Bool) : cA :=
  if e.1 < 0 then nrmA A.1 (A.2.1 + (if e.2 = true then A.2.2.1 / 2 else 0)) (A.2.2.1 / 2) A.2.2.2
  else if e.2 = true then nrmA (setA A.1 e.1 (A.1 e.1 - A.1 e.1 / 32)) (A.2.1 + bdA A e.1) (A.2.2.1 - bdA A e.1) A.2.2.2
  else nrmA (setA A.1 e.1 (A.1 e.1 + (2048 - A.1 e.1) / 32)) A.2.1 (bdA A e.1) A.2.2.2
def A0 : cA := (fun _ => 1024, 0, 4294967295, 0)
def runA (A : cA) (es : List (Int × Bool)) : cA := es.foldl stA A
theorem runA_app (A : cA) (xs ys : List (Int × Bool)) : runA A (xs ++ ys) = runA (runA A xs) ys := List.foldl_append ..
theorem runA_one (A : cA) (e : Int × Bool) : runA A [e] = stA A e := rfl
def okA (A : cA) : Prop := (∀ i, 31 ≤ A.1 i ∧ A.1 i ≤ 2017) ∧ (16777216 ≤ A.2.2.1 ∧ A.2.2.1 ≤ 4294967295) ∧ 0 ≤ A.2.1 ∧ A.2.1 + A.2.2.1 ≤ 4294967296 * 256 ^ A.2.2.2
theorem okA_0 : okA A0 := ⟨fun _ => ⟨show (31 : Int) ≤ 1024 by decide, show (1024 : Int) ≤ 2017 by decide⟩, by unfold A0; decide, by unfold A0; decide, by unfold A0; decide⟩
theorem bdA_b {A : cA} (h : okA A) (c : Int) : 253952 ≤ bdA A c ∧ bdA A c ≤ A.2.2.1 - 253952 ∧ A.2.2.1 ≤ 70 * bdA A c ∧ A.2.2.1 ≤ 70 * (A.2.2.1 - bdA A c) := by
  obtain ⟨h1, ⟨h2, h3⟩, -⟩ := h
  have hc := h1 c
  unfold bdA
  generalize A.2.2.1 = w at *
  generalize A.1 c = x at *
  have h5 : 8192 ≤ w / 2048 := by omega
  have h6 : w / 2048 * 31 ≤ w / 2048 * x := Int.mul_le_mul_of_nonneg_left hc.1 (by omega)
  have h7 : w / 2048 * x ≤ w / 2048 * 2017 := Int.mul_le_mul_of_nonneg_left hc.2 (by omega)
  omega
theorem nrm_ok {ch : Int → Int} {L w : Int} {n : Nat} (hc : ∀ i, 31 ≤ ch i ∧ ch i ≤ 2017) (hw : 65536 ≤ w ∧ w ≤ 4294967295) (hL : 0 ≤ L) (hs : L + w ≤ 4294967296 * 256 ^ n) : okA (nrmA ch L w n) := by
  unfold nrmA
  split
  · refine ⟨hc, by simp only; omega, by simp only; omega, ?_⟩
    simp only [Int.pow_succ]
    omega
  · exact ⟨hc, by simp only; omega, hL, hs⟩
theorem okA_st {A : cA} (h : okA A) (e : Int × Bool) : okA (stA A e) := by
  have b := bdA_b h e.1
  obtain ⟨h1, ⟨h2, h3⟩, h4, h5⟩ := h
  have hc := h1 e.1
  unfold stA
  split
  · refine nrm_ok h1 (by omega) ?_ ?_
    · split <;> omega
    · split <;> omega
  · split
    · refine nrm_ok (fun i => ?_) (by omega) (by omega) (by omega)
      unfold setA
      split
      · omega
      · exact h1 i
    · refine nrm_ok (fun i => ?_) (by omega) h4 (by omega)
      unfold setA
      split
      · omega
      · exact h1 i
/-- how long the row can be, by the number of bits in contexts and of plain ones -/
def potA (A : cA) (c p : Nat) : Prop := 256 ^ A.2.2.2 * 100 ^ p ≤ A.2.2.1.toNat * (70 ^ c * 201 ^ p)
theorem potA_0 : potA A0 0 0 := by unfold potA A0; decide
theorem nrm_pot {ch : Int → Int} {L w : Int} {n : Nat} {Y K : Nat} (hw : 0 ≤ w) (h : 256 ^ n * Y ≤ w.toNat * K) : 256 ^ (nrmA ch L w n).2.2.2 * Y ≤ (nrmA ch L w n).2.2.1.toNat * K := by
  unfold nrmA
  split
  · simp only [Nat.pow_succ]
    have e : (w * 256).toNat = w.toNat * 256 := by omega
    rw [e]
    have e2 : 256 ^ n * 256 * Y = 256 ^ n * Y * 256 := by rw [Nat.mul_assoc, Nat.mul_comm 256 Y, Nat.mul_assoc]
    have e3 : w.toNat * 256 * K = w.toNat * K * 256 := by rw [Nat.mul_assoc, Nat.mul_comm 256 K, Nat.mul_assoc]
    rw [e2, e3]
    exact Nat.mul_le_mul_right _ h
  · exact h
theorem pot_c {X w w' K : Nat} (h : X ≤ w * K) (q : w ≤ 70 * w') : X ≤ w' * (70 * K) := by
  refine Nat.le_trans h ?_
  have := Nat.mul_le_mul_right K q
  have e : w' * (70 * K) = 70 * w' * K := by rw [← Nat.mul_assoc, Nat.mul_comm w' 70]
  rw [e]
  exact this
theorem pot_p {X w w' K : Nat} (h : X ≤ w * K) (q : 100 * w ≤ 201 * w') : X * 100 ≤ w' * (201 * K) := by
  have h1 := Nat.mul_le_mul_right 100 h
  have h2 := Nat.mul_le_mul_right K q
  have e : w' * (201 * K) = 201 * w' * K := by rw [← Nat.mul_assoc, Nat.mul_comm w' 201]
  have e2 : w * K * 100 = 100 * w * K := by rw [Nat.mul_comm, ← Nat.mul_assoc]
  rw [e]
  rw [e2] at h1
  exact Nat.le_trans h1 h2
theorem potA_c {A : cA} {c p : Nat} (h : okA A) (e : Int × Bool) (he : ¬ e.1 < 0) (q : potA A c p) : potA (stA A e) (c + 1) p := by
  have b := bdA_b h e.1
  unfold stA
  rw [if_neg he]
  unfold potA at *
  rw [Nat.pow_succ, Nat.mul_comm (70 ^ c) 70, Nat.mul_assoc]
  split
  · exact nrm_pot (by omega) (pot_c q (by omega))
  · exact nrm_pot (by omega) (pot_c q (by omega))
theorem potA_p {A : cA} {c p : Nat} (h : okA A) (e : Int × Bool) (he : e.1 < 0) (q : potA A c p) : potA (stA A e) c (p + 1) := by
  obtain ⟨h1, ⟨h2, h3⟩, h4, h5⟩ := h
  unfold stA
  rw [if_pos he]
  unfold potA at *
  have e1 : 70 ^ c * 201 ^ (p + 1) = 201 * (70 ^ c * 201 ^ p) := by rw [Nat.pow_succ, ← Nat.mul_assoc, Nat.mul_comm _ 201]
  rw [e1]
  refine nrm_pot (by omega) ?_
  rw [Nat.pow_succ, ← Nat.mul_assoc]
  exact pot_p q (by omega)
def nC : List (Int × Bool) → Nat
  | [] => 0
  | e :: es => (if e.1 < 0 then 0 else 1) + nC es
def nP : List (Int × Bool) → Nat
  | [] => 0
  | e :: es => (if e.1 < 0 then 1 else 0) + nP es
theorem nC_app (xs ys : List (Int × Bool)) : nC (xs ++ ys) = nC xs + nC ys := by
  induction xs with
  | nil => simp only [List.nil_append, nC, Nat.zero_add]
  | cons e xs ih => simp only [List.cons_append, nC, ih, Nat.add_assoc]
theorem nP_app (xs ys : List (Int × Bool)) : nP (xs ++ ys) = nP xs + nP ys := by
  induction xs with
  | nil => simp only [List.nil_append, nP, Nat.zero_add]
  | cons e xs ih => simp only [List.cons_append, nP, ih, Nat.add_assoc]
theorem runA_ok : ∀ (es : List (Int × Bool)) {A : cA} {c p : Nat}, okA A → potA A c p → okA (runA A es) ∧ potA (runA A es) (c + nC es) (p + nP es)
  | [], A, c, p, h, q => ⟨h, q⟩
  | e :: es, A, c, p, h, q => by
    have h1 := okA_st h e
    by_cases he : e.1 < 0
    · have := runA_ok es h1 (potA_p h e he q)
      simp only [nC, nP, if_pos he]
      rw [show c + (0 + nC es) = c + nC es by omega, show p + (1 + nP es) = p + 1 + nP es by omega]
      exact this
    · have := runA_ok es h1 (potA_c h e he q)
      simp only [nC, nP, if_neg he]
      rw [show c + (1 + nC es) = c + 1 + nC es by omega, show p + (0 + nP es) = p + nP es by omega]
      exact this
theorem mul4 {N a b x y : Nat} : N * (a * b) * (x * y) = N * ((a * x) * (b * y)) := by ac_rfl
theorem big_no : ¬ 256 ^ 3961 * 100 ^ 5504 ≤ 4294967296 * (70 ^ 4228 * 201 ^ 5504) := by decide +kernel
theorem len_b {A : cA} {c p : Nat} (h : okA A) (q : potA A c p) (hc : c ≤ 4228) (hp : p ≤ 5504) : A.2.2.2 ≤ 3960 := by
  rcases Nat.lt_or_ge 3960 A.2.2.2 with g | g
  · exfalso
    apply big_no
    unfold potA at q
    have hw : A.2.2.1.toNat ≤ 4294967296 := by have := h.2.1; omega
    have q1 : 256 ^ 3961 * 100 ^ p ≤ 4294967296 * (70 ^ c * 201 ^ p) := Nat.le_trans (Nat.mul_le_mul_right _ (Nat.pow_le_pow_right (by decide) g)) (Nat.le_trans q (Nat.mul_le_mul_right _ hw))
    obtain ⟨k, hk⟩ := Nat.le.dest hc
    obtain ⟨j, hj⟩ := Nat.le.dest hp
    have h1 : 100 ^ j ≤ 70 ^ k * 201 ^ j := Nat.le_trans (Nat.pow_le_pow_left (by decide) j) (Nat.le_mul_of_pos_left _ (Nat.pow_pos (by decide)))
    have h2 := Nat.mul_le_mul q1 h1
    rw [mul4, Nat.mul_assoc, ← Nat.pow_add, ← Nat.pow_add, ← Nat.pow_add, hk, hj] at h2
    exact h2
  · exact g
