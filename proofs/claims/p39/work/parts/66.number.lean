/-! ===== the class writes a number ===== -/
/-- fit for further bits -/
def Ft (A : cA) (e nc np : Nat) : Prop := ∃ c p, okA A ∧ potA A c p ∧ e ≤ c + p ∧ c + nc ≤ 4228 ∧ p + np ≤ 5504
theorem Ft_len {A : cA} {e nc np : Nat} (f : Ft A e nc np) : okA A ∧ A.2.2.2 ≤ 3960 ∧ e ≤ 9732 := by
  obtain ⟨c, p, f1, f2, f3, f4, f5⟩ := f
  exact ⟨f1, len_b f1 f2 (by omega) (by omega), by omega⟩
theorem Ft_run {A : cA} {e nc np : Nat} (es : List (Int × Bool)) (f : Ft A e (nC es + nc) (nP es + np)) : Ft (runA A es) (e + es.length) nc np := by
  obtain ⟨c, p, f1, f2, f3, f4, f5⟩ := f
  have := runA_ok es f1 f2
  have l := nCP_len es
  exact ⟨c + nC es, p + nP es, this.1, this.2, by omega, by omega, by omega⟩
theorem Ft_mono {A : cA} {e nc np nc' np' : Nat} (f : Ft A e nc np) (h1 : nc' ≤ nc) (h2 : np' ≤ np) : Ft A e nc' np' := by
  obtain ⟨c, p, f1, f2, f3, f4, f5⟩ := f
  exact ⟨c, p, f1, f2, f3, by omega, by omega⟩
theorem Wr_tr {h h' h'' : am_H} {w e : Nat} {A : cA} {xs ys : List (Int × Bool)} (a : Wr h h' w A e xs) (b : Wr h' h'' w (runA A xs) (e + xs.length) ys) : Wr h h'' w A e (xs ++ ys) := by
  refine ⟨Md_tr a.1 b.1, ?_⟩
  rw [runA_app, List.length_append, ← Nat.add_assoc]
  exact b.2
theorem Wr_nil {h : am_H} {w e : Nat} {A : cA} (q : WR h w A e) : Wr h h w A e [] := ⟨Md_rf _ _, q⟩
theorem bitw {h : am_H} {w e : Nat} {A : cA} {c x1 x2 x' : Int} {b : Bool} (w1 : wr x1 = c) (w2 : wr x2 = x') (hb : x' = 0 ↔ b = false) (q : WR h w A e) (f : Ft A e 1 0) (hc : 0 ≤ c ∧ c < 70) : ∃ h', rn m_X10_bit 0 [.ref w, .int (mI x1), .int (mI x2), am_J, am_J, am_J] [] h = some (.inl none, h') ∧ Wr h h' w A e [(c, b)] := by
  obtain ⟨f1, f2, f3⟩ := Ft_len f
  obtain ⟨h', e1, m1, r1⟩ := bit_ok w1 w2 hb q f1 (by omega) (by omega) hc
  exact ⟨h', e1, m1, r1⟩
theorem plainw {h : am_H} {w e : Nat} {A : cA} {x1 x' : Int} {b : Bool} (w1 : wr x1 = x') (hb : x' = 0 ↔ b = false) (q : WR h w A e) (f : Ft A e 0 1) : ∃ h', rn m_X10_plain 0 [.ref w, .int (mI x1), am_J, am_J] [] h = some (.inl none, h') ∧ Wr h h' w A e [((-1 : Int), b)] := by
  obtain ⟨f1, f2, f3⟩ := Ft_len f
  obtain ⟨h', e1, m1, r1⟩ := plain_ok w1 hb q f1 (by omega) (by omega)
  exact ⟨h', e1, m1, r1⟩
theorem bZ_iff {p : Prop} [Decidable p] : bZ p = 0 ↔ decide p = false := by
  by_cases c : p
  · rw [bZ_t c, decide_eq_true c]; decide
  · rw [bZ_f c, decide_eq_false c]; decide
theorem Ft_cons {A : cA} {e nc np : Nat} {x : Int × Bool} {es : List (Int × Bool)} (f : Ft A e (nC (x :: es) + nc) (nP (x :: es) + np)) : Ft (runA A [x]) (e + 1) (nC es + nc) (nP es + np) := by
  refine Ft_run [x] (Ft_mono f ?_ ?_)
  · simp only [nC]; omega
  · simp only [nP]; omega
theorem numB_ok {w : Nat} {c n : Int} (hc : 0 ≤ c ∧ c + 5 < 70) (hn : 0 ≤ n ∧ n ≤ 100000) : ∀ (f : Nat) (j : Int), j + f = 12 → 0 ≤ j → j ≤ n → ∀ (h : am_H) (A : cA) (e np : Nat) (v5 v6 : Value), WR h w A e → Ft A e (nC (evB c n f j)) np → ∃ h', Wr h h' w A e (evB c n f j) ∧ (11 < n → rn m_X10_number 5 [.ref w, .int (mI c), .int (mI n), .int (mI 1), .int (mI j), v5, v6] [] h = rn m_X10_number 65 [.ref w, .int (mI c), .int (mI n), .int (mI 1), .int (mI (n - 11)), .int (mI 0), .int (mI (n - 11))] [] h') ∧ (¬ 11 < n → rn m_X10_number 5 [.ref w, .int (mI c), .int (mI n), .int (mI 1), .int (mI j), v5, v6] [] h = some (.inl none, h'))
  | 0, j, hj, j0, jn, h, A, e, np, v5, v6, q, f => by
    have st := b_X10_number_5 (a0 := w) (x1 := c) (v5 := v5) (v6 := v6) (h := h) (wr_id (z := n) (by omega) (by omega)) (wr_id (z := 1) (by omega) (by omega)) (wr_id (z := j) (by omega) (by omega)) q.1
    rw [if_pos (by omega), if_pos (by decide)] at st
    exact ⟨h, Wr_nil q, fun _ => st, fun g => absurd (by omega) g⟩
  | f + 1, j, hj, j0, jn, h, A, e, np, v5, v6, q, ft => by
    have st := b_X10_number_5 (a0 := w) (x1 := c) (v5 := v5) (v6 := v6) (h := h) (wr_id (z := n) (by omega) (by omega)) (wr_id (z := 1) (by omega) (by omega)) (wr_id (z := j) (by omega) (by omega)) q.1
    rw [if_neg (by omega), if_neg (by decide)] at st
    have eb : bZ (¬ (n ≤ j)) = bZ (j < n) := bZ_congr (by omega)
    rw [eb] at st
    have e0 : ¬ (c + min j 5 < 0) := by omega
    have ft1 : Ft A e 1 0 := Ft_mono ft (by simp only [evB, nC]; rw [if_neg e0]; omega) (by omega)
    obtain ⟨h1, e1, r1⟩ := bitw (x1 := c + min j 5) (x2 := bZ (j < n)) (b := decide (j < n)) (wr_id (by omega) (by omega)) (wr_bZ _) bZ_iff q ft1 (by omega)
    rw [e1, cl_n, b_X10_number_41] at st
    by_cases g : j < n
    · have ih := numB_ok hc hn f (j + 1) (by omega) (by omega) (by omega) h1 (runA A [(c + min j 5, decide (j < n))]) (e + 1) np v5 v6 r1.2 (by
        refine Ft_run [_] (Ft_mono ft ?_ ?_)
        · simp only [evB, nC, if_pos g]; rw [if_neg e0]; omega
        · simp only [nP]; rw [if_neg e0]; omega)
      obtain ⟨h2, r2, a2, b2⟩ := ih
      rw [bZ_t g] at st
      refine ⟨h2, ?_, fun g2 => st.trans (a2 g2), fun g2 => st.trans (b2 g2)⟩
      simp only [evB, if_pos g]
      exact Wr_tr r1 r2
    · rw [bZ_f g] at st
      have st2 := b_X10_number_5 (a0 := w) (x1 := c) (x3 := 0) (x4 := j + 1) (v5 := v5) (v6 := v6) (h := h1) (wr_id (z := n) (by omega) (by omega)) (wr_id (z := 0) (by omega) (by omega)) (wr_id (z := j + 1) (by omega) (by omega)) r1.2.1
      have st3 : rn m_X10_number 5 [.ref w, .int (mI c), .int (mI n), .int (mI 0), .int (mI (j + 1)), v5, v6] [] h1 = some (.inl none, h1) := by
        rw [st2]
        by_cases g2 : 11 < j + 1
        · rw [if_pos g2, if_neg (by decide)]
        · rw [if_neg g2, if_pos rfl, if_neg (by decide)]
      refine ⟨h1, ?_, fun g2 => absurd g2 (by omega), fun _ => st.trans st3⟩
      simp only [evB, if_neg g]
      exact r1
theorem ediv2 (m : Int) (i : Nat) : m / 2 ^ i / 2 = m / 2 ^ (i + 1) := by
  rw [Int.ediv_ediv_of_nonneg (Int.le_of_lt (Int.pow_pos (by decide))), ← Int.pow_succ]
theorem pw_b {m : Int} (hm : 0 ≤ m) (i : Nat) : 0 ≤ m / 2 ^ i ∧ m / 2 ^ i ≤ m := ⟨Int.ediv_nonneg hm (Int.le_of_lt (Int.pow_pos (by decide))), Int.ediv_le_self _ hm⟩
theorem numD_ok {w : Nat} {m : Int} {v1 v2 v3 : Value} (hm : 1 ≤ m ∧ m ≤ 100000) : ∀ (t : Nat), t < 32 → ∀ (h : am_H) (A : cA) (e nc : Nat) (v5 : Value), WR h w A e → Ft A e nc t → ∃ h', rn m_X10_number 99 [.ref w, v1, v2, v3, .int (mI m), v5, .int (mI ((t : Int) - 1))] [] h = some (.inl none, h') ∧ Wr h h' w A e (evD m t)
  | 0, _, h, A, e, nc, v5, q, ft => by
    have st := b_X10_number_99 (a0 := w) (k_109 := 0) (v1 := v1) (v2 := v2) (v3 := v3) (v5 := v5) (h := h) (wr_id (z := m) (by omega) (by omega)) (wr_id (z := ((0 : Nat) : Int) - 1) (by omega) (by omega)) (fun g => absurd (by omega) g) (fun _ => by decide) q.1
    rw [if_pos (by omega)] at st
    exact ⟨h, st, Wr_nil q⟩
  | t + 1, ht, h, A, e, nc, v5, q, ft => by
    have st := b_X10_number_99 (a0 := w) (k_109 := t) (v1 := v1) (v2 := v2) (v3 := v3) (v5 := v5) (h := h) (wr_id (z := m) (by omega) (by omega)) (wr_id (z := ((t + 1 : Nat) : Int) - 1) (by omega) (by omega)) (fun g => by omega) (fun _ => by omega) q.1
    have pb := pw_b (m := m) (by omega) t
    have eb : bZ (¬ (((wr (m / 2 ^ t)) % 2 ^ 1) = 0)) = bZ (m / 2 ^ t % 2 = 1) := bZ_congr (by rw [wr_id (by omega) (by omega), pw1]; omega)
    rw [if_neg (by omega), eb] at st
    obtain ⟨h1, e1, r1⟩ := plainw (x1 := bZ (m / 2 ^ t % 2 = 1)) (b := decide (m / 2 ^ t % 2 = 1)) (wr_bZ _) bZ_iff q (Ft_mono ft (by omega) (by omega))
    rw [e1, cl_n, b_X10_number_123, show ((t + 1 : Nat) : Int) - 1 + -1 = (t : Int) - 1 by omega] at st
    obtain ⟨h2, e2, r2⟩ := numD_ok hm t (by omega) h1 (runA A [(-1, decide (m / 2 ^ t % 2 = 1))]) (e + 1) nc (am_k1 v5) r1.2 (Ft_run [_] (Ft_mono ft (by simp only [nC]; rw [if_pos (by decide)]; omega) (by simp only [nP]; rw [if_pos (by decide)]; omega)))
    exact ⟨h2, st.trans e2, Wr_tr r1 r2⟩
theorem numR_ok {w : Nat} {m : Int} {v1 v2 v3 : Value} (hm : 1 ≤ m ∧ m ≤ 100000) (ht : hl m < 32) : ∀ (k i : Nat), i + k = hl m → ∀ (h : am_H) (A : cA) (e nc : Nat), WR h w A e → Ft A e nc (k + 1 + hl m) → ∃ h', rn m_X10_number 65 [.ref w, v1, v2, v3, .int (mI m), .int (mI (i : Int)), .int (mI (m / 2 ^ i))] [] h = some (.inl none, h') ∧ Wr h h' w A e (List.replicate k (-1, true) ++ ((-1, false) :: evD m (hl m)))
  | 0, i, hi, h, A, e, nc, q, ft => by
    have pb := pw_b (m := m) (by omega) i
    have st := b_X10_number_65 (a0 := w) (v1 := v1) (v2 := v2) (v3 := v3) (x4 := m) (x5 := (i : Int)) (h := h) (wr_id (z := m / 2 ^ i) (by omega) (by omega)) q.1
    have := hl_ok hm.1 i
    rw [if_pos (by omega)] at st
    obtain ⟨h1, e1, r1⟩ := plainw (x1 := 0) (x' := 0) (b := false) (wr_id (by omega) (by omega)) (by decide) q (Ft_mono ft (by omega) (by omega))
    rw [e1, cl_n, b_X10_number_93, show i = hl m by omega] at st
    obtain ⟨h2, e2, r2⟩ := numD_ok (v1 := v1) (v2 := v2) (v3 := v3) hm (hl m) ht h1 (runA A [(-1, false)]) (e + 1) nc _ r1.2 (Ft_run [_] (Ft_mono ft (by simp only [nC]; rw [if_pos (by decide)]; omega) (by simp only [nP]; rw [if_pos (by decide)]; omega)))
    have r3 : Wr h h2 w A e ([(-1, false)] ++ evD m (hl m)) := Wr_tr r1 r2
    refine ⟨h2, ?_, r3⟩
    rw [show i = hl m by omega]
    exact st.trans e2
  | k + 1, i, hi, h, A, e, nc, q, ft => by
    have pb := pw_b (m := m) (by omega) i
    have st := b_X10_number_65 (a0 := w) (v1 := v1) (v2 := v2) (v3 := v3) (x4 := m) (x5 := (i : Int)) (h := h) (wr_id (z := m / 2 ^ i) (by omega) (by omega)) q.1
    have := hl_ok hm.1 i
    rw [if_neg (by omega)] at st
    obtain ⟨h1, e1, r1⟩ := plainw (x1 := 1) (x' := 1) (b := true) (wr_id (by omega) (by omega)) (by decide) q (Ft_mono ft (by omega) (by omega))
    rw [e1, cl_n, b_X10_number_76 (wr_id (z := m / 2 ^ i) (by omega) (by omega)), tdv (by omega), ediv2, show (i : Int) + 1 = ((i + 1 : Nat) : Int) by omega] at st
    obtain ⟨h2, e2, r2⟩ := numR_ok (v1 := v1) (v2 := v2) (v3 := v3) hm ht k (i + 1) (by omega) h1 (runA A [(-1, true)]) (e + 1) nc r1.2 (Ft_run [_] (Ft_mono ft (by simp only [nC]; rw [if_pos (by decide)]; omega) (by simp only [nP]; rw [if_pos (by decide)]; omega)))
    refine ⟨h2, st.trans e2, ?_⟩
    have r3 : Wr h h2 w A e ([(-1, true)] ++ (List.replicate k (-1, true) ++ ((-1, false) :: evD m (hl m)))) := Wr_tr r1 r2
    rw [List.replicate_succ]
    exact r3
theorem number_ok {h : am_H} {w e : Nat} {A : cA} {c n : Int} (q : WR h w A e) (f : Ft A e (nC (evN c n)) (nP (evN c n))) (hc : 0 ≤ c ∧ c + 5 < 70) (hn : 0 ≤ n ∧ n ≤ 100000) : ∃ h', rn m_X10_number 0 [.ref w, .int (mI c), .int (mI n), am_J, am_J, am_J, am_J] [] h = some (.inl none, h') ∧ Wr h h' w A e (evN c n) := by
  unfold evN at *
  rw [nC_app, nP_app] at f
  obtain ⟨h1, r1, a1, b1⟩ := numB_ok hc hn 12 0 (by omega) (by omega) (by omega) h A e (nP (evB c n 12 0) + nP (if 11 < n then evR (n - 11) else [])) am_J am_J q (Ft_mono f (by omega) (by omega))
  rw [b_X10_number_0]
  by_cases g : 11 < n
  · rw [if_pos g] at f ⊢
    have p17 : (2 : Int) ^ (16 + 1) = 131072 := by decide
    have hb : hl (n - 11) ≤ 16 := hl_b (by omega) (by omega)
    have cR := nC_evR (n - 11)
    have f1 := Ft_run (evB c n 12 0) f
    obtain ⟨h2, e2, r2⟩ := numR_ok (v1 := .int (mI c)) (v2 := .int (mI n)) (v3 := .int (mI 1)) (m := n - 11) (by omega) (by omega) (hl (n - 11)) 0 (by omega) h1 _ _ _ r1.2 (Ft_mono f1 (Nat.le_refl _) (by omega))
    have e3 := a1 g
    have p0 : (n - 11) / 2 ^ 0 = n - 11 := by rw [Int.pow_zero, Int.ediv_one]
    rw [p0] at e2
    exact ⟨h2, e3.trans e2, Wr_tr r1 r2⟩
  · rw [if_neg g]
    rw [List.append_nil]
    exact ⟨h1, b1 g, r1⟩
