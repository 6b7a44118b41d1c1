/-! ===== the class writes a whole slice ===== -/
/-- hidden from the arithmetic -/
def Hid (p : Prop) : Prop := p
def SLs (S w : Nat) : Nat → Nat → Prop := fun c k => SL S w c k ∨ (c = S ∧ k = 2)
theorem slS_none {pd : Nat → Int → Int} {kd tl : Int} : ∀ i : Nat, slS pd kd tl 1 1 i = ([], (808, 808))
  | 0 => rfl
  | i + 1 => by
    unfold slS
    rw [if_neg (by unfold slo; rw [if_neg (by omega)]; decide)]
    exact slS_none i
theorem slS_succ {pd : Nat → Int → Int} {kd tl sl w i : Int} (h : 0 ≤ i) : slS pd kd tl sl w (i + 1).toNat = if slo sl i = w then ((slS pd kd tl sl w i.toNat).1 ++ evE pd kd tl (slS pd kd tl sl w i.toNat).2.1 (slS pd kd tl sl w i.toNat).2.2 i, (nl1 pd (slS pd kd tl sl w i.toNat).2.1 i, nl2 pd (slS pd kd tl sl w i.toNat).2.2 i)) else slS pd kd tl sl w i.toNat := by
  obtain ⟨n, rfl⟩ : ∃ n : Nat, i = n := ⟨i.toNat, by omega⟩
  rw [show ((n : Int) + 1).toNat = n + 1 by omega, show ((n : Int)).toNat = n by omega]
  rfl
theorem okr_7_2 (w : Nat) : am_okV (am_ft 7 2) (am_rv (some w)) = true := rfl
theorem wSlice_ok {h : am_H} {S D w : Nat} {pd : Nat → Int → Int} {kd tl sl x2 : Int} (S0 : 0 < S) (k7 : K7 h S) (rw0 : RW h) (p : Pw h D pd kd tl sl) (nD : S + 7 < D ∨ D + 8 < S) (ht : 0 ≤ tl ∧ tl ≤ 7) (hsl : sl = 1 ∨ sl = 2) (hb : ∀ s, 0 ≤ s → s < 16 → pdB pd s) (hw : x2 = 0 ∧ w = S + 1 ∨ x2 = 1 ∧ w = S + 4) : ∃ h', rn m_X8_writeSlice 0 [.ref S, .ref D, .int (mI x2), am_J, am_J, am_J] [] h = some (.inl none, h') ∧ Md (SLs S w) h h' ∧ (x2 < sl → fZ h' w 2 = ((runA A0 (slS pd kd tl sl x2 16).1).2.2.2 + 4 : Nat) ∧ Dig (gZ h' (w + 2)) ((runA A0 (slS pd kd tl sl x2 16).1).2.2.2 + 4) (runA A0 (slS pd kd tl sl x2 16).1).2.1) ∧ (¬ x2 < sl → fZ h' w 2 = 0) := by
  have hw' : w = S + 1 ∨ w = S + 4 := by omega
  have hx : x2 = 0 ∨ x2 = 1 := by omega
  have st := b_X8_writeSlice_0 (a0 := S) (a1 := D) (x2 := x2) (h := h) (wr_id (by omega) (by omega)) k7
  have ev : (((100 * (0 + 8)) + 0) + 8 : Int) = 808 := rfl
  rw [ev] at st
  have st0 : rn m_X8_writeSlice 0 [.ref S, .ref D, .int (mI x2), am_J, am_J, am_J] [] h = cl m_X8_writeSlice 39 [.ref S, .ref D, .int (mI x2), .int (mI 808), .int (mI 808), am_J] [] (rn m_X10_start 0 [.ref w] [] (uF 7 h S 2 (.ref w))) := by
    rcases hw with ⟨e1, e2⟩ | ⟨e1, e2⟩
    · rw [if_neg (by omega)] at st
      rw [st, e2]
    · rw [if_pos (by omega)] at st
      rw [st, e2]
  have mA : Md (fun c k => c = S ∧ k = 2) h (uF 7 h S 2 (.ref w)) := Md_uF (Sm_uF_7_2 _ _ _)
  have kA := K7_sm mA.1 k7
  have k8 : K8 (uF 7 h S 2 (.ref w)) w := by
    rcases hw' with e | e
    · have := K7_k0 kA
      rw [← e] at this
      exact this
    · have := K7_k1 kA
      rw [← e] at this
      exact this
  have eA : fA (uF 7 h S 2 (.ref w)) S 2 = some w := fA_uF_eq (c := 7) (r := some w) (K7_s k7) (okr_7_2 w)
  have rA : RW (uF 7 h S 2 (.ref w)) := ⟨(md_gn mA _).trans rw0.1, (md_sh mA _).trans rw0.2.1, fun k k0 k1 => (md_gZ mA (by omega) k).trans (rw0.2.2 k k0 k1)⟩
  have pA : Pw (uF 7 h S 2 (.ref w)) D pd kd tl sl := Pw_md mA (fun k hk => by omega) (fun k hk => by omega) p
  have hwH : Hid (w = S + 1 ∨ w = S + 4) := hw'
  have nDH : Hid (S + 7 < D ∨ D + 8 < S) := nD
  have hxH : Hid (x2 = 0 ∨ x2 = 1) := hx
  have slH : Hid (sl = 1 ∨ sl = 2) := hsl
  have htH : Hid (0 ≤ tl ∧ tl ≤ 7) := ht
  have wx : wr x2 = x2 := wr_id (by omega) (by omega)
  have fin1 : ¬ x2 < sl → sl = 1 ∧ x2 = 1 := fun g => by omega
  have sA : WSt (uF 7 h S 2 (.ref w)) S w := ⟨S0, kA, eA, hw', rA⟩
  clear st hw hw' nD hx hsl ht
  generalize uF 7 h S 2 (.ref w) = hA at *
  obtain ⟨h1, e1, m1, q1⟩ := start_ok k8
  rw [e1, cl_n, b_X8_writeSlice_39] at st0
  have s1 := WSt_md m1 sA
  have p1 := Pw_SW hwH nDH m1 pA
  have m1' : Md (SL S w) hA h1 := Md_mono m1 fun c k q => Or.inl q
  have e0 : (slS pd kd tl sl x2 0).2 = (808, 808) := rfl
  have e0' : (slS pd kd tl sl x2 0).1 = [] := rfl
  have eA0 : runA A0 [] = A0 := rfl
  have q1' : WR h1 w (runA A0 (slS pd kd tl sl x2 0).1) (slS pd kd tl sl x2 0).1.length := by
    rw [e0', eA0]
    exact q1
  rw [st0]
  refine lp (m := m_X8_writeSlice) (pc := 42) (L := fun i (u : Int × Int) => [.ref S, .ref D, .int (mI x2), .int (mI u.1), .int (mI u.2), .int (mI i)]) (N := 16) (P := fun r => ∃ h', r = some (.inl none, h') ∧ Md (SLs S w) h h' ∧ (x2 < sl → fZ h' w 2 = ((runA A0 (slS pd kd tl sl x2 16).1).2.2.2 + 4 : Nat) ∧ Dig (gZ h' (w + 2)) ((runA A0 (slS pd kd tl sl x2 16).1).2.2.2 + 4) (runA A0 (slS pd kd tl sl x2 16).1).2.1) ∧ (¬ x2 < sl → fZ h' w 2 = 0)) (fun i u h' => 0 ≤ i ∧ Md (SL S w) hA h' ∧ WR h' w (runA A0 (slS pd kd tl sl x2 i.toNat).1) (slS pd kd tl sl x2 i.toNat).1.length ∧ u = (slS pd kd tl sl x2 i.toNat).2) ?_ ?_ 0 (808, 808) h1 (by omega) ⟨by omega, m1', by rw [show (0 : Int).toNat = 0 by decide]; exact q1', by rw [show (0 : Int).toNat = 0 by decide]; exact e0.symm⟩
  · intro i u h' hi ⟨i0, md, q, eu⟩
    obtain ⟨u1, u2⟩ := u
    have sb := slS_b (kd := kd) (tl := tl) (sl := sl) (w := x2) hb i.toNat (by omega)
    rw [← eu] at sb
    have s' := WSt_sl md sA
    have p' := Pw_SL hwH nDH md pA
    have ft := slS_Ft (kd := kd) (tl := tl) (sl := sl) (w := x2) hb (i := i.toNat) (by omega)
    by_cases c : slo sl i = x2
    · obtain ⟨h2, e2, m2, q2⟩ := wSq_ok s' q p' nDH htH ⟨i0, hi⟩ (hb i i0 hi) sb.1 sb.2.1 c hxH ft
      refine ⟨(_, _), h2, e2, by omega, Md_tr md m2, ?_, ?_⟩
      · rw [slS_succ i0, if_pos c, ← eu, runA_app, List.length_append]
        exact q2
      · rw [slS_succ i0, if_pos c, ← eu]
        rfl
    · have st2 := b_X8_writeSlice_42 (a0 := S) (a1 := D) (x2 := x2) (x3 := u1) (x4 := u2) (x5 := i) (h := h') wx (wr_id (by omega) (by omega)) p'.1 s'.2.1 s'.2.2.1 q.1 (fun _ => ⟨i0, hi⟩) (fun _ _ _ _ => ⟨i0, hi⟩)
      rw [if_neg (by omega), p'.2.2.2.1, slo_eq, if_neg c, b_X8_writeSlice_182] at st2
      refine ⟨(_, _), h', st2, by omega, md, ?_, ?_⟩
      · rw [slS_succ i0, if_neg c]
        exact q
      · rw [slS_succ i0, if_neg c, ← eu]
  · intro u h' ⟨i0, md, q, eu⟩
    obtain ⟨u1, u2⟩ := u
    have s' := WSt_sl md sA
    have p' := Pw_SL hwH nDH md pA
    have st2 := b_X8_writeSlice_42 (a0 := S) (a1 := D) (x2 := x2) (x3 := u1) (x4 := u2) (x5 := 16) (h := h') wx (wr_id (by omega) (by omega)) p'.1 s'.2.1 s'.2.2.1 q.1 (fun g => absurd (by omega) g) (fun g => absurd (by omega) g)
    rw [if_pos (by omega), p'.2.2.2.1] at st2
    rw [show (16 : Int).toNat = 16 by decide] at q
    have mh : Md (SLs S w) h h' := Md_tr (Md_mono mA fun c k q => Or.inr q) (Md_mono md fun c k q => Or.inl q)
    by_cases c : x2 < sl
    · rw [if_neg (by omega)] at st2
      obtain ⟨f1, f2, f3⟩ := Ft_len (slS_end (kd := kd) (tl := tl) (sl := sl) (w := x2) hb)
      obtain ⟨h2, e2, m2, g2, d2⟩ := end_ok q f1 (by omega) (by omega)
      rw [e2, cl_n, b_X8_writeSlice_203] at st2
      exact ⟨h2, st2, Md_tr mh (Md_mono m2 fun c k q => Or.inl (Or.inl q)), fun _ => ⟨g2, d2⟩, fun g => absurd c g⟩
    · rw [if_pos (by omega), b_X8_writeSlice_203] at st2
      refine ⟨h', st2, mh, fun g => absurd g c, fun _ => ?_⟩
      obtain ⟨e1, e2⟩ := fin1 c
      subst e1
      subst e2
      rw [slS_none] at q
      have eA : (runA A0 ([] : List (Int × Bool))).2.2.2 = 0 := rfl
      have q3 := q.2.2.1
      simp only at q3
      rw [eA] at q3
      exact q3
