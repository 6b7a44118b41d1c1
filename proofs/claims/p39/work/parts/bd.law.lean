/-! ===== the law: its end, all of it ===== -/
section LE
variable {σ : St} {h : am_H} {D n : Nat} {xs : Int → Int}
/-- where the second object's cells lie -/
def mvH (s : Nat) : Nat → Nat := fun a => if a = 0 then 0 else a + s
/-- a heap that holds only the class's own row -/
def vH (h : am_H) : am_H := (2, hcl h, hsl h, fun a => if a = 0 then hget h 0 else none)
theorem RW_cell (r : RW h) (c : ∃ c, hget h 0 = some c) : ∃ (t k : Nat) (f : Int → Int32), hget h 0 = some (.inl (t, k, .inl f)) := by
  obtain ⟨c, e⟩ := c
  have s := r.2.1
  unfold sh at s
  rw [e] at s
  match c, s, e with
  | .inl (t, k, .inl f), _, e => exact ⟨t, k, f, e⟩
  | .inl (t, k, .inr (.inl f)), s, _ => exact absurd (show (c_sh (.inl (t, k, .inr (.inl f)))).1 = 1 from congrArg Prod.fst s) (by simp only [c_sh]; split <;> simp)
  | .inl (t, k, .inr (.inr (.inl f))), s, _ => exact absurd (show (c_sh (.inl (t, k, .inr (.inr (.inl f))))).1 = 1 from congrArg Prod.fst s) (by simp only [c_sh]; split <;> simp)
  | .inl (t, k, .inr (.inr (.inr f))), s, _ => exact absurd (show (c_sh (.inl (t, k, .inr (.inr (.inr f))))).1 = 1 from congrArg Prod.fst s) (by simp only [c_sh]; split <;> simp)
  | .inr (ci, fs), s, _ => exact absurd (show (c_sh (.inr (ci, fs))).1 = 1 from congrArg Prod.fst s) (by simp only [c_sh]; split <;> simp)
theorem vH_rl (hn : 2 ≤ hnx h) (r : RW h) (c : ∃ c, hget h 0 = some c) : Rl (mvH (hnx h - 2)) (vH h) h := by
  obtain ⟨t, k, f, e⟩ := RW_cell r c
  have g0 : ∀ a d, hget (vH h) a = some d → a = 0 ∧ hget h 0 = some d := fun a d q => by
    have q2 : (if a = 0 then hget h 0 else none) = some d := q
    by_cases z : a = 0
    · rw [if_pos z] at q2
      exact ⟨z, q2⟩
    · rw [if_neg z] at q2
      cases q2
  refine ⟨rfl, fun i => ?_, ⟨rfl, rfl⟩, fun a d q => ?_, fun a b d d' q q' _ => ?_⟩
  · show (if 2 + i = 0 then 0 else 2 + i + (hnx h - 2)) = hnx h + i
    rw [if_neg (by omega)]
    omega
  · obtain ⟨rfl, q2⟩ := g0 a d q
    refine ⟨(by decide : 0 < 2), (show 0 < hnx h by omega), ?_⟩
    show hget h 0 = _
    rw [q2]
    rw [e] at q2
    cases q2
    rfl
  · rw [(g0 a d q).1, (g0 b d' q').1]
theorem vH_RW (r : RW h) : RW (vH h) := ⟨r.1, r.2.1, r.2.2⟩
/-- a picture of one value, on any heap -/
theorem flat_any (hn : 2 ≤ hnx h) (r : RW h) (c : ∃ c, hget h 0 = some c) {v q t : Int} (hv : 0 ≤ v ∧ v ≤ 255) (hq : 1 ≤ q ∧ q ≤ 40) (ht : 0 ≤ t ∧ t ≤ 7) : ∃ h', rn m_L_flatIsGood 0 [.int (mI v), .int (mI q), .int (mI t), am_J, am_J, am_J, am_J] [] h = some (.inl (some (.int (mI 1))), h') ∧ hcl h' ≤ hcl h + 72 ∧ hsl h' ≤ hsl h + 40000 := by
  obtain ⟨g, e, c1, c2⟩ := flat_ok (h := vH h) rfl (vH_RW r) hv hq ht
  obtain ⟨g', e', R'⟩ := ro_rn (vH_rl hn r c) e
  refine ⟨g', e', ?_, ?_⟩
  · rw [R'.2.2.1.1]
    exact c1
  · rw [R'.2.2.1.2]
    exact c2
theorem RW_has (j : JL σ h D n xs) : ∃ c, hget h 0 = some c := by
  have s := j.1.1.2.2.2.2.2.2.2.2.1
  unfold sh at s
  match e : hget h 0 with
  | none =>
    rw [e] at s
    exact absurd (congrArg Prod.fst s) (by decide)
  | some c => exact ⟨c, rfl⟩
/-- behind the steps -/
theorem law_end (j : JL σ h D n xs) (hn : n ≤ 300) (v3 z1 v6 v7 v8 v9 v10 : Value) : ∃ h', rn m_L_law 286 [.ref 1, .ref 2, .ref 51, v3, .int (mI (tz σ 7)), z1, v6, v7, v8, v9, v10] [.ref (hnx h)] (aI 0 7 h) = some (.inl (some (.int (mI 1))), h') ∧ hcl h' ≤ hcl h + 300 ∧ hsl h' ≤ hsl h + 50000 := by
  have b7 := j.1.2.1.2.1.1
  have w7 : wr (tz σ 7) = tz σ 7 := wr_id (by omega) (by omega)
  obtain ⟨g, u8, u9, u10, e1, i⟩ := md_all j v3 z1 v6 v7 v8 v9 v10
  obtain ⟨-, -, F1⟩ := MI_JL j i
  obtain ⟨g2, t5, t6, t8, t9, t10, e2, j2, F2⟩ := md_best j v3 u8 u9 u10 i
  obtain ⟨g3, e3, j3, F3⟩ := refuse_paint j2 (tz σ 7) v3 t5 t6 t8 t9 t10
  have wb : wr (-2147000002) = -2147000002 := wr_id (by decide) (by decide)
  obtain ⟨e4, j4⟩ := refuse_ask j3 v3 t5 t6 (.int (mI (-2147000002))) t8 t9 t10
  have c4 := hx_n g3 21
  have e793 : rn m_L_law 793 [.ref 1, .ref 2, .ref 51, v3, .int (mI (tz σ 7)), t5, t6, .int (mI (-2147000002)), t8, t9, t10] [.int (mI (-2147000002))] g3 = rn m_L_law 803 [.ref 1, .ref 2, .ref 51, v3, .int (mI (tz σ 7)), t5, t6, .int (mI (-2147000002)), t8, t9, t10] [.int (mI 1)] g3 := by
    rw [b_L_law_793 wb wb, if_neg (fun z => z rfl), like_ok j3.1 j3.2.2.1, cl_v]
  obtain ⟨u, wu, eu⟩ := at_ok (k := 42) j4.2.1 hn (by decide)
  obtain ⟨v, hv, ev⟩ := some_ok (N := 1000000) (h := hx g3 21) wu (by decide)
  have wv : wr v = v := wr_id (by omega) (by omega)
  obtain ⟨a1, a2, al⟩ := RC_al j4.1.1
  obtain ⟨h', e5, c5, s5⟩ := flat_any (by omega) j4.1.1.2.2.2.2.2.2.2 (RW_has j4) (v := v % 256) (q := 1 + v / 256 % 40) (t := v / 10240 % 8) (by omega) (by omega) (by omega)
  have f8 : fZ (hx g3 21) 2 8 = tz σ 7 := j4.1.1.2.2.2.1.2.2.1
  refine ⟨h', ?_, ?_, ?_⟩
  · rw [e1, e2, e3, e793, e4, eu, cl_v, b_L_law_1103, ev, cl_v, b_L_law_1108 w7 wv j4.1.1.1]
    rw [f8, if_neg (fun z => z rfl), tmd hv.1, tdv hv.1, tdv hv.1, wr_id (z := v / 256) (by omega) (by omega), wr_id (z := v / 10240) (by omega) (by omega), tmd (x := v / 256) (by omega), tmd (x := v / 10240) (by omega), e5, cl_v, b_L_law_1148 w_1]
    rfl
  · have f1 := F1.1.2.1
    have f2 := F2.1.2.1
    have f3 := F3.1.2.1
    omega
  · have f1 := F1.1.2.2.1
    have f2 := F2.1.2.2.1
    have f3 := F3.1.2.2.1
    omega
/-- the law's run -/
theorem law_run (hh : hnx h = 2) (hc : hcl h = 0) (hs : hsl h = 0) (rw0 : RW h) (sr : SR h n xs) (hn : n ≤ 260) : ∃ h', rn m_L_law 0 [.ref 1, am_J, am_J, am_J, am_J, am_J, am_J, am_J, am_J, am_J, am_J] [] h = some (.inl (some (.int 1)), h') ∧ hcl h' ≤ 600258 ∧ hsl h' ≤ 7294890 := by
  obtain ⟨h1, z, e1, hz, j1, c1, s1⟩ := law_start hh rw0 sr (by omega)
  have t7 : tz s0 7 = 0 := rfl
  obtain ⟨σ', D', h2, u6, u7, u8, u9, u10, e2, j2, c2, s2⟩ := law_steps (by omega) (z := z) (by omega) z.toNat 0 s0 h1 7 am_J am_J am_J am_J am_J (by omega) j1 (by omega) (by omega)
  obtain ⟨h3, e3, c3, s3⟩ := law_end j2 (by omega) (.int (mI z)) (.int (mI z)) u6 u7 u8 u9 u10
  refine ⟨h3, ?_, by omega, by omega⟩
  rw [e1]
  have e2' := e2
  rw [t7] at e2'
  refine e2'.trans ?_
  rw [b_L_law_143 (wr_id (z := z) (by omega) (by omega)) (wr_id (z := z) (by omega) (by omega)), if_pos (Int.le_refl _)]
  exact e3
end LE
