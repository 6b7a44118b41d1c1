/-! ===== the law: its loop ===== -/
section LZ
variable {σ : St} {h : am_H} {D n : Nat} {xs : Int → Int} {c i : Int}
def lts : List Nat := [204, 308, 388, 456, 524, 592, 648, 704, 760, 801, 869, 951, 964, 977, 1033, 1046, 1090, 1146, 1202, 1270, 1350, 1430, 1510, 1618, 1698, 1778, 1833, 1889, 1933, 1989, 2045, 2089, 2157, 2208, 2252, 2317]
theorem C_any (j : JI σ c h D n xs) (hi : 0 ≤ i ∧ i + 5 < n) (hn : n ≤ 3072) (hc : c ≤ 1000) : ∀ (k t : Nat), lts[k]? = some t → LC σ c h D n xs i t
  | 0, t, e => by
    cases e
    exact C_fill j hi hn
  | 1, t, e => by
    cases e
    exact C_slope j hi hn
  | 2, t, e => by
    cases e
    exact C_grain j hi hn
  | 3, t, e => by
    cases e
    exact C_move j hi hn
  | 4, t, e => by
    cases e
    exact C_pixel j hi hn
  | 5, t, e => by
    cases e
    exact C_setCoarseness j hi hn
  | 6, t, e => by
    cases e
    exact C_setTools j hi hn
  | 7, t, e => by
    cases e
    exact C_setSlices j hi hn
  | 8, t, e => by
    cases e
    exact C_setKept j hi hn
  | 9, t, e => by
    cases e
    exact C_setBucket j hi hn
  | 10, t, e => by
    cases e
    exact C_code j hi hn
  | 11, t, e => by
    cases e
    exact C_pictures j hi hn
  | 12, t, e => by
    cases e
    exact C_kept j hi hn
  | 13, t, e => by
    cases e
    exact C_keptAt j hi hn
  | 14, t, e => by
    cases e
    exact C_coarseness j hi hn
  | 15, t, e => by
    cases e
    exact C_bucket j hi hn
  | 16, t, e => by
    cases e
    exact C_kindOf j hi hn
  | 17, t, e => by
    cases e
    exact C_coarsenessOf j hi hn
  | 18, t, e => by
    cases e
    exact C_bytes j hi hn
  | 19, t, e => by
    cases e
    exact C_byteAt j hi hn
  | 20, t, e => by
    cases e
    exact C_partAt j hi hn
  | 21, t, e => by
    cases e
    exact C_modeAt j hi hn
  | 22, t, e => by
    cases e
    exact C_vectorAt j hi hn
  | 23, t, e => by
    cases e
    exact C_levelAt j hi hn
  | 24, t, e => by
    cases e
    exact C_built j hi hn
  | 25, t, e => by
    cases e
    exact C_errorOf j hi hn
  | 26, t, e => by
    cases e
    exact C_heaviest j hi hn
  | 27, t, e => by
    cases e
    exact C_commonest j hi hn
  | 28, t, e => by
    cases e
    exact C_send j hi hn hc
  | 29, t, e => by
    cases e
    exact C_join j hi hn
  | 30, t, e => by
    cases e
    exact C_shown j hi hn
  | 31, t, e => by
    cases e
    exact C_shownAt j hi hn
  | 32, t, e => by
    cases e
    exact C_isClean j hi hn
  | 33, t, e => by
    cases e
    exact C_drift j hi hn
  | 34, t, e => by
    cases e
    exact C_meanBits j hi hn
  | 35, t, e => by
    cases e
    exact C_cleanShare j hi hn hc
  | k + 36, t, e => by
    have q : lts[k + 36]? = none := List.getElem?_eq_none (Nat.le_add_left 36 k)
    rw [q] at e
    cases e
theorem law_step (j : JI σ c h D n xs) (hi : 0 ≤ i ∧ i + 5 < n) (hn : n ≤ 3072) (hc : c ≤ 1000) (v6 v7 v8 : Value) : ∃ (σ' : St) (D' : Nat) (h' : am_H) (a b e : Value) (cc ss : Nat), rn m_L_law 28 (LL i v6 v7 v8) [] h = rn m_L_law 28 (LL (i + 6) a b e) [] h' ∧ JI σ' (c + 1) h' D' n xs ∧ Fr (fun _ _ => True) cc ss h h' ∧ cc ≤ 150 ∧ (ss : Int) ≤ 13810 + 4700 * (tz σ' 7 - tz σ 7) := by
  have sr := j.2.2.2.2.2
  have wi : wr i = i := wr_id (by omega) (by omega)
  have wn : wr ((n : Int) - 6) = (n : Int) - 6 := wr_id (by omega) (by omega)
  have st := b_L_law_28 (a0 := 1) (a1 := 2) (a2 := 51) (a3 := 74) (a4 := 75) (v6 := v6) (v7 := v7) (v8 := v8) (h := h) wi sr.2.1 sr.1 (fun _ => by omega)
  rw [wn, if_neg (by omega)] at st
  by_cases q : gZ h 1 i % 2 ^ 6 < 36
  · obtain ⟨k, hk⟩ : ∃ k : Nat, gZ h 1 i % 2 ^ 6 = (0 : Int) + k := ⟨(gZ h 1 i % 2 ^ 6).toNat, by omega⟩
    have hl : k < lts.length := by
      show k < 36
      omega
    obtain ⟨t, ht⟩ : ∃ t, lts[k]? = some t := ⟨lts[k], List.getElem?_eq_getElem hl⟩
    obtain ⟨σ', D', h', a, b, e, cc, ss, e1, j', F, q1, q2⟩ := C_any j hi hn hc k t ht v6 v7 v8
    refine ⟨σ', D', h', a, b, e, cc, ss, ?_, j', F, q1, q2⟩
    refine st.trans ((sw_at _ _ lts 0 k t ht hk).trans (e1.trans ?_))
    exact b_L_law_2383
  · refine ⟨σ, D, h, v6, v7, v8, 0, 0, ?_, ⟨j.1, j.2.1, WfS_le j.2.2.1 (by omega), j.2.2.2⟩, Fr_rf _ _, by decide, by omega⟩
    refine st.trans ((sw_df _ _ lts 0 (Or.inr ?_)).trans ?_)
    · show (0 : Int) + (36 : Nat) ≤ _
      omega
    · exact b_L_law_2383
theorem law_loop (hn : n ≤ 3072) : ∀ (m k : Nat) (σ : St) (h : am_H) (D : Nat) (a b e : Value), n ≤ 6 * k + m → 6 * k ≤ n → JI σ (k : Int) h D n xs → hcl h ≤ 200 + 150 * k → (hsl h : Int) ≤ 40000 + 13810 * k + 4700 * tz σ 7 → ∃ h', rn m_L_law 28 (LL (6 * (k : Int)) a b e) [] h = some (.inl (some (.int (mI 1))), h') ∧ hcl h' ≤ 603072 ∧ hsl h' ≤ 7219306 := by
  intro m
  induction m with
  | zero =>
    intro k σ h D a b e h1 h2 j hc hs
    have sr := j.2.2.2.2.2
    have w7 := j.2.2.1.2.1.1
    have wi : wr (6 * (k : Int)) = 6 * (k : Int) := wr_id (by omega) (by omega)
    have wn : wr ((n : Int) - 6) = (n : Int) - 6 := wr_id (by omega) (by omega)
    have st := b_L_law_28 (a0 := 1) (a1 := 2) (a2 := 51) (a3 := 74) (a4 := 75) (v6 := a) (v7 := b) (v8 := e) (h := h) wi sr.2.1 sr.1 (fun g => by rw [wn] at g; omega)
    rw [wn, if_pos (by omega)] at st
    exact ⟨h, st, by omega, by omega⟩
  | succ m ih =>
    intro k σ h D a b e h1 h2 j hc hs
    by_cases q : 6 * k + 6 ≤ n
    · obtain ⟨σ', D', h', a', b', e', cc, ss, e1, j', F, q1, q2⟩ := law_step j (i := 6 * (k : Int)) (by omega) hn (by omega) a b e
      have f1 := F.1.2.1
      have f2 := F.1.2.2.1
      have ek : 6 * (k : Int) + 6 = 6 * ((k + 1 : Nat) : Int) := by omega
      have ec : (k : Int) + 1 = ((k + 1 : Nat) : Int) := by omega
      rw [ek] at e1
      rw [ec] at j'
      obtain ⟨h2', e2, r1, r2⟩ := ih (k + 1) σ' h' D' a' b' e' (by omega) (by omega) j' (by omega) (by omega)
      exact ⟨h2', e1.trans e2, r1, r2⟩
    · have sr := j.2.2.2.2.2
      have w7 := j.2.2.1.2.1.1
      have wi : wr (6 * (k : Int)) = 6 * (k : Int) := wr_id (by omega) (by omega)
      have wn : wr ((n : Int) - 6) = (n : Int) - 6 := wr_id (by omega) (by omega)
      have st := b_L_law_28 (a0 := 1) (a1 := 2) (a2 := 51) (a3 := 74) (a4 := 75) (v6 := a) (v7 := b) (v8 := e) (h := h) wi sr.2.1 sr.1 (fun g => by rw [wn] at g; omega)
      rw [wn, if_pos (by omega)] at st
      exact ⟨h, st, by omega, by omega⟩
/-- the law's run -/
theorem law_run (hh : hnx h = 2) (hc : hcl h = 0) (hs : hsl h = 0) (rw0 : RW h) (sr : SR h n xs) (hn : n ≤ 3072) : ∃ h', rn m_L_law 0 [.ref 1, am_J, am_J, am_J, am_J, am_J, am_J, am_J, am_J] [] h = some (.inl (some (.int 1)), h') ∧ hcl h' ≤ 603072 ∧ hsl h' ≤ 7219306 := by
  obtain ⟨hI, e1, j, c1, c2⟩ := law_begin hh rw0 sr
  have t7 : tz s0 7 = 0 := rfl
  obtain ⟨h', e2, r1, r2⟩ := law_loop hn n 0 s0 hI 7 am_J am_J am_J (by omega) (by omega) j (by omega) (by rw [t7]; omega)
  exact ⟨h', e1.trans e2, r1, r2⟩
end LZ
