/-! ===== the law: its start, its steps ===== -/
section LS
variable {σ : St} {h : am_H} {D n : Nat} {xs : Int → Int}
theorem mean_x {c : Int} (j : CJ σ c h D) (n7 : tz σ 7 = 0) : rn m_X11_meanBits 0 [.ref 2, am_J, am_J] [] h = some (.inr 5, hexc h) := by
  have en : fZ h 2 8 = tz σ 7 := j.1.2.2.2.1.2.2.1
  have st := b_X11_meanBits_0 (a0 := 2) (h := h) j.1.1
  rw [en] at st
  rw [if_neg (fun q => q n7)] at st
  exact st
theorem share_x {c : Int} (j : CJ σ c h D) (n13 : tz σ 13 = 0) : rn m_X11_cleanShare 0 [.ref 2] [] h = some (.inr 5, hexc h) := by
  have e13 : fZ h 36 10 = tz σ 13 := j.1.2.2.2.2.2.2.1.1.2.2.2.2.1
  have st := b_X11_cleanShare_0 (a0 := 2) (h := h) j.1.1 (fun q => by
    simp only [Nat.reduceAdd] at q
    exact absurd (e13.trans n13) q)
  simp only [Nat.reduceAdd] at st
  rw [e13, if_neg (fun q => q n13)] at st
  exact st
theorem d6 : wr ((Op.cmpValue (FP.dcmp (UInt64.ofNat (13841813454723219456 : Int).toNat) (UInt64.ofNat (13841813454723219456 : Int).toNat)) .l).toInt) = 0 := by decide +kernel
theorem at_ok (sr : SR h n xs) (hn : n ≤ 300) {k : Int} (hk : 0 ≤ k ∧ k ≤ 1000) : ∃ z, wr z = z ∧ rn m_L_at 0 [.ref 1, .int (mI k)] [] h = some (.inl (some (.int (mI z))), h) := by
  refine ⟨if (n : Int) ≤ k then 0 else gZ h 1 k, ?_, b_L_at_0 (wr_id (by omega) (by omega)) sr.2.1 sr.1 (fun _ => by omega)⟩
  split
  · exact wr_id (by decide) (by decide)
  · exact wr_gZ _ _ _
/-- a new object: nothing is there yet -/
theorem law_start (hh : hnx h = 2) (rw0 : RW h) (sr : SR h n xs) (hn : n ≤ 300) : ∃ (h' : am_H) (z : Int), rn m_L_law 0 [.ref 1, am_J, am_J, am_J, am_J, am_J, am_J, am_J, am_J, am_J, am_J] [] h = rn m_L_law 143 [.ref 1, .ref 2, .ref 51, .int (mI z), .int (mI 0), .int (mI 0), am_J, am_J, am_J, am_J, am_J] [] h' ∧ (0 ≤ z ∧ z < 40) ∧ JL s0 h' 7 n xs ∧ hcl h' ≤ hcl h + 60 ∧ hsl h' ≤ hsl h + 21000 := by
  obtain ⟨h2, e1, n2, F0, mk⟩ := new_ok hh rw0
  have FA : Fr (fun _ _ => False) 1 256 h2 (aI 0 256 h2) := Fr_alc _ _ _
  have nA : hnx (aI 0 256 h2) = 52 := by rw [hnx_aI, n2]
  have jA := mk FA (fun _ _ _ q => q) (by omega)
  have F1 := Fr_tr (U := SDR 36) F0 FA (fun _ _ _ q => q) (fun _ _ _ q => q.elim)
  have j0 : JL s0 (aI 0 256 h2) 7 n xs := ⟨jA, SR_fr F1 (by omega) (by unfold SDR; omega) sr, ⟨⟨by rw [← n2]; exact sh_aI (by decide), by rw [← n2]; exact gn_aI _ _ _⟩, fun i _ _ => by rw [← n2]; exact gZ_aI _ _ _ _⟩, ⟨rfl, rfl, rfl, rfl, rfl⟩, rfl, rfl, rfl, rfl⟩
  have j1 := JL_exc j0
  have j2 := JL_exc j1
  have j3 := JL_exc j2
  have j4 := JL_exc j3
  have j5 := JL_exc j4
  have j6 := JL_exc j5
  have j7 := JL_exc j6
  have j8 := JL_exc j7
  obtain ⟨u, wu, eu⟩ := at_ok (k := 0) j8.2.1 hn (by decide)
  obtain ⟨z, hz, ez⟩ := some_ok (N := 40) (h := hexc (hexc (hexc (hexc (hexc (hexc (hexc (hexc (aI 0 256 h2))))))))) wu (by decide)
  have w5 : ∀ {x : Int}, x = -1005 → wr x = -1005 := fun q => by rw [q]; exact wr_id (by decide) (by decide)
  refine ⟨_, z, ?_, hz, j8, ?_, ?_⟩
  · rw [b_L_law_0, hh, b_L_law_3, e1, cl_n, b_L_law_7, n2, b_L_law_13, like_ok jA j0.2.2.1, cl_v]
    rw [b_L_law_19 (xs0' := 1) (wr_id (by decide) (by decide)), if_neg (by decide), A_mean_x5 jA.1.1 (mean_x jA rfl), cl_v]
    rw [b_L_law_27, d6, if_neg (fun q => q rfl), A_share_x5 j1.1.1.1 (share_x j1.1 rfl), cl_v]
    rw [b_L_law_39, d6, if_neg (fun q => q rfl), A_bucket_x4 j2.1.1.1 ((q_bucket j2.1.1).2 (by decide)), cl_v]
    rw [b_L_law_53 (w5 rfl), if_neg (fun q => q rfl), A_shown_x4 j3.1.1.1 ((q_shown j3.1.1).2 rfl), cl_v]
    rw [b_L_law_66 (w5 rfl), if_neg (fun q => q rfl), A_drift_x4 j4.1.1.1 ((q_drift j4.1.1 j4.1.2.1).2 rfl), cl_v]
    rw [b_L_law_79 (w5 rfl), if_neg (fun q => q rfl), A_isClean_x4 j5.1.1.1 ((q_isClean j5.1.1).2 rfl), cl_v]
    rw [b_L_law_92 (w5 rfl), if_neg (fun q => q rfl), A_commonest_x4 j6.1.1.1 ((q_commonest j6.1.1 j6.1.2.1).2 rfl), cl_v]
    rw [b_L_law_105 (w5 rfl), if_neg (fun q => q rfl), A_send_x4 j7.1.1.1 ((c_send_x j7.1.1 j7.1.2.1 (wr_id (by decide) (by decide))).1 (by decide)), cl_v]
    rw [b_L_law_118 (w5 rfl), if_pos rfl, eu, cl_v, b_L_law_131, ez, cl_v, b_L_law_136]
  · have := F1.1.2.1
    simp only [hcl_exc]
    omega
  · have := F1.1.2.2.1
    simp only [hsl_exc]
    omega
/-- one step of the law -/
theorem law_step (j : JL σ h D n xs) (hn : n ≤ 300) {k z : Int} (hk : 0 ≤ k ∧ k < z) (hz : z ≤ 40) (v6 v7 v8 v9 v10 : Value) : ∃ (σ' : St) (D' : Nat) (h' : am_H) (u6 u7 u8 u9 u10 : Value), rn m_L_law 143 [.ref 1, .ref 2, .ref 51, .int (mI z), .int (mI (tz σ 7)), .int (mI k), v6, v7, v8, v9, v10] [] h = rn m_L_law 143 [.ref 1, .ref 2, .ref 51, .int (mI z), .int (mI (tz σ' 7)), .int (mI (k + 1)), u6, u7, u8, u9, u10] [] h' ∧ JL σ' h' D' n xs ∧ Fr (fun _ _ => True) 12 4570 h h' := by
  have b7 := j.1.2.1.2.1.1
  have w7 : wr (tz σ 7) = tz σ 7 := wr_id (by omega) (by omega)
  obtain ⟨u, wu, eu⟩ := at_ok (k := 1 + k) j.2.1 hn (by omega)
  obtain ⟨v, hv, ev⟩ := some_ok (N := 100000000) (h := h) wu (by decide)
  have wv : wr v = v := wr_id (by omega) (by omega)
  have st := b_L_law_143 (a0 := 1) (a1 := 2) (a2 := 51) (x4 := tz σ 7) (v6 := v6) (v7 := v7) (v8 := v8) (v9 := v9) (v10 := v10) (h := h) (wr_id (z := z) (by omega) (by omega)) (wr_id (z := k) (by omega) (by omega))
  rw [if_neg (by omega), eu, cl_v, b_L_law_157, ev, cl_v, b_L_law_162 wv, tmd hv.1, wr_id (z := v % 5) (by omega) (by omega)] at st
  have fin8 : ∀ {σ' : St} {h' : am_H} {D' : Nat}, JL σ' h' D' n xs → fZ h' 2 8 = tz σ' 7 ∧ fZ h' 2 11 = min 3 (tz σ' 7) := fun {σ' h' D'} q => ⟨q.1.1.2.2.2.1.2.2.1, q.1.1.2.2.2.1.2.2.2.trans q.2.2.2.2.1⟩
  by_cases c : v % 5 ≤ 0
  · rw [if_pos c] at st
    by_cases c7 : tz σ 7 < 12
    · obtain ⟨σ', D', h', b, e, hb, j', e7, F⟩ := JL_code j c7
      obtain ⟨f8, f11⟩ := fin8 j'
      have wb : wr b = b := wr_id (by omega) (by omega)
      rw [e, cl_v, b_L_law_195 w7 wb, if_neg (fun q => q (if_pos (by omega)).symm), if_neg (by omega), if_neg (by omega), like_ok j'.1 j'.2.2.1, cl_v, b_L_law_236 w_1 j'.1.1.1, if_pos (by decide)] at st
      have em : min 12 (wr (tz σ 7 + 1)) = tz σ' 7 := by
        rw [wr_id (by omega) (by omega), e7]
        omega
      rw [f8, f11, em, if_neg (fun q => q rfl), if_pos rfl] at st
      exact ⟨σ', D', h', _, _, _, _, _, st, j', Fr_mono F (fun _ _ _ q => q) (by decide) (by decide)⟩
    · have j' := JL_exc j
      obtain ⟨f8, f11⟩ := fin8 j'
      rw [JL_full j c7, cl_v, b_L_law_195 w7 (wr_id (z := -1003) (by decide) (by decide)), if_neg (fun q => q (if_neg (by omega)).symm), if_pos (by omega), like_ok j'.1 j'.2.2.1, cl_v, b_L_law_236 w_1 j'.1.1.1, if_pos (by decide)] at st
      have em : min 12 (wr (tz σ 7 + 1)) = tz σ 7 := by
        rw [wr_id (by omega) (by omega)]
        omega
      rw [f8, f11, em, if_neg (fun q => q rfl), if_pos rfl] at st
      exact ⟨σ, D, _, _, _, _, _, _, st, j', Fr_mono (Fr_exc h) (fun _ _ _ _ => trivial) (by decide) (by decide)⟩
  · obtain ⟨σ', h', e, j', e7, F⟩ := paints_ok (x := v / 5) j (by omega)
    obtain ⟨f8, f11⟩ := fin8 j'
    rw [if_neg c, tdv hv.1, e, cl_v, b_L_law_180 w7 w_1 j'.1.1.1, if_pos (by decide)] at st
    rw [f8, f11, e7, if_neg (fun q => q rfl), if_pos rfl] at st
    rw [← e7] at st
    exact ⟨σ', D, h', _, _, _, _, _, by rw [e7] at st ⊢; exact st, j', Fr_mono F (fun _ _ _ q => q) (by decide) (by decide)⟩
set_option maxRecDepth 100000 in
theorem law_steps (hn : n ≤ 300) {z : Int} (hz : z ≤ 40) : ∀ (m k : Nat) (σ : St) (h : am_H) (D : Nat) (v6 v7 v8 v9 v10 : Value), (k : Int) + m = z → JL σ h D n xs → hcl h ≤ 100 + 20 * k → hsl h ≤ 30000 + 5000 * k → ∃ (σ' : St) (D' : Nat) (h' : am_H) (u6 u7 u8 u9 u10 : Value), rn m_L_law 143 [.ref 1, .ref 2, .ref 51, .int (mI z), .int (mI (tz σ 7)), .int (mI (k : Int)), v6, v7, v8, v9, v10] [] h = rn m_L_law 143 [.ref 1, .ref 2, .ref 51, .int (mI z), .int (mI (tz σ' 7)), .int (mI z), u6, u7, u8, u9, u10] [] h' ∧ JL σ' h' D' n xs ∧ hcl h' ≤ 1000 ∧ hsl h' ≤ 300000
  | 0, k, σ, h, D, v6, v7, v8, v9, v10, e, j, hc, hs => by
    have ek : (k : Int) = z := by omega
    rw [ek]
    exact ⟨σ, D, h, v6, v7, v8, v9, v10, rfl, j, by omega, by omega⟩
  | m + 1, k, σ, h, D, v6, v7, v8, v9, v10, e, j, hc, hs => by
    obtain ⟨σ', D', h', u6, u7, u8, u9, u10, st, j', F⟩ := law_step j hn (k := k) (z := z) (by omega) hz v6 v7 v8 v9 v10
    have f1 := F.1.2.1
    have f2 := F.1.2.2.1
    have ek : ((k + 1 : Nat) : Int) = (k : Int) + 1 := by omega
    have c1 : hcl h' ≤ 100 + 20 * (k + 1) := by omega
    have c2 : hsl h' ≤ 30000 + 5000 * (k + 1) := by omega
    obtain ⟨σ2, D2, h2, t6, t7, t8, t9, t10, st2, j2, r1, r2⟩ := law_steps hn hz m (k + 1) σ' h' D' u6 u7 u8 u9 u10 (by omega) j' c1 c2
    rw [ek] at st2
    exact ⟨σ2, D2, h2, t6, t7, t8, t9, t10, st.trans st2, j2, r1, r2⟩
end LS
