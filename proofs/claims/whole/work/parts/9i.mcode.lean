/-! ===== the model codes: up to the bucket ===== -/
theorem agr_all2 {pd pd' : Nat → Int → Int} {p p' : Int → Int} (h : agr 16 pd pd' p p') : ∀ i, 0 ≤ i → i < 256 → p i = p' i ∧ pd 4 i = pd' 4 i := fun i i0 i1 => by
  obtain ⟨e, s0, s1⟩ := pl_xy (x := i % 16) (y := i / 16) (by omega) (by omega)
  have := (h _ s0 s1).2 (4 * (i / 16 % 4) + i % 16 % 4) (by omega) (by omega)
  rw [e, show 16 * (i / 16) + i % 16 = i by omega] at this
  exact ⟨this.2, this.1⟩
def OWN : Nat → Nat → Prop := fun a k => (a = 51 ∧ (k < 2 ∨ (27 ≤ k ∧ k ≤ 38))) ∨ (69 ≤ a ∧ a ≤ 71)
section MC2
variable {σ : St} {h h' : am_H} {D : Nat} {c : Int}
theorem m_kept62 (rm : RM σ h D) (wf : WfS σ c) {x : Int} (hx : 0 ≤ x ∧ x < tz σ 8) : ∃ B, gA h 62 (gZ h 68 x) = some B ∧ (0 ≤ gZ h 68 x ∧ gZ h 68 x < 12) ∧ isRow h D B 256 (tpd σ (tk σ x) 5) ∧ pixels (tpd σ (tk σ x) 5) := by
  have n := WFn wf
  have b := wf.2.1.2.2 x hx.1 hx.2
  have e : gZ h 68 x = tk σ x := rm.2.2.2.2.1 x hx.1 hx.2
  obtain ⟨B, b1, b2⟩ := (rm.2.2.2.2.2.1 (tk σ x) b.1 b.2).2.1
  obtain ⟨-, -, -, -, -, -, -, -, -, -, pp, -⟩ := wf.2.2.2.1 (tk σ x) b.1 b.2
  rw [e]
  exact ⟨B, b1, by omega, b2, pp⟩
/-- the pictures leant on, laid -/
theorem m_lay (rm : RM σ h D) (wf : WfS σ c) {kd a b : Int} (wk : wr kd = kd) (wa : wr a = a) (wb : wr b = b) (rq : isRq σ kd a b) (v4 v5 v6 v7 v8 v9 v10 v11 : Value) : ∃ hB, rn m_X12_code 119 [.ref 51, .int (mI kd), .int (mI a), .int (mI b), v4, v5, v6, v7, v8, v9, v10, v11] [] h = rn m_X12_code 174 [.ref 51, .int (mI kd), .int (mI a), .int (mI b), v4, v5, v6, v7, v8, v9, v10, v11] [] hB ∧ Md (fun a k => a = 51 ∧ (k = 33 ∨ k = 28 ∨ k = 29)) h hB ∧ fZ hB 51 33 = kd ∧ (kd ≠ 105 → ∃ B, fA hB 51 28 = some B ∧ isRow h D B 256 (CF1 σ kd a)) ∧ (kd = 98 → ∃ B, fA hB 51 29 = some B ∧ isRow h D B 256 (CF2 σ kd b)) := by
  have b8 := wf.2.1.2.1
  have kb : kd = 105 ∨ kd = 112 ∨ kd = 98 := rq.1
  have k0 := K10_s rm.1
  have m1 : Md (fun a k => a = 51 ∧ k = 33) h (uF 10 h 51 33 (.int (mI kd))) := Md_uF (Sm_uF_10_33 _ _ _)
  have f33 : fZ (uF 10 h 51 33 (.int (mI kd))) 51 33 = kd := by rw [fZ_uF_eq k0 (okfC_10_33 wk (by omega)), wk]
  have k1 := K10_sm m1.1 rm.1
  have one : ∃ hb, rn m_X12_code 119 [.ref 51, .int (mI kd), .int (mI a), .int (mI b), v4, v5, v6, v7, v8, v9, v10, v11] [] h = rn m_X12_code 149 [.ref 51, .int (mI kd), .int (mI a), .int (mI b), v4, v5, v6, v7, v8, v9, v10, v11] [] hb ∧ Md (fun a k => a = 51 ∧ (k = 33 ∨ k = 28)) h hb ∧ fZ hb 51 33 = kd ∧ (kd ≠ 105 → ∃ B, fA hb 51 28 = some B ∧ isRow h D B 256 (CF1 σ kd a)) := by
    by_cases e : kd = 105
    · have st := b_X12_code_119 (a0 := 51) (b_145 := 0) (x1 := kd) (x2 := a) (x3 := b) (v4 := v4) (v5 := v5) (v6 := v6) (v7 := v7) (v8 := v8) (v9 := v9) (v10 := v10) (v11 := v11) (h := h) wk wa (by omega) rm.1 (fun q => absurd e q) (fun q => absurd e q) (fun q => absurd e q)
      rw [if_neg (fun q => q e)] at st
      have m2 : Md (fun a k => a = 51 ∧ k = 28) (uF 10 h 51 33 (.int (mI kd))) (uF 10 (uF 10 h 51 33 (.int (mI kd))) 51 28 .null) := Md_uF (Sm_uF_10_28 _ _ _)
      exact ⟨_, st, Md_tr (Md_mono m1 fun a k q => ⟨q.1, Or.inl q.2⟩) (Md_mono m2 fun a k q => ⟨q.1, Or.inr q.2⟩), (md_fZ m2 (by omega)).trans f33, fun q => absurd e q⟩
    · obtain ⟨B, g1, g2, g3, -⟩ := m_kept62 rm wf (rq.2.1 e)
      have ha := rq.2.1 e
      have st := b_X12_code_119 (a0 := 51) (b_145 := B) (x1 := kd) (x2 := a) (x3 := b) (v4 := v4) (v5 := v5) (v6 := v6) (v7 := v7) (v8 := v8) (v9 := v9) (v10 := v10) (v11 := v11) (h := h) wk wa (by omega) rm.1 (fun _ => by omega) (fun _ => by rw [gZ_uF]; exact g2) (fun _ => by rw [gZ_uF, gA_uF]; exact g1)
      rw [if_pos e] at st
      have m2 : Md (fun a k => a = 51 ∧ k = 28) (uF 10 h 51 33 (.int (mI kd))) (uF 10 (uF 10 h 51 33 (.int (mI kd))) 51 28 (.ref B)) := Md_uF (Sm_uF_10_28 _ _ _)
      refine ⟨_, st, Md_tr (Md_mono m1 fun a k q => ⟨q.1, Or.inl q.2⟩) (Md_mono m2 fun a k q => ⟨q.1, Or.inr q.2⟩), (md_fZ m2 (by omega)).trans f33, fun _ => ⟨B, fA_uF_eq (r := some B) (K10_s k1) (okfA_10_28 (isA_ref B)), ?_⟩⟩
      unfold CF1
      rw [if_neg e]
      exact g3
  obtain ⟨hb, eb, mb, fb, rb⟩ := one
  have rmb : RM σ hb D := RM_own (md_fr mb) (fun a k q => Or.inl ⟨q.1, by omega⟩) rm
  rw [eb]
  by_cases e : kd = 98
  · obtain ⟨B, g1, g2, g3, -⟩ := m_kept62 rmb wf (rq.2.2 e)
    have hbb := rq.2.2 e
    have st := b_X12_code_149 (a0 := 51) (b_166 := B) (x1 := kd) (x2 := a) (x3 := b) (v4 := v4) (v5 := v5) (v6 := v6) (v7 := v7) (v8 := v8) (v9 := v9) (v10 := v10) (v11 := v11) (h := hb) wk wb rmb.1 (fun _ => by omega) (fun _ => g2) (fun _ => g1)
    rw [if_neg (fun q => q e)] at st
    have m2 : Md (fun a k => a = 51 ∧ k = 29) hb (uF 10 hb 51 29 (.ref B)) := Md_uF (Sm_uF_10_29 _ _ _)
    refine ⟨_, st, Md_tr (Md_mono mb fun a k q => ⟨q.1, by omega⟩) (Md_mono m2 fun a k q => ⟨q.1, by omega⟩), (md_fZ m2 (by omega)).trans fb, fun q => ?_, fun _ => ⟨B, fA_uF_eq (r := some B) (K10_s rmb.1) (okfA_10_29 (isA_ref B)), ?_⟩⟩
    · obtain ⟨B', r1, r2⟩ := rb q
      exact ⟨B', (md_fA m2 (by omega)).trans r1, r2⟩
    · unfold CF2
      rw [if_pos e]
      obtain ⟨y1, ⟨y2, y3⟩, y4⟩ := g3
      have nxb : hnx hb = hnx h := mb.1.2.2.2.1
      exact ⟨⟨y1.1, by have := y1.2.1; omega, y1.2.2⟩, ⟨(md_sh mb _).symm.trans y2, by rw [← md_gn mb]; exact y3⟩, fun i i0 i1 => by rw [← md_gZ mb (by have := y1.1; omega)]; exact y4 i i0 i1⟩
  · have st := b_X12_code_149 (a0 := 51) (b_166 := 0) (x1 := kd) (x2 := a) (x3 := b) (v4 := v4) (v5 := v5) (v6 := v6) (v7 := v7) (v8 := v8) (v9 := v9) (v10 := v10) (v11 := v11) (h := hb) wk wb rmb.1 (fun q => absurd e q) (fun q => absurd e q) (fun q => absurd e q)
    rw [if_pos e] at st
    have m2 : Md (fun a k => a = 51 ∧ k = 29) hb (uF 10 hb 51 29 .null) := Md_uF (Sm_uF_10_29 _ _ _)
    refine ⟨_, st, Md_tr (Md_mono mb fun a k q => ⟨q.1, by omega⟩) (Md_mono m2 fun a k q => ⟨q.1, by omega⟩), (md_fZ m2 (by omega)).trans fb, fun q => ?_, fun q => absurd q e⟩
    obtain ⟨B', r1, r2⟩ := rb q
    exact ⟨B', (md_fA m2 (by omega)).trans r1, r2⟩
/-- the four arrays of a picture, made -/
theorem m_new (k : K10 h 51) (al : 73 < hnx h) (v1 v2 v3 : Int) (v4 v5 v6 v7 v8 v9 v10 v11 : Value) : ∃ g, rn m_X12_code 174 [.ref 51, .int (mI v1), .int (mI v2), .int (mI v3), v4, v5, v6, v7, v8, v9, v10, v11] [] h = cl m_X12_code 212 [.ref 51, .int (mI v1), .int (mI v2), .int (mI v3), v4, v5, v6, v7, v8, v9, v10, v11] [] (rn m_X12_codesParts 0 [.ref 51, am_J, am_J, am_J, am_J, am_J, am_J] [] g) ∧ Fr (fun a k => a = 51 ∧ (k = 27 ∨ k = 30 ∨ k = 31 ∨ k = 32)) 4 592 h g ∧ hnx g = hnx h + 4 ∧ (fA g 51 27 = some (hnx h) ∧ fA g 51 30 = some (hnx h + 1) ∧ fA g 51 31 = some (hnx h + 2) ∧ fA g 51 32 = some (hnx h + 3)) ∧ ((sh g (hnx h) = (1, 0) ∧ gn g (hnx h) = 256) ∧ (sh g (hnx h + 1) = (1, 0) ∧ gn g (hnx h + 1) = 16) ∧ (sh g (hnx h + 2) = (1, 0) ∧ gn g (hnx h + 2) = 64) ∧ (sh g (hnx h + 3) = (1, 0) ∧ gn g (hnx h + 3) = 256)) ∧ (∀ i, gZ g (hnx h) i = 0) ∧ ∀ i, gZ g (hnx h + 3) i = 0 := by
  have kal : ∀ (g : am_H) (n : Nat), 73 < hnx g → K10 g 51 → K10 (aI 0 n g) 51 := fun g n ag kg => by
    have frA : Fr (fun _ _ => False) 1 n g (aI 0 n g) := Fr_alc _ _ _
    exact K10_fr frA (by omega) kg
  obtain ⟨g1, e1, t1, y1, a1, k1, ⟨b1, c1, d1⟩, F1⟩ := in_step10 (g := h) (k := 27) (n := 256) (by decide) (K10_s k) (by omega) (okfA_10_27 (isA_ref _)) (fun h v => Sm_uF_10_27 h 51 v)
  have q1 := K10_fr F1 (by omega) k
  rw [b_X12_code_174, b_X12_code_180 (kal _ _ al k), ← e1]
  clear e1
  obtain ⟨g2, e2, t2, y2, a2, k2, ⟨b2, c2, d2⟩, F2⟩ := in_step10 (g := g1) (k := 30) (n := 16) (by decide) t1 (by omega) (okfA_10_30 (isA_ref _)) (fun h v => Sm_uF_10_30 h 51 v)
  have q2 := K10_fr F2 (by omega) q1
  rw [b_X12_code_188 (kal _ _ (by omega) q1), ← e2]
  clear e2
  obtain ⟨g3, e3, t3, y3, a3, k3, ⟨b3, c3, d3⟩, F3⟩ := in_step10 (g := g2) (k := 31) (n := 64) (by decide) t2 (by omega) (okfA_10_31 (isA_ref _)) (fun h v => Sm_uF_10_31 h 51 v)
  have q3 := K10_fr F3 (by omega) q2
  rw [b_X12_code_196 (kal _ _ (by omega) q2), ← e3]
  clear e3
  obtain ⟨g4, e4, t4, y4, a4, k4, ⟨b4, c4, d4⟩, F4⟩ := in_step10 (g := g3) (k := 32) (n := 256) (by decide) t3 (by omega) (okfA_10_32 (isA_ref _)) (fun h v => Sm_uF_10_32 h 51 v)
  rw [b_X12_code_205 (kal _ _ (by omega) q3) (kal _ _ (by omega) q3), ← e4]
  clear e4
  have z1 : hnx g1 = hnx h + 1 := y1
  have z2 : hnx g2 = hnx h + 2 := by omega
  have z3 : hnx g3 = hnx h + 3 := by omega
  rw [z1] at a2 b2 c2
  rw [z2] at a3 b3 c3
  rw [z3] at a4 b4 c4 d4
  refine ⟨g4, rfl, Fr_mono (Fr_tr (U := fun a k => a = 51 ∧ (k = 27 ∨ k = 30 ∨ k = 31 ∨ k = 32)) F1 (Fr_tr (U := fun a k => a = 51 ∧ (k = 27 ∨ k = 30 ∨ k = 31 ∨ k = 32)) F2 (Fr_tr (U := fun a k => a = 51 ∧ (k = 27 ∨ k = 30 ∨ k = 31 ∨ k = 32)) F3 F4 (fun a k _ q => ⟨q.1, by omega⟩) (fun a k _ q => ⟨q.1, by omega⟩)) (fun a k _ q => ⟨q.1, by omega⟩) (fun _ _ _ q => q)) (fun a k _ q => ⟨q.1, by omega⟩) (fun _ _ _ q => q)) (fun _ _ _ q => q) (by omega) (by omega), by omega, ⟨?_, ?_, ?_, a4⟩, ⟨⟨?_, ?_⟩, ⟨?_, ?_⟩, ⟨?_, ?_⟩, b4, c4⟩, fun i => ?_, d4⟩
  · rw [k4 _ (by decide), k3 _ (by decide), k2 _ (by decide)]; exact a1
  · rw [k4 _ (by decide), k3 _ (by decide)]; exact a2
  · rw [k4 _ (by decide)]; exact a3
  · rw [F4.1.sh1 (by omega), F3.1.sh1 (by omega), F2.1.sh1 (by omega)]; exact b1
  · rw [F4.1.gn1 (by omega), F3.1.gn1 (by omega), F2.1.gn1 (by omega)]; exact c1
  · rw [F4.1.sh1 (by omega), F3.1.sh1 (by omega)]; exact b2
  · rw [F4.1.gn1 (by omega), F3.1.gn1 (by omega)]; exact c2
  · rw [F4.1.sh1 (by omega)]; exact b3
  · rw [F4.1.gn1 (by omega)]; exact c3
  · rw [F4.1.gZ1 i (by omega) (by omega), F3.1.gZ1 i (by omega) (by omega), F2.1.gZ1 i (by omega) (by omega)]; exact d1 i
end MC2
