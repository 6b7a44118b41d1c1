/-! ===== what the numbers are stays so ===== -/
section WFS
variable {σ : St} {c c' : Int}
theorem WfS_le (wf : WfS σ c) (h : c ≤ c') : WfS σ c' := by
  obtain ⟨a, b, d, e, ⟨f1, f2, f3, f4, f5, f6⟩, g⟩ := wf
  exact ⟨a, b, d, e, ⟨f1, f2, f3, f4, ⟨f5.1, by omega⟩, f6⟩, g⟩
theorem WfS_cv {f : Int → Int} (wf : WfS σ c) (p : pixels f) : WfS (stc σ f) c := by
  obtain ⟨a, b, d, e⟩ := wf
  exact ⟨a, b, p, e⟩
theorem WfS_0 {x : Int} (wf : WfS σ c) (h : 1 ≤ x ∧ x ≤ 40) : WfS (upz σ 0 x) c := by
  obtain ⟨⟨a0, a1, a2, a3, a4, a5, a6⟩, r⟩ := wf
  exact ⟨⟨h, a1, a2, a3, a4, a5, a6⟩, r⟩
theorem WfS_1 {x : Int} (wf : WfS σ c) (h : 0 ≤ x ∧ x ≤ 7) : WfS (upz σ 1 x) c := by
  obtain ⟨⟨a0, a1, a2, a3, a4, a5, a6⟩, r⟩ := wf
  exact ⟨⟨a0, h, a2, a3, a4, a5, a6⟩, r⟩
theorem WfS_2 {x : Int} (wf : WfS σ c) (h : 1 ≤ x ∧ x ≤ 2) : WfS (upz σ 2 x) c := by
  obtain ⟨⟨a0, a1, a2, a3, a4, a5, a6⟩, r⟩ := wf
  exact ⟨⟨a0, a1, (show x = 1 ∨ x = 2 by omega), a3, a4, a5, a6⟩, r⟩
theorem WfS_3 {x : Int} (wf : WfS σ c) (h : x = 0 ∨ x = 1) : WfS (upz σ 3 x) c := by
  obtain ⟨⟨a0, a1, a2, a3, a4, a5, a6⟩, r⟩ := wf
  exact ⟨⟨a0, a1, a2, h, a4, a5, a6⟩, r⟩
theorem WfS_b {x y : Int} (wf : WfS σ c) (h : isB2 x y) : WfS (stb σ x y) c := by
  obtain ⟨⟨a0, a1, a2, a3, a4, a5, a6⟩, r⟩ := wf
  exact ⟨⟨a0, a1, a2, a3, h.1, h.2, (show (0 : Int) ≤ 0 ∧ (0 : Int) ≤ 99999 by decide)⟩, r⟩
theorem WfS_j {x : Int} (wf : WfS σ c) (h : 0 ≤ x ∧ x ≤ tz σ 7) : WfS (stj σ x) c := by
  obtain ⟨a, b, d, e, ⟨f1, f2, f3, f4, f5, f6⟩, g⟩ := wf
  have p128 : pixels (fun _ => 128) := fun i _ _ => by simp only; omega
  exact ⟨a, b, d, e, ⟨h, Or.inl rfl, Or.inl rfl, (show (0 : Int) ≤ 0 ∧ (0 : Int) ≤ 3 by decide), f5, f6⟩, p128, fun j _ _ => ⟨p128, Or.inl rfl⟩, fun j _ _ _ => ⟨fun _ _ _ => rfl, rfl⟩, fun _ _ _ _ => rfl⟩
theorem WfS_s {cv : Int} {P : Int → Int} (wf : WfS σ c) (hn : tz σ 9 < tz σ 7) (hc : cv = 0 ∨ cv = 1) (pP : pixels P) : WfS (stS σ cv P) (c + 1) := by
  obtain ⟨a, b, d, e, ⟨f1, f2, f3, f4, f5, f6⟩, g1, g2, g3, g4⟩ := wf
  have t12 : tz (stS σ cv P) 12 = if tpz σ (tz σ 9) 6 = 0 then tz σ 12 else min (tz σ 12 + 1) 3 := rfl
  refine ⟨a, b, d, e, ⟨(show 0 ≤ tz σ 9 + 1 ∧ tz σ 9 + 1 ≤ tz σ 7 by omega), Or.inr (show 0 ≤ tz σ 9 ∧ tz σ 9 < tz σ 7 by omega), (show cv = 0 ∨ cv = 1 from hc), ?_, (show 0 ≤ tz σ 13 + 1 ∧ tz σ 13 + 1 ≤ c + 1 by omega), (show 0 ≤ tz σ 14 + cv ∧ tz σ 14 + cv ≤ tz σ 13 + 1 by omega)⟩, pP, fun j j0 j1 => ?_, fun j j0 j1 j2 => ?_, fun q => ?_⟩
  · rw [t12]; split <;> omega
  · show pixels (if tpz σ (tz σ 9) 6 = 0 then tkp σ j else if j = 0 then P else tkp σ (j - 1)) ∧ ((if tpz σ (tz σ 9) 6 = 0 then tkc σ j else if j = 0 then cv else tkc σ (j - 1)) = 0 ∨ (if tpz σ (tz σ 9) 6 = 0 then tkc σ j else if j = 0 then cv else tkc σ (j - 1)) = 1)
    by_cases q : tpz σ (tz σ 9) 6 = 0
    · rw [if_pos q, if_pos q]; exact g2 j j0 j1
    · rw [if_neg q, if_neg q]
      by_cases e0 : j = 0
      · rw [if_pos e0, if_pos e0]; exact ⟨pP, hc⟩
      · rw [if_neg e0, if_neg e0]; exact g2 (j - 1) (by omega) (by omega)
  · rw [t12] at j0
    show (∀ i, 0 ≤ i → i < 256 → (if tpz σ (tz σ 9) 6 = 0 then tkp σ j else if j = 0 then P else tkp σ (j - 1)) i = 128) ∧ (if tpz σ (tz σ 9) 6 = 0 then tkc σ j else if j = 0 then cv else tkc σ (j - 1)) = 0
    by_cases q : tpz σ (tz σ 9) 6 = 0
    · rw [if_pos q] at j0
      rw [if_pos q, if_pos q]
      exact g3 j j0 j1 j2
    · rw [if_neg q] at j0
      rw [if_neg q, if_neg q, if_neg (by omega), if_neg (by omega)]
      exact g3 (j - 1) (by omega) (by omega) (by omega)
  · have : tz σ 9 = -1 := q
    omega
theorem stv_b {x : Int} (wf : WfS σ c) : 1 ≤ stv σ x ∧ stv σ x ≤ 40 := by
  have := wf.1.1
  unfold stv
  repeat' split
  all_goals omega
theorem nbt_b {B : Int} (wf : WfS σ c) (hB : 0 ≤ B) (ov : ¬ ovf σ B) : 0 ≤ nbt σ B ∧ nbt σ B ≤ 99999 := by
  obtain ⟨-, -, -, -, w4, w5, w6⟩ := wf.1
  unfold ovf at ov
  unfold nbt
  by_cases q : 0 < tz σ 4
  · rw [if_pos q]
    have : 0 ≤ bkt σ B := by unfold bkt; split <;> omega
    omega
  · rw [if_neg q]; exact w6
theorem WfS_k {z : Nat → Int} {d : Nat → Int → Int} {bt q : Int} (wf : WfS σ c) (h7 : tz σ 7 < 12) (pw : PW z d) (hb : 0 ≤ bt ∧ bt ≤ 99999) (hq : 1 ≤ q ∧ q ≤ 40) : WfS (stK σ z d bt q) c := by
  obtain ⟨⟨a0, a1, a2, a3, a4, a5, a6⟩, ⟨b1, b2, b3⟩, d', e, ⟨f1, f2, f3⟩, g⟩ := wf
  have t8 : tz (stK σ z d bt q) 8 = if z 6 = 0 then tz σ 8 else min (tz σ 8 + 1) 3 := rfl
  refine ⟨⟨hq, a1, a2, a3, a4, a5, hb⟩, ⟨(show 0 ≤ tz σ 7 + 1 ∧ tz σ 7 + 1 ≤ 12 by omega), ?_, fun j j0 j1 => ?_⟩, d', fun i i0 i1 => ?_, ⟨(show 0 ≤ tz σ 9 ∧ tz σ 9 ≤ tz σ 7 + 1 by omega), (show tz σ 10 = -1 ∨ (0 ≤ tz σ 10 ∧ tz σ 10 < tz σ 7 + 1) by omega), f3⟩, g⟩
  · rw [t8]; split <;> omega
  · rw [t8] at j1
    show 0 ≤ (if z 6 = 0 then tk σ j else if j = 0 then tz σ 7 else tk σ (j - 1)) ∧ (if z 6 = 0 then tk σ j else if j = 0 then tz σ 7 else tk σ (j - 1)) < tz σ 7 + 1
    by_cases e6 : z 6 = 0
    · rw [if_pos e6] at j1
      rw [if_pos e6]
      have := b3 j j0 j1
      omega
    · rw [if_neg e6] at j1
      rw [if_neg e6]
      by_cases e0 : j = 0
      · rw [if_pos e0]; omega
      · rw [if_neg e0]
        have := b3 (j - 1) (by omega) (by omega)
        omega
  · have i1' : i < tz σ 7 + 1 := i1
    show PW (if i = tz σ 7 then z else tpz σ i) (if i = tz σ 7 then d else tpd σ i)
    by_cases e7 : i = tz σ 7
    · rw [if_pos e7, if_pos e7]; exact pw
    · rw [if_neg e7, if_neg e7]; exact e i i0 (by omega)
theorem PW_k {kd a b : Int} {pd : Nat → Int → Int} {p u l : Int → Int} (wf : WfS σ c) (rq : isRq σ kd a b) (pp : pixels p) (cod : ∀ s, 0 ≤ s → s < 16 → Cod (tc σ) (CF1 σ kd a) (CF2 σ kd b) kd (tz σ 1) (tz σ 2) (tz σ 0) pd p s) {L0 L1 : Nat} (hL : L0 + L1 ≤ 3972) : PW (zK σ kd a b (erK (smo (tz σ 0) (tz σ 1) (tz σ 2) p) (tc σ) 256) L0 L1) (dK pd (smo (tz σ 0) (tz σ 1) (tz σ 2) p) u l) := by
  obtain ⟨w0, w1, w2, w3, -⟩ := wf.1
  have b8 := wf.2.1.2.1
  have cpx := CF_pix wf rq.2.1 rq.2.2
  have eb := erK_b (P := smo (tz σ 0) (tz σ 1) (tz σ 2) p) (C := tc σ) (smo_pix pp) wf.2.2.1 (n := 256) (by omega)
  have cw := fun s (hs : 0 ≤ s ∧ s < 16) => Cod_pdW rq.1 wf.2.2.1 pp (fun _ => cpx.1) (fun _ => cpx.2) w0 cod hs
  refine ⟨rq.1, fun q => ?_, fun q => ?_, w0, w1, w2, w3, (show 0 ≤ erK (smo (tz σ 0) (tz σ 1) (tz σ 2) p) (tc σ) 256 ∧ erK (smo (tz σ 0) (tz σ 1) (tz σ 2) p) (tc σ) 256 ≤ 1000000000 by omega), (show (0 : Int) ≤ (L0 : Int) ∧ (L0 : Int) ≤ 4096 by omega), (show (0 : Int) ≤ (L1 : Int) ∧ (L1 : Int) ≤ 4096 by omega), smo_pix pp, fun s s0 s1 => (cw s ⟨s0, s1⟩).1, fun s s0 s1 => (cw s ⟨s0, s1⟩).2⟩
  · have := rq.2.1 q
    show 0 ≤ a ∧ a < 3
    omega
  · have := rq.2.2 q
    show 0 ≤ b ∧ b < 3
    omega
end WFS
