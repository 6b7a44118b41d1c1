/-! ===== the coder's choice: all squares ===== -/
theorem choose_ok {h : am_H} {C D a : Nat} {c f1 f2 : Int → Int} {kd tl sl q : Int} (y : Cy C D a c kd tl sl q) (x : Cx h C D a c f1 f2 kd tl sl q) (hp : pixels (gZ h (D + 8))) : ∃ (h' : am_H) (p : Int → Int), rn m_X2_choose 0 [.ref C, .ref D, .ref a, am_J, am_J, am_J, am_J] [] h = some (.inl none, h') ∧ Md (SCo C D) h h' ∧ pixels p ∧ (∀ s, 0 ≤ s → s < 16 → Cod c f1 f2 kd tl sl q (pdh h' D) p s) ∧ gZ h' (D + 8) = smo q tl sl p := by
  have y0 := y
  obtain ⟨y1, y2, y3, y4, y5, y6, y7, y8⟩ := y
  have nb := nmo_b y5
  let I : Int → (Int × (Value × Value)) → am_H → Prop := fun i x h' => 0 ≤ i ∧ Md (SCo C D) h h' ∧ pixels (gZ h' (D + 8)) ∧ (∀ s, 0 ≤ s → s < i → Cod c f1 f2 kd tl sl q (pdh h' D) (gZ h' (D + 8)) s) ∧ (x.1 = 4 ∨ x.1 = 8) ∧ (i % 4 ≠ 0 → x.1 = if splitB c tl q (8 * (i / 4 % 2)) (8 * (i / 8 % 2)) then 4 else 8) ∧ (i % 4 ≠ 0 → x.1 = 8 → ∀ s, i ≤ s → s < 4 * (i / 4) + 4 → Rd c f1 f2 kd tl sl q C D h' s)
  have tail : ∀ (i Z : Int) (h2 : am_H), 0 ≤ i → i < 16 → (Z = 4 ∨ Z = 8) → Md (SCo C D) h h2 → pixels (gZ h2 (D + 8)) → (∀ s, 0 ≤ s → s < i → Cod c f1 f2 kd tl sl q (pdh h2 D) (gZ h2 (D + 8)) s) → (Z = if splitB c tl q (8 * (i / 4 % 2)) (8 * (i / 8 % 2)) then 4 else 8) → (∀ s, i ≤ s → s < (if Z = 4 then i + 1 else 4 * (i / 4) + 4) → Rd c f1 f2 kd tl sl q C D h2 s) → ∃ s' h', rn m_X2_choose 91 [.ref C, .ref D, .ref a, .int (mI Z), .int (mI i), .int (mI (cx i)), .int (mI (cy i))] [] h2 = rn m_X2_choose 6 [.ref C, .ref D, .ref a, .int (mI s'.1), .int (mI (i + 1)), s'.2.1, s'.2.2] [] h' ∧ I (i + 1) s' h' := by
    intro i Z h2 i0 i1 hZ md hp2 hcod hsp hrd
    have x2 := Cx_md y0 md x
    have rdi := hrd i (by omega) (by split <;> omega)
    obtain ⟨r1, r2, r3⟩ := id rdi
    have cb := cmo_b (tl := tl) (c := c) (p := gZ h2 (D + 8)) (f1 := f1) (f2 := f2) (X := X0 (pdh h2 D 0) i) (Y := Y0 (pdh h2 D 0) i) (Z := SZ (pdh h2 D 0) i) (T := tp sl (Y0 (pdh h2 D 0) i)) y5
    have ro := x2.2.2.2.2.2.2.2.2.2
    have em := r2.1
    rw [← em] at cb
    have gb := fun k (hk : 0 ≤ k ∧ k < 16) => Gq_b (pd := pdh h2 D) (f1 := f1) (f2 := f2) (sl := sl) hp2 (fun q => (ro.1 (nb.2.1 (by omega))).2) (fun q => (ro.2 (nb.2.2 (by omega))).2) (by omega) ⟨i0, i1⟩ hk
    obtain ⟨h3, e3, m3, p3, ag, cd, rs⟩ := square_ok (v3 := Z) (v4 := i) y0 x2 hp2 ⟨i0, i1⟩ rdi (fun k k0 k1 => by rw [r3 k k0 k1]; exact gb k ⟨k0, k1⟩) (cx i) (cy i) rfl rfl
    refine ⟨(Z, (.int (mI (cx i)), .int (mI (cy i)))), h3, e3.trans b_X2_choose_126, by omega, Md_tr md m3, p3, fun s s0 s1 => ?_, hZ, fun q => ?_, fun q1 q2 s s0 s1 => ?_⟩
    · by_cases e : s = i
      · subst e; exact cd
      · exact Cod_agr ag ⟨s0, by omega⟩ (by omega) (hcod s s0 (by omega))
    · rw [show (i + 1) / 4 = i / 4 by omega, show (i + 1) / 8 = i / 8 by omega]
      exact hsp
    · have q2' : Z = 8 := q2
      have rd := hrd s (by omega) (by rw [if_neg (by omega)]; omega)
      refine rs s (by omega) (by omega) ?_ rd
      have e1 := rd.1
      unfold E1 at e1
      rw [start8 ⟨by omega, by omega⟩ ?_]
      · omega
      · rw [e1, show s / 4 = i / 4 by omega, show s / 8 = i / 8 by omega, ← hsp]
        omega
  rw [b_X2_choose_0]
  refine lp (m := m_X2_choose) (pc := 6) (L := fun i (x : Int × (Value × Value)) => [.ref C, .ref D, .ref a, .int (mI x.1), .int (mI i), x.2.1, x.2.2]) (N := 16) (P := fun r => ∃ (h' : am_H) (p : Int → Int), r = some (.inl none, h') ∧ Md (SCo C D) h h' ∧ pixels p ∧ (∀ s, 0 ≤ s → s < 16 → Cod c f1 f2 kd tl sl q (pdh h' D) p s) ∧ gZ h' (D + 8) = smo q tl sl p) I ?_ ?_ 0 (8, am_J, am_J) h (by omega) ⟨by omega, Md_rf _ _, hp, fun s _ _ => by omega, Or.inr rfl, fun q => absurd rfl q, fun q => absurd rfl q⟩
  · intro i z h' hi ⟨i0, md, hp', hcod, hz, hsp, hrd⟩
    obtain ⟨z, v5, v6⟩ := z
    simp only at hz hsp hrd
    have x' := Cx_md y0 md x
    obtain ⟨x1, x2, x3, x4, x5, x6, x7, x8, x9, x10⟩ := id x'
    have st := b_X2_choose_6 (a0 := C) (a1 := D) (a2 := a) (x3 := z) (v5 := v5) (v6 := v6) (h := h') (wr_id (z := z) (by omega) (by omega)) (wr_id (z := i) (by omega) (by omega)) x1 x2 (fun _ => ⟨i0, hi⟩)
    rw [if_neg (by omega)] at st
    by_cases c4 : i % 4 = 0
    · rw [if_pos c4] at st
      have ecx : cx i = 8 * (i / 4 % 2) := by unfold cx; omega
      have ecy : cy i = 8 * (i / 8 % 2) := by unfold cy; omega
      have sp := isToSplit_ok (X := cx i) (Y := cy i) (tl := tl) (q := q) x2 x3 x4 (by decide) (by rw [x5]; exact y4) x7 x8 y6 y8 (by omega) (by omega)
      rw [x5] at sp
      rw [sp, cl_v] at st
      have st2 := b_X2_choose_44 (a0 := C) (a1 := D) (a2 := a) (v3 := .int (mI z)) (x5 := cx i) (x6 := cy i) (xs0 := bZ (splitB c tl q (cx i) (cy i))) (h := h') (wr_id (z := i) (by omega) (by omega)) (wr_cy i) (wr_bZ _) ⟨i0, hi⟩ x1 x2
      have eZ : (if bZ (splitB c tl q (cx i) (cy i)) = 0 then (8 : Int) else 4) = if splitB c tl q (8 * (i / 4 % 2)) (8 * (i / 8 % 2)) then 4 else 8 := by
        rw [← ecx, ← ecy]
        by_cases cs : splitB c tl q (cx i) (cy i)
        · rw [bZ_t cs, if_pos cs, if_neg (by decide)]
        · rw [bZ_f cs, if_neg cs, if_pos rfl]
      rw [if_pos c4, eZ, x9] at st2
      obtain ⟨Z, hZe⟩ : ∃ Z : Int, Z = if splitB c tl q (8 * (i / 4 % 2)) (8 * (i / 8 % 2)) then 4 else 8 := ⟨_, rfl⟩
      rw [← hZe] at st2
      have hZ8 : Z = 4 ∨ Z = 8 := by rw [hZe]; split <;> simp
      obtain ⟨h2, e2, m2, ep, ag, rd⟩ := part_ok (i := i) (Z := Z) y0 x' hp' ⟨i0, hi⟩ (hZ8.imp id fun q => ⟨q, c4⟩) hZe rfl rfl rfl rfl
      rw [e2, cl_n] at st2
      have rd' : ∀ s, i ≤ s → s < (if Z = 4 then i + 1 else 4 * (i / 4) + 4) → Rd c f1 f2 kd tl sl q C D h2 s := by
        intro s s0 s1
        refine rd s s0 ?_
        by_cases qq : Z = 4
        · rw [if_pos qq] at s1 ⊢
          omega
        · rw [if_neg qq] at s1 ⊢
          omega
      obtain ⟨s', h3, e3, i3⟩ := tail i Z h2 i0 hi hZ8 (Md_tr md m2) (by rw [ep]; exact hp') (fun s s0 s1 => Cod_agr ag ⟨s0, by omega⟩ s1 (hcod s s0 s1)) hZe rd'
      exact ⟨s', h3, st.trans (st2.trans e3), i3⟩
    · rw [if_neg c4, if_neg c4] at st
      by_cases cz : z = 4
      · subst cz
        rw [if_neg (fun q => q rfl), x9] at st
        obtain ⟨h2, e2, m2, ep, ag, rd⟩ := part_ok (i := i) (Z := 4) y0 x' hp' ⟨i0, hi⟩ (Or.inl rfl) (hsp c4) rfl rfl rfl rfl
        rw [e2, cl_n] at st
        obtain ⟨s', h3, e3, i3⟩ := tail i 4 h2 i0 hi (Or.inl rfl) (Md_tr md m2) (by rw [ep]; exact hp') (fun s s0 s1 => Cod_agr ag ⟨s0, by omega⟩ s1 (hcod s s0 s1)) (hsp c4) (fun s s0 s1 => rd s s0 s1)
        exact ⟨s', h3, st.trans e3, i3⟩
      · rw [if_pos cz] at st
        obtain ⟨s', h3, e3, i3⟩ := tail i z h' i0 hi hz md hp' hcod (hsp c4) (fun s s0 s1 => hrd c4 (by omega) s s0 (by rw [if_neg cz] at s1; exact s1))
        exact ⟨s', h3, st.trans e3, i3⟩
  · intro z h' ⟨i0, md, hp', hcod, hz, hsp, hrd⟩
    obtain ⟨z, v5, v6⟩ := z
    simp only at hz
    have x' := Cx_md y0 md x
    obtain ⟨x1, x2, x3, x4, x5, x6, x7, x8, x9, x10⟩ := id x'
    have st := b_X2_choose_6 (a0 := C) (a1 := D) (a2 := a) (x3 := z) (v5 := v5) (v6 := v6) (h := h') (wr_id (z := z) (by omega) (by omega)) (wr_id (z := 16) (by omega) (by omega)) x1 x2 (fun _ => by omega)
    rw [if_pos (by omega)] at st
    obtain ⟨h2, e2, m2, g2⟩ := smooth_ok (v := am_J) (a := D + 8) x2 (K6_s15 x2) (K6_n15 x2) (by decide) (by omega) hp' x7 x8 x9 y8 y7 (C + 1)
    rw [e2, cl_n, b_X2_choose_144] at st
    have p4 : ∀ n, n < 5 → pdh h2 D n = pdh h' D n := fun n hn => md_Z m2 (by omega)
    refine ⟨h2, gZ h' (D + 8), st, Md_tr md (Md_mono m2 fun c k q => by unfold SCo; omega), hp', fun s s0 s1 => ?_, g2⟩
    refine Cod_agr (i := 16) (fun t t0 t1 => ⟨⟨by rw [p4 0 (by decide)], by rw [p4 1 (by decide)], by rw [p4 2 (by decide)], by rw [p4 3 (by decide)]⟩, fun k k0 k1 => ⟨by rw [p4 4 (by decide)], rfl⟩⟩) ⟨s0, s1⟩ s1 (hcod s s0 s1)
