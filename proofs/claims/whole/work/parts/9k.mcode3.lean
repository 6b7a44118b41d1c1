/-! ===== the model codes: all of it ===== -/
section MC4
variable {σ : St} {h h' : am_H} {D : Nat} {c : Int}
theorem erK_congr {P P' C C' : Int → Int} (e : ∀ i, 0 ≤ i → i < 256 → P i = P' i) (f : ∀ i, 0 ≤ i → i < 256 → C i = C' i) : erK P C 256 = erK P' C' 256 := sm_congr fun i i0 i1 => by simp only [e i i0 i1, f i i0 i1]
theorem m_last (k : K10 h 51) (wf : WfS σ c) {B X : Int} (hB : 0 ≤ B ∧ B ≤ 100000) (e8 : fZ h 51 8 = if tz σ 4 = 0 then -1 else tz σ 6) (e6 : fZ h 51 6 = tz σ 4) (e2 : fZ h 51 2 = tz σ 0) (hX : tz σ 4 ≠ 0 → X = bkt σ B) (v1 v2 v3 v4 v5 v6 v7 v8 v11 : Value) : ∃ h', rn m_X12_code 359 [.ref 51, v1, v2, v3, v4, v5, v6, v7, v8, .int (mI B), .int (mI X), v11] [] h = some (.inl (some (.int (mI B))), h') ∧ Md (fun a k => a = 51 ∧ (k = 8 ∨ k = 2)) h h' ∧ fZ h' 51 8 = (if tz σ 4 = 0 then -1 else nbt σ B) ∧ fZ h' 51 2 = stv σ (nbt σ B) := by
  obtain ⟨w0, -, -, -, w4, w5, w6⟩ := wf.1
  have st := b_X12_code_359 (a0 := 51) (v1 := v1) (v2 := v2) (v3 := v3) (v4 := v4) (v5 := v5) (v6 := v6) (v7 := v7) (v8 := v8) (v11 := v11) (x9 := B) (x10 := X) (h := h) k
  rw [e8, e6, e2] at st
  by_cases q : tz σ 4 = 0
  · rw [if_pos q, if_pos rfl] at st
    rw [if_pos q] at e8
    refine ⟨h, st, Md_rf _ _, by rw [if_pos q]; exact e8, ?_⟩
    unfold stv
    rw [if_neg (by omega)]
    exact e2
  · have hx := hX q
    have bb : 0 ≤ bkt σ B ∧ bkt σ B ≤ 200000 := by unfold bkt; split <;> omega
    rw [if_neg q, if_neg (by omega), wr_id (z := 4 * X) (by omega) (by omega), wr_id (z := 3 * tz σ 4) (by omega) (by omega)] at st
    have nb : nbt σ B = X := by unfold nbt; rw [if_pos (by omega), hx]
    have es : max 1 (min 40 (wr (tz σ 0 + (if 4 * X ≤ 3 * tz σ 4 then ((if tz σ 4 ≤ 4 * X then (0 : Int) else (-1)) : Int) else 1)))) = stv σ X := by
      unfold stv
      rw [if_pos (c := 0 < tz σ 4) (by omega)]
      by_cases c1 : 4 * X ≤ 3 * tz σ 4
      · rw [if_pos c1, if_pos c1]
        by_cases c2 : tz σ 4 ≤ 4 * X
        · rw [if_pos c2, if_pos c2, wr_id (by omega) (by omega)]
          omega
        · rw [if_neg c2, if_neg c2, wr_id (by omega) (by omega)]
          split <;> omega
      · rw [if_neg c1, if_neg c1, wr_id (by omega) (by omega)]
        split <;> omega
    rw [es] at st
    have sb : 0 ≤ stv σ X ∧ stv σ X ≤ 41 := by
      unfold stv
      repeat' split
      all_goals omega
    rw [nb]
    have m1 : Md (fun a k => a = 51 ∧ k = 8) h (uF 10 h 51 8 (.int (mI X))) := Md_uF (Sm_uF_10_8 _ _ _)
    have m2 : Md (fun a k => a = 51 ∧ k = 2) (uF 10 h 51 8 (.int (mI X))) (uF 10 (uF 10 h 51 8 (.int (mI X))) 51 2 (.int (mI (stv σ X)))) := Md_uF (Sm_uF_10_2 _ _ _)
    refine ⟨_, st, Md_tr (Md_mono m1 fun a k q => ⟨q.1, Or.inl q.2⟩) (Md_mono m2 fun a k q => ⟨q.1, Or.inr q.2⟩), ?_, ?_⟩
    · rw [if_neg q, fZ_uF_k (by decide), fZ_uF_eq (K10_s k) (okf_10_8 _), wr_id (by omega) (by omega)]
    · rw [fZ_uF_eq ((sh_uF _ _ _ _ _ _).trans (K10_s k)) (okf_10_2 _), wr_id (by omega) (by omega)]
theorem m_code (rm : RM σ h D) (wf : WfS σ c) (hD : 75 < hnx h ∧ D + 8 < hnx h) {kd a b : Int} (wk : wr kd = kd) (wa : wr a = a) (wb : wr b = b) (rq : isRq σ kd a b) (hn7 : tz σ 7 < 12) {pd : Nat → Int → Int} {p u l : Int → Int} (cod : ∀ s, 0 ≤ s → s < 16 → Cod (tc σ) (CF1 σ kd a) (CF2 σ kd b) kd (tz σ 1) (tz σ 2) (tz σ 0) pd p s) (pp : pixels p) (du : Dig u (ln0 pd kd (tz σ 1) (tz σ 2)) (dg0 pd kd (tz σ 1) (tz σ 2))) (dl : tz σ 2 = 2 → Dig l (ln1 pd kd (tz σ 1) (tz σ 2)) (dg1 pd kd (tz σ 1) (tz σ 2))) : (ovf σ (8 * (ln0 pd kd (tz σ 1) (tz σ 2) + ln1 pd kd (tz σ 1) (tz σ 2))) → MRs σ h D (rn m_X12_code 0 [.ref 51, .int (mI kd), .int (mI a), .int (mI b), am_J, am_J, am_J, am_J, am_J, am_J, am_J, am_J] [] h) (.int (mI 0)) 4 103 13796) ∧ (¬ ovf σ (8 * (ln0 pd kd (tz σ 1) (tz σ 2) + ln1 pd kd (tz σ 1) (tz σ 2))) → MRs (stK σ (zK σ kd a b (erK (smo (tz σ 0) (tz σ 1) (tz σ 2) p) (tc σ) 256) (ln0 pd kd (tz σ 1) (tz σ 2) : Nat) (ln1 pd kd (tz σ 1) (tz σ 2) : Nat)) (dK pd (smo (tz σ 0) (tz σ 1) (tz σ 2) p) u l) (nbt σ (8 * (ln0 pd kd (tz σ 1) (tz σ 2) + ln1 pd kd (tz σ 1) (tz σ 2)))) (stv σ (nbt σ (8 * (ln0 pd kd (tz σ 1) (tz σ 2) + ln1 pd kd (tz σ 1) (tz σ 2)))))) h D (rn m_X12_code 0 [.ref 51, .int (mI kd), .int (mI a), .int (mI b), am_J, am_J, am_J, am_J, am_J, am_J, am_J, am_J] [] h) (.int (mI (8 * (ln0 pd kd (tz σ 1) (tz σ 2) + ln1 pd kd (tz σ 1) (tz σ 2))))) 0 103 13796) := by
  obtain ⟨h4, N, W, U, r3, v4, v5, v10, v11, st, F, th, mr⟩ := m_code_pre rm wf hD wk wa wb rq hn7 cod pp du dl
  have rm4 : RM σ h4 D := RM_own F (fun a k q => q) rm
  have n := WFn wf
  have b8 := wf.2.1.2.1
  obtain ⟨w0, w1, w2, w3, w4, w5, w6⟩ := id wf.1
  have cpx := CF_pix wf rq.2.1 rq.2.2
  have hb3 : ∀ s, 0 ≤ s → s < 16 → pdB pd s := fun s s0 s1 => Cod_pdB rq.1 wf.2.2.1 pp (fun _ => cpx.1) (fun _ => cpx.2) w0 ⟨s0, s1⟩ (cod s s0 s1)
  have lb := ln_b (kd := kd) (tl := tz σ 1) (sl := tz σ 2) hb3
  clear hb3 cod du dl
  generalize ln0 pd kd (tz σ 1) (tz σ 2) = L0 at *
  generalize ln1 pd kd (tz σ 1) (tz σ 2) = L1 at *
  obtain ⟨⟨x27, x30, x31, x32⟩, ⟨sN, sM, sV, sL, sW, sU, nU⟩, ⟨o1, o2, o3, o4, o5, o6, o7, o8, o9, o10⟩, x33, pN, gN, gS, gV, gU, rN, rY⟩ := mr
  obtain ⟨⟨s2, s3, s4, s5⟩, ⟨s6, s7, s8⟩, s9, s26⟩ := rm4.2.2.2.1
  have al := rm.2.1
  have nx4 := F.1.nx
  have st5 := b_X12_code_265 (a0 := 51) (a6 := W) (a7 := U) (r8 := r3) (x1 := kd) (x2 := a) (x3 := b) (x9 := 8 * ((L0 : Int) + L1)) (v4 := v4) (v5 := v5) (v10 := v10) (v11 := v11) (h := h4) rm4.1
  rw [s8, s7, s6] at st5
  have FS : Fr SMl2 103 13796 h h4 := Fr_mono F (fun a k _ q => by unfold OWN at q; unfold SMl2; omega) (Nat.le_refl _) (Nat.le_refl _)
  have bk : tz σ 4 ≠ 0 → max 0 (wr (tz σ 6 - tz σ 5)) + 8 * ((L0 : Int) + L1) = bkt σ (8 * ((L0 : Int) + L1)) := fun _ => by
    rw [wr_id (by omega) (by omega)]
    unfold bkt
    split <;> omega
  have bb : 0 ≤ bkt σ (8 * ((L0 : Int) + L1)) ∧ bkt σ (8 * ((L0 : Int) + L1)) ≤ 200000 := by unfold bkt; split <;> omega
  unfold ovf
  refine ⟨fun ov => ?_, fun ov => ?_⟩
  · rw [if_neg (c := tz σ 4 = 0) (by omega), if_neg (by omega), bk (by omega), wr_id (z := bkt σ (8 * ((L0 : Int) + L1))) (by omega) (by omega), if_neg (by omega)] at st5
    obtain ⟨r1, r2, r3', -⟩ := thr_ok (z := 4) rm4 (wr_id (by decide) (by decide))
    exact ⟨_, st.trans st5, r1, r2, Fr_mono (Fr_tr (U := SMl2) FS r3' (fun _ _ _ q => q) (fun _ _ _ q => q)) (fun _ _ _ q => q) (by omega) (by omega)⟩
  · obtain ⟨X, st6, hX⟩ : ∃ X, rn m_X12_code 0 [.ref 51, .int (mI kd), .int (mI a), .int (mI b), am_J, am_J, am_J, am_J, am_J, am_J, am_J, am_J] [] h = rn m_X12_code 306 [.ref 51, .int (mI kd), .int (mI a), .int (mI b), v4, v5, .ref W, .ref U, am_rv r3, .int (mI (8 * ((L0 : Int) + L1))), .int (mI X), v11] [] h4 ∧ (tz σ 4 ≠ 0 → X = bkt σ (8 * ((L0 : Int) + L1))) := by
      by_cases q : tz σ 4 = 0
      · rw [if_pos q, if_pos rfl] at st5
        exact ⟨_, st.trans st5, fun w => absurd q w⟩
      · rw [if_neg q, if_neg (by omega), bk q, wr_id (z := bkt σ (8 * ((L0 : Int) + L1))) (by omega) (by omega), if_pos (by omega)] at st5
        exact ⟨_, st.trans st5, fun _ => rfl⟩
    clear st st5
    rw [b_X12_code_306 rm4.1 x27, s2, s3, s4] at st6
    obtain ⟨h5, e5, m5, g5⟩ := smooths_ok (q := tz σ 0) (tl := tz σ 1) (sl := tz σ 2) sN.1 sN.2 (by omega) pN w0 w2
    have k5 := K10_sm m5.1 rm4.1
    rw [e5, cl_n, b_X12_code_325 wk k5] at st6
    have wx5 : wr (if ¬ kd = 105 then (a : Int) else (-1)) = if ¬ kd = 105 then (a : Int) else (-1) := by
      split
      · exact wa
      · exact wr_id (by decide) (by decide)
    have wx6 : wr (if ¬ kd = 98 then ((-1) : Int) else b) = if ¬ kd = 98 then ((-1) : Int) else b := by
      split
      · exact wr_id (by decide) (by decide)
      · exact wb
    have q5 : ∀ k, fZ h5 51 k = fZ h4 51 k := fun k => md_fZ m5 (by omega)
    have p5 : ∀ k, fA h5 51 k = fA h4 51 k := fun k => md_fA m5 (by omega)
    have c52 : gZ h5 52 = tc σ := (md_Z m5 (by omega)).trans rm4.2.2.1
    obtain ⟨h6, e6, m6, ⟨y53, y54, y55, y56, y57, y58, y59, y60⟩, y61, ⟨y62, y63, y65, y66, y67, y64⟩, y9, y26, y68⟩ := keeps_ok (h := h5) (n := tz σ 7) (kd := kd) (q := tz σ 0) (tl := tz σ 1) (sl := tz σ 2) (kp := tz σ 3) (k8 := tz σ 8) (B := 8 * ((L0 : Int) + L1)) (N := N) (W := W) (U := U) (r3 := r3) k5 ((q5 _).trans s9) ⟨n.1, hn7⟩ ((q5 _).trans x33) rq.1 ((q5 _).trans s2) ((q5 _).trans s3) ((q5 _).trans s4) ((q5 _).trans s5) ((q5 _).trans s26) b8 ⟨(p5 _).trans x27, (p5 _).trans x30, (p5 _).trans x31, (p5 _).trans x32⟩ (by omega) (by omega) (by omega) ⟨(md_sh m5 _).trans sN.1, (md_gn m5 _).trans sN.2⟩ ((md_sh m5 _).trans sM.1) ((md_sh m5 _).trans sV.1) ((md_sh m5 _).trans sL.1) ((md_sh m5 _).trans sW.1) ((md_sh m5 _).trans sU) (fun V hV => by
      by_cases q2 : tz σ 2 = 2
      · obtain ⟨V', v1, -, v3, -⟩ := rY q2
        rw [v1] at hV
        cases hV
        exact (md_sh m5 _).trans v3.1
      · rw [rN q2] at hV
        cases hV) (by rw [g5]; exact smo_pix pN) (by rw [c52]; exact wf.2.2.1) wx5 wx6 (wr_id (by omega) (by omega))
    have k6 := K10_sm m6.1 k5
    have q6 : ∀ k, k ≠ 9 → k ≠ 26 → fZ h6 51 k = fZ h4 51 k := fun k h1 h2 => (md_fZ m6 (by omega)).trans (q5 k)
    obtain ⟨h7, e7, m7, z8, z2⟩ := m_last (h := h6) (X := X) (B := 8 * ((L0 : Int) + L1)) k6 wf (by omega) ((q6 _ (by decide) (by decide)).trans s8) ((q6 _ (by decide) (by decide)).trans s6) ((q6 _ (by decide) (by decide)).trans s2) hX (.int (mI kd)) (.int (mI a)) (.int (mI b)) v4 v5 (.ref W) (.ref U) (am_rv r3) v11
    rw [e6, cl_n, e7] at st6
    have m47 : Md (fun x k => x = N ∨ (53 ≤ x ∧ x ≤ 68) ∨ (x = 51 ∧ (k = 9 ∨ k = 26 ∨ k = 8 ∨ k = 2))) h4 h7 := Md_tr (Md_mono m5 fun x k q => Or.inl q) (Md_tr (Md_mono m6 fun x k q => by omega) (Md_mono m7 fun x k q => by omega))
    have nx7 : hnx h7 = hnx h4 := m47.1.2.2.2.1
    have F7 : Fr SAp 103 13796 h h7 := Fr_mono (Fr_tr (U := SAp) F (md_fr m47) (fun x k _ q => by unfold OWN at q; unfold SAp; omega) (fun x k hx q => by unfold SAp; omega)) (fun _ _ _ q => q) (by omega) (by omega)
    have m67 : ∀ x, 53 ≤ x → gZ h7 x = gZ h6 x ∧ gA h7 x = gA h6 x := fun x hx => ⟨md_Z m7 (by omega), md_gA m7 (by omega)⟩
    have j67 : ∀ i, gJ h7 61 i = gJ h6 61 i := fun i => md_gJ m7 (by omega) i
    have z5 : ∀ x, 53 ≤ x → x ≤ 68 → gZ h5 x = gZ h x := fun x h1 h2 => (md_Z m5 (by omega)).trans (frZ F (by omega) (by unfold OWN; omega))
    have a5 : ∀ x, 53 ≤ x → x ≤ 68 → gA h5 x = gA h x := fun x h1 h2 => (md_gA m5 (by omega)).trans (F.1.gA1 (by omega) (by unfold OWN; omega))
    have j5 : ∀ i, gJ h5 61 i = gJ h 61 i := fun i => (md_gJ m5 (by omega) i).trans (F.1.gJ1 i (by omega) (by unfold OWN; omega))
    -- arrays beside
    have big : ∀ x, 68 < x → x ≠ N → ∀ i, gZ h7 x i = gZ h4 x i := fun x h1 h2 i => md_gZ m47 (by omega) i
    have sh7 : ∀ x, sh h7 x = sh h4 x ∧ gn h7 x = gn h4 x := fun x => ⟨md_sh m47 x, md_gn m47 x⟩
    have g7N : ∀ i, 0 ≤ i → i < 256 → gZ h7 N i = smo (tz σ 0) (tz σ 1) (tz σ 2) p i := fun i i0 i1 => by
      rw [md_gZ m7 (by omega) i, md_gZ m6 (by omega) i, g5]
      exact smo_congr (fun j j0 j1 => (gN j j0 j1).1) i i0 i1
    have eE : erK (gZ h5 N) (gZ h5 52) 256 = erK (smo (tz σ 0) (tz σ 1) (tz σ 2) p) (tc σ) 256 := erK_congr (fun i i0 i1 => by rw [g5]; exact smo_congr (fun j j0 j1 => (gN j j0 j1).1) i i0 i1) (fun i _ _ => by rw [c52])
    rw [eE] at y61
    have dN : ∀ x, hnx h ≤ x → x < hnx h4 → dyn h7 D x := fun x h1 h2 => ⟨by omega, by omega, Or.inr (by omega)⟩
    have pm : PM h7 D (tz σ 7) (zK σ kd a b (erK (smo (tz σ 0) (tz σ 1) (tz σ 2) p) (tc σ) 256) (L0 : Nat) (L1 : Nat)) (dK pd (smo (tz σ 0) (tz σ 1) (tz σ 2) p) u l) := by
      refine ⟨⟨?_, ?_, ?_, ?_, ?_, ?_, ?_, ?_, ?_⟩, ⟨N, ?_, ⟨dN N (by omega) (by omega), ⟨(sh7 N).1.trans sN.1, by rw [(sh7 N).2, sN.2]; rfl⟩, g7N⟩⟩, ⟨⟨N + 3, ?_, dN _ (by omega) (by omega), ⟨(sh7 _).1.trans sL.1, (sh7 _).2.trans sL.2⟩, fun j j0 j1 => ?_⟩, ⟨W, ?_, dN _ (by omega) (by omega), ⟨(sh7 _).1.trans sW.1, (sh7 _).2.trans sW.2⟩, fun s s0 s1 => ?_⟩, ⟨N + 1, ?_, dN _ (by omega) (by omega), ⟨(sh7 _).1.trans sM.1, (sh7 _).2.trans sM.2⟩, fun s s0 s1 => ?_⟩, N + 2, ?_, dN _ (by omega) (by omega), ⟨(sh7 _).1.trans sV.1, (sh7 _).2.trans sV.2⟩, fun s s0 s1 => ?_⟩, ⟨U, ?_, dN U (by omega) (by omega), ⟨(sh7 _).1.trans sU, by rw [(sh7 _).2]; exact nU⟩, fun i i0 i1 => ?_⟩, fun q2 => ?_⟩
      · rw [(m67 53 (by decide)).1, y53, if_pos rfl]; rfl
      · rw [(m67 54 (by decide)).1, y54, if_pos rfl]; rfl
      · rw [(m67 55 (by decide)).1, y55, if_pos rfl]; rfl
      · rw [(m67 56 (by decide)).1, y56, if_pos rfl]; rfl
      · rw [(m67 57 (by decide)).1, y57, if_pos rfl]; rfl
      · rw [(m67 58 (by decide)).1, y58, if_pos rfl]
        show (if ¬ kd = 105 then (a : Int) else (-1)) = if kd = 105 then -1 else a
        by_cases e : kd = 105
        · rw [if_neg (fun w => w e), if_pos e]
        · rw [if_pos e, if_neg e]
      · rw [(m67 59 (by decide)).1, y59, if_pos rfl]
        show (if ¬ kd = 98 then ((-1) : Int) else b) = if kd = 98 then b else -1
        by_cases e : kd = 98
        · rw [if_neg (fun w => w e), if_pos e]
        · rw [if_pos e, if_neg e]
      · rw [(m67 60 (by decide)).1, y60, if_pos rfl]; rfl
      · rw [j67, y61, if_pos rfl]; rfl
      · rw [(m67 62 (by decide)).2, y62, if_pos rfl]
      · rw [(m67 63 (by decide)).2, y63, if_pos rfl]
      · rw [big _ (by omega) (by omega)]; exact (gN j j0 j1).2
      · rw [(m67 65 (by decide)).2, y65, if_pos rfl]
      · rw [big _ (by omega) (by omega)]; exact (gS s s0 s1).1
      · rw [(m67 66 (by decide)).2, y66, if_pos rfl]
      · rw [big _ (by omega) (by omega)]; exact (gS s s0 s1).2
      · rw [(m67 67 (by decide)).2, y67, if_pos rfl]
      · have e := big (N + 2) (by omega) (by omega)
        rw [e, e, e, e]
        exact gV s s0 s1
      · rw [(m67 64 (by decide)).2, y64, if_neg (by omega), if_pos rfl]
      · rw [big _ (by omega) (by omega)]; exact gU i i0 i1
      · obtain ⟨V, v1, v2, v3, v4'⟩ := rY q2
        refine ⟨V, ?_, dN V (by omega) (by omega), ⟨(sh7 _).1.trans v3.1, by rw [(sh7 _).2]; exact v3.2⟩, fun i i0 i1 => ?_⟩
        · rw [(m67 64 (by decide)).2, y64, if_pos rfl]; exact v1
        · rw [big _ (by omega) (by omega)]; exact v4' i i0 i1
    refine ⟨h7, st6, RM_app F7 rm b8 n.1 z2 z8 ((md_fZ m7 (by omega)).trans y9) ((md_fZ m7 (by omega)).trans y26) (fun x h1 h2 i hi => ?_) (fun i hi => ?_) (fun x h1 h2 h3 i hi => ?_) (fun i h1 h2 => ?_) (fun j j0 j1 => ?_) pm, (md_fZ m7 (by omega)).trans ((md_fZ m6 (by omega)).trans ((q5 0).trans th)), Fr_mono F7 (fun x k _ q => by unfold SAp at q; unfold SMl2; omega) (Nat.le_refl _) (Nat.le_refl _)⟩
    · rw [(m67 x h1).1, ← z5 x h1 (by omega)]
      have : x = 53 ∨ x = 54 ∨ x = 55 ∨ x = 56 ∨ x = 57 ∨ x = 58 ∨ x = 59 ∨ x = 60 := by omega
      rcases this with rfl | rfl | rfl | rfl | rfl | rfl | rfl | rfl
      · rw [y53, if_neg hi]
      · rw [y54, if_neg hi]
      · rw [y55, if_neg hi]
      · rw [y56, if_neg hi]
      · rw [y57, if_neg hi]
      · rw [y58, if_neg hi]
      · rw [y59, if_neg hi]
      · rw [y60, if_neg hi]
    · rw [j67, y61, if_neg hi, j5]
    · rw [(m67 x (by omega)).2, ← a5 x (by omega) (by omega)]
      have : x = 62 ∨ x = 63 ∨ x = 65 ∨ x = 66 ∨ x = 67 := by omega
      rcases this with rfl | rfl | rfl | rfl | rfl
      · rw [y62, if_neg hi]
      · rw [y63, if_neg hi]
      · rw [y65, if_neg hi]
      · rw [y66, if_neg hi]
      · rw [y67, if_neg hi]
    · rw [(m67 64 (by decide)).2, ← a5 64 (by decide) (by decide), y64, if_neg h2, if_neg h1]
    · rw [(m67 68 (by decide)).1, ← z5 68 (by decide) (by decide)]
      exact y68 j j0 j1
end MC4
