/-! ===== the class codes: all of it ===== -/
def zK (σ : St) (kd a b er L0 L1 : Int) : Nat → Int := fun k => if k = 0 then kd else if k = 1 then a else if k = 2 then b else if k = 3 then tz σ 0 else if k = 4 then tz σ 1 else if k = 5 then tz σ 2 else if k = 6 then tz σ 3 else if k = 7 then er else if k = 8 then L0 else L1
def dK (pd : Nat → Int → Int) (P u l : Int → Int) : Nat → Int → Int := fun n => if n = 5 then P else if n = 6 then u else if n = 7 then l else pd n
def stK (σ : St) (z : Nat → Int) (d : Nat → Int → Int) (bt q : Int) : St := (fun j => if j = 7 then tz σ 7 + 1 else if j = 8 then (if z 6 = 0 then tz σ 8 else min (tz σ 8 + 1) 3) else if j = 6 then bt else if j = 0 then q else tz σ j, (σ.2.1, (fun j => if z 6 = 0 then tk σ j else if j = 0 then tz σ 7 else tk σ (j - 1), (fun i => if i = tz σ 7 then z else tpz σ i, (fun i => if i = tz σ 7 then d else tpd σ i, σ.2.2.2.2.2)))))
section CE
variable {σ : St} {h h' : am_H} {D : Nat} {c : Int}
def SBk (D : Nat) : Nat → Nat → Prop := fun a k => (a = D ∧ (k = 7 ∨ k = 8 ∨ k = 9)) ∨ (a = 5 ∧ k = 2) ∨ (a = 2 ∧ (k = 2 ∨ k = 8 ∨ k = 9 ∨ k = 11)) ∨ a = 6 ∨ a = 16
/-- a picture kept as it stands: the class at the end -/
theorem RC_app {cc ss A : Nat} {z : Nat → Int} {d : Nat → Int → Int} {bt q : Int} (F : Fr (SBk D) cc ss h h') (rc : RC σ h D) (n7 : 0 ≤ tz σ 7) (hA : hnx h ≤ A) (k9 : K9 h' 2) (eD : fA h' 2 9 = some A) (k6 : K6 h' A) (nA : A + 8 < hnx h') (f2 : fZ h' 2 2 = q) (f52 : fZ h' 5 2 = bt) (f8 : fZ h' 2 8 = tz σ 7 + 1) (f11 : fZ h' 2 11 = if z 6 = 0 then tz σ 8 else min (tz σ 8 + 1) 3) (b8 : 0 ≤ tz σ 8 ∧ tz σ 8 ≤ 3) (g16 : ∀ j, 0 ≤ j → j < 3 → gZ h' 16 j = if z 6 = 0 then gZ h 16 j else if j = 0 then tz σ 7 else gZ h 16 (j - 1)) (gD : gA h' 6 (tz σ 7) = some D) (gO : ∀ i, i ≠ tz σ 7 → gA h' 6 i = gA h 6 i) (pc : PC h' A D z d) : RC (stK σ z d bt q) h' A := by
  obtain ⟨a1, a2, al⟩ := RC_al rc
  have nx := F.1.nx
  obtain ⟨r1, r2, r6, r7, r8, r9, r10, rw⟩ := rc
  have n : ∀ a k, a ≠ D → a ≠ 5 → a ≠ 2 → a ≠ 6 → a ≠ 16 → ¬ SBk D a k := fun a k h1 h2 h3 h4 h5 w => by unfold SBk at w; omega
  obtain ⟨⟨s1, s2, s3, s4⟩, ⟨s5, s6, s7⟩, s8, s9⟩ := r7
  refine ⟨k9, ⟨eD, k6, by omega, nA⟩, (frZ F (by omega) (n _ _ (by omega) (by decide) (by decide) (by decide) (by decide))).trans r6, ⟨⟨f2, ?_, ?_, ?_⟩, ⟨?_, ?_, f52⟩, f8, f11⟩, fun j j0 j1 => ?_, fun i i0 i1 => ?_, ?_, RW_fr F al (n _ _ (by omega) (by decide) (by decide) (by decide) (by decide)) rw⟩
  · exact (F.1.fZ1 (by omega) (by unfold SBk; omega)).trans s2
  · exact (F.1.fZ1 (by omega) (by unfold SBk; omega)).trans s3
  · exact (F.1.fZ1 (by omega) (by unfold SBk; omega)).trans s4
  · exact (F.1.fZ1 (by omega) (by unfold SBk; omega)).trans s5
  · exact (F.1.fZ1 (by omega) (by unfold SBk; omega)).trans s6
  · have j1' : j < if z 6 = 0 then tz σ 8 else min (tz σ 8 + 1) 3 := j1
    show gZ h' 16 j = if z 6 = 0 then tk σ j else if j = 0 then tz σ 7 else tk σ (j - 1)
    by_cases e : z 6 = 0
    · rw [if_pos e] at j1'
      rw [g16 j j0 (by omega), if_pos e, if_pos e]
      exact r8 j j0 j1'
    · rw [if_neg e] at j1'
      rw [g16 j j0 (by omega), if_neg e, if_neg e]
      by_cases e0 : j = 0
      · rw [if_pos e0, if_pos e0]
      · rw [if_neg e0, if_neg e0]
        exact r8 (j - 1) (by omega) (by omega)
  · have i1' : i < tz σ 7 + 1 := i1
    show ∃ P, gA h' 6 i = some P ∧ PC h' A P (if i = tz σ 7 then z else tpz σ i) (if i = tz σ 7 then d else tpd σ i)
    by_cases e : i = tz σ 7
    · rw [if_pos e, if_pos e, e]
      exact ⟨D, gD, pc⟩
    · rw [if_neg e, if_neg e, gO i e]
      obtain ⟨P, p1, p2⟩ := r9 i i0 (by omega)
      exact ⟨P, p1, PC_fr F (dyn_new F hA) (by have := p2.2.1; omega) (fun a k w q => by have := w.1; have := w.2.2; unfold SBk at q; omega) p2⟩
  · exact RCd_fr (σ := σ) F al (fun a k a0 a1 => n _ _ (by omega) (by omega) (by omega) (by omega) (by omega)) r10
theorem c_code (rc : RC σ h D) (rd : pixels (gZ h (D + 8))) (wf : WfS σ c) {kd a b : Int} (wk : wr kd = kd) (wa : wr a = a) (wb : wr b = b) (rq : isRq σ kd a b) (hn7 : tz σ 7 < 12) : ∃ (pd : Nat → Int → Int) (p u l : Int → Int), pixels p ∧ (∀ s, 0 ≤ s → s < 16 → Cod (tc σ) (CF1 σ kd a) (CF2 σ kd b) kd (tz σ 1) (tz σ 2) (tz σ 0) pd p s) ∧ Dig u (ln0 pd kd (tz σ 1) (tz σ 2)) (dg0 pd kd (tz σ 1) (tz σ 2)) ∧ (tz σ 2 = 2 → Dig l (ln1 pd kd (tz σ 1) (tz σ 2)) (dg1 pd kd (tz σ 1) (tz σ 2))) ∧ (ovf σ (8 * (ln0 pd kd (tz σ 1) (tz σ 2) + ln1 pd kd (tz σ 1) (tz σ 2))) → ∃ h5, rn m_X11_code 0 [.ref 2, .int (mI kd), .int (mI a), .int (mI b), am_J] [] h = some (.inr 3, hexc h5) ∧ RC σ h5 D ∧ pixels (gZ h5 (D + 8)) ∧ Md (SKD D) h h5) ∧ (¬ ovf σ (8 * (ln0 pd kd (tz σ 1) (tz σ 2) + ln1 pd kd (tz σ 1) (tz σ 2))) → ∃ (h' : am_H) (D' : Nat), rn m_X11_code 0 [.ref 2, .int (mI kd), .int (mI a), .int (mI b), am_J] [] h = some (.inl (some (.int (mI (8 * (ln0 pd kd (tz σ 1) (tz σ 2) + ln1 pd kd (tz σ 1) (tz σ 2)))))), h') ∧ RC (stK σ (zK σ kd a b (erK (smo (tz σ 0) (tz σ 1) (tz σ 2) p) (tc σ) 256) (ln0 pd kd (tz σ 1) (tz σ 2) : Nat) (ln1 pd kd (tz σ 1) (tz σ 2) : Nat)) (dK pd (smo (tz σ 0) (tz σ 1) (tz σ 2) p) u l) (nbt σ (8 * (ln0 pd kd (tz σ 1) (tz σ 2) + ln1 pd kd (tz σ 1) (tz σ 2)))) (stv σ (nbt σ (8 * (ln0 pd kd (tz σ 1) (tz σ 2) + ln1 pd kd (tz σ 1) (tz σ 2)))))) h' D' ∧ pixels (gZ h' (D' + 8)) ∧ hnx h ≤ D' ∧ Fr (SCl D) 11 4564 h h') := by
  obtain ⟨h5, pd, p, st, m5, pp, cod, g8, ⟨f0, f1, f2, f3, f4, f5, f6⟩, ⟨l0, dgu⟩, l1, dgl, hpd⟩ := c_code_pre rc rd wf wk wa wb rq hn7
  obtain ⟨a1, a2, al⟩ := RC_al rc
  have n := WFn wf
  obtain ⟨w0, w1, w2, w3, w4, w5, w6⟩ := id wf.1
  have cpx := CF_pix wf rq.2.1 rq.2.2
  have rc5 := RC_own m5 rc
  have spx : pixels (smo (tz σ 0) (tz σ 1) (tz σ 2) p) := smo_pix pp
  have hb3 : ∀ s, 0 ≤ s → s < 16 → pdB pd s := fun s s0 s1 => Cod_pdB rq.1 wf.2.2.1 pp (fun _ => cpx.1) (fun _ => cpx.2) w0 ⟨s0, s1⟩ (cod s s0 s1)
  have lb := ln_b (kd := kd) (tl := tz σ 1) (sl := tz σ 2) hb3
  refine ⟨pd, p, gZ h5 31, gZ h5 34, pp, cod, dgu, dgl, ?_⟩
  generalize hL0 : ln0 pd kd (tz σ 1) (tz σ 2) = L0 at *
  generalize hL1 : ln1 pd kd (tz σ 1) (tz σ 2) = L1 at *
  have nx5 : hnx h5 = hnx h := m5.1.2.2.2.1
  obtain ⟨-, ⟨t0, t1, t2⟩, s8, s11⟩ := rc5.2.2.2.1
  rw [b_X11_code_185 rc5.1 rc5.2.1.1] at st
  simp only [Nat.reduceAdd] at st
  rw [t0, t1, t2] at st
  have eB : wr ((if tz σ 6 ≤ tz σ 5 then 0 else tz σ 6 - tz σ 5) + 8 * ((L0 : Int) + L1)) = bkt σ (8 * ((L0 : Int) + L1)) := by
    unfold bkt
    rw [wr_id]
    · split <;> omega
    · split <;> omega
  rw [eB] at st
  refine ⟨fun ov => ?_, fun ov => ?_⟩
  · unfold ovf at ov
    rw [if_neg (by omega)] at st
    exact ⟨h5, st, rc5, by rw [g8]; exact spx, m5⟩
  · unfold ovf at ov
    rw [if_pos (by omega)] at st
    have k7 : K7 h5 28 := K9_k13 rc5.1
    obtain ⟨h6, e6, F6, nx6, sU, nU, gU⟩ := slice_ret (h := h5) (x := 0) (w := 29) (n := L0) k7 (by omega) (Or.inl ⟨rfl, rfl⟩) l0 (by omega)
    have k96 : K9 h6 2 := K9_fr F6 (by omega) rc5.1
    have f32 : fZ h6 32 2 = (L1 : Nat) := (F6.1.fZ1 (by omega) (fun q => q)).trans l1
    obtain ⟨h7, e7, F7, nx7, sV, nV, gV⟩ := slice_ret (h := h6) (x := 1) (w := 32) (n := L1) (K9_k13 k96) (by omega) (Or.inr ⟨rfl, rfl⟩) f32 (by omega)
    have k97 : K9 h7 2 := K9_fr F7 (by omega) k96
    have F57 : Fr (fun _ _ => False) 2 (L0 + L1) h5 h7 := Fr_mono (Fr_tr (U := fun _ _ => False) F6 F7 (fun _ _ _ q => q) (fun _ _ _ q => q)) (fun _ _ _ q => q) (by omega) (by omega)
    have e6' : rn m_X8_slice 0 [.ref 28, .int (mI 0)] [] h5 = some (.inl (some (.ref (hnx h5))), h6) := e6
    have e7' : rn m_X8_slice 0 [.ref 28, .int (mI 1)] [] h6 = some (.inl (some (.ref (hnx h6))), h7) := e7
    rw [e6', cl_v, b_X11_code_221 k96] at st
    simp only [Nat.reduceAdd] at st
    rw [e7', cl_v, b_X11_code_229 k97 (K6_fr F57 (by omega) rc5.2.1.2.1)] at st
    simp only [Nat.reduceAdd] at st
    have g87 : gZ h7 (D + 8) = smo (tz σ 0) (tz σ 1) (tz σ 2) p := (frZ F57 (by omega) (fun q => q)).trans g8
    have g37 : gZ h7 3 = tc σ := (frZ F57 (by omega) (fun q => q)).trans rc5.2.2.1
    obtain ⟨h8, e8, m8, q8, q9, q7⟩ := finish_ok (h := h7) (K6_fr F57 (by omega) rc5.2.1.2.1) a1.1 (K9_s0 k97) (K9_n0 k97) (by rw [g87]; exact spx) (by rw [g37]; exact wf.2.2.1) (hnx h5) (hnx h6)
    rw [g87, g37] at q7
    have k98 := K9_sm m8.1 k97
    have b57 : fZ h8 5 0 = tz σ 4 ∧ fZ h8 5 1 = tz σ 5 ∧ fZ h8 5 2 = tz σ 6 := ⟨(md_fZ m8 (by omega)).trans ((F57.1.fZ1 (by omega) (fun q => q)).trans t0), (md_fZ m8 (by omega)).trans ((F57.1.fZ1 (by omega) (fun q => q)).trans t1), (md_fZ m8 (by omega)).trans ((F57.1.fZ1 (by omega) (fun q => q)).trans t2)⟩
    rw [e8, cl_n, b_X11_code_236 k98] at st
    simp only [Nat.reduceAdd] at st
    obtain ⟨h9, e9, m9, x52⟩ := take0_ok (K9_k6 k98) wf b57 (B := 8 * ((L0 : Int) + L1)) (by omega)
    have k99 := K9_sm m9.1 k98
    have x22 : fZ h9 2 2 = tz σ 0 := (md_fZ m9 (by omega)).trans ((md_fZ m8 (by omega)).trans ((F57.1.fZ1 (by omega) (fun q => q)).trans rc5.2.2.2.1.1.1))
    rw [e9, cl_n, b_X11_code_245 k99, x22] at st
    simp only [Nat.reduceAdd] at st
    have nb : 0 ≤ nbt σ (8 * ((L0 : Int) + L1)) ∧ nbt σ (8 * ((L0 : Int) + L1)) ≤ 300000 := by
      unfold nbt bkt
      split
      · split <;> omega
      · omega
    rw [steer_ok (K9_k6 k99) wf ⟨(md_fZ m9 (by omega)).trans b57.1, x52⟩ nb, cl_v, b_X11_code_257 k99 k99] at st
    generalize hq : stv σ (nbt σ (8 * ((L0 : Int) + L1))) = q' at *
    have q'b : 0 ≤ q' ∧ q' ≤ 41 := by
      rw [← hq]
      unfold stv
      repeat' split
      all_goals omega
    have m10 : Md (fun a k => a = 2 ∧ k = 2) h9 (uF 9 h9 2 2 (.int (mI q'))) := Md_uF (Sm_uF_9_2 _ _ _)
    have y22 : fZ (uF 9 h9 2 2 (.int (mI q'))) 2 2 = q' := by rw [fZ_uF_eq (K9_s k99) (okf_9_2 _), wr_id (by omega) (by omega)]
    have k910 := K9_sm m10.1 k99
    generalize uF 9 h9 2 2 (.int (mI q')) = h10 at *
    have m810 : Md (fun a k => (a = 5 ∧ k = 2) ∨ (a = 2 ∧ k = 2)) h8 h10 := Md_tr (Md_mono m9 fun a k q => Or.inl q) (Md_mono m10 fun a k q => Or.inr q)
    have m710 : Md (fun a k => (a = D ∧ (k = 7 ∨ k = 8 ∨ k = 9)) ∨ (a = 5 ∧ k = 2) ∨ (a = 2 ∧ k = 2)) h7 h10 := Md_tr (Md_mono m8 fun a k q => Or.inl q) (Md_mono m810 fun a k q => Or.inr q)
    have nx10 : hnx h10 = hnx h7 := m710.1.2.2.2.1
    have F510 : Fr (fun a k => (a = D ∧ (k = 7 ∨ k = 8 ∨ k = 9)) ∨ (a = 5 ∧ k = 2) ∨ (a = 2 ∧ k = 2)) 2 (L0 + L1) h5 h10 := Fr_mono (Fr_tr (U := fun a k => (a = D ∧ (k = 7 ∨ k = 8 ∨ k = 9)) ∨ (a = 5 ∧ k = 2) ∨ (a = 2 ∧ k = 2)) F57 (md_fr m710) (fun _ _ _ q => q.elim) (fun _ _ _ q => q)) (fun _ _ _ q => q) (by omega) (by omega)
    have k610 : K6 h10 D := K6_fr F510 (by omega) rc5.2.1.2.1
    have b8 := wf.2.1.2.1
    have s8' : fZ h5 2 8 = tz σ 7 := s8
    obtain ⟨h11, e11, F11, nx11, kA, zA, eD, k911, gD, gO, f8', f11', g16⟩ := takeDraft_ok (h := h10) (D := D) (n := tz σ 7) (k8 := tz σ 8) (kp := tz σ 3) k910 (by omega) ((F510.1.fA1 (by omega) (by omega)).trans rc5.2.1.1) k610 a1.1 ((F510.1.fZ1 (by omega) (by omega)).trans s8') ⟨n.1, hn7⟩ ((F510.1.fZ1 (by omega) (by omega)).trans s11) b8 ((F510.1.fZ1 (by omega) (by omega)).trans f6)
    rw [e11, cl_n, b_X11_code_264] at st
    have F511 : Fr (SBk D) 11 (L0 + L1 + 592) h5 h11 := Fr_mono (Fr_tr (U := SBk D) F510 F11 (fun a k _ q => by unfold SBk; omega) (fun a k _ q => by unfold STk at q; unfold SBk; omega)) (fun _ _ _ q => q) (by omega) (by omega)
    have F811 := Fr_tr (U := fun a k => (a = 5 ∧ k = 2) ∨ a = 2 ∨ a = 6 ∨ a = 16) (md_fr m810) F11 (fun a k _ q => by omega) (fun a k _ q => by unfold STk at q; omega)
    have nx8 : hnx h8 = hnx h7 := m8.1.2.2.2.1
    have nD : ∀ k, k ≤ 6 → ¬ SBk D D k := fun k hk q => by unfold SBk at q; omega
    have nA : ∀ a, D < a → a ≤ D + 8 → ¬ SBk D a 0 := fun a h1 h2 q => by unfold SBk at q; omega
    have rowU : isRow h11 (hnx h10) (hnx h5) (L0 : Nat) (gZ h5 31) := by
      have FU := Fr_tr (U := fun a k => a = D ∨ a = 5 ∨ a = 2 ∨ a = 6 ∨ a = 16) F7 (Fr_tr (U := fun a k => a = D ∨ a = 5 ∨ a = 2 ∨ a = 6 ∨ a = 16) (md_fr m710) F11 (fun a k _ q => by omega) (fun a k _ q => by unfold STk at q; omega)) (fun _ _ _ q => q.elim) (fun _ _ _ q => q)
      refine ⟨⟨by omega, by omega, Or.inl (by omega)⟩, ⟨(FU.1.sh1 (by omega)).trans sU, by rw [FU.1.gn1 (by omega), nU]⟩, fun i i0 i1 => ?_⟩
      rw [FU.1.gZ1 i (by omega) (by omega)]
      exact gU i i0 i1
    have rowV : isRow h11 (hnx h10) (hnx h6) (L1 : Nat) (gZ h5 34) := by
      have FV := Fr_tr (U := fun a k => a = D ∨ a = 5 ∨ a = 2 ∨ a = 6 ∨ a = 16) (md_fr m710) F11 (fun a k _ q => by omega) (fun a k _ q => by unfold STk at q; omega)
      refine ⟨⟨by omega, by omega, Or.inl (by omega)⟩, ⟨(FV.1.sh1 (by omega)).trans sV, by rw [FV.1.gn1 (by omega), nV]⟩, fun i i0 i1 => ?_⟩
      rw [FV.1.gZ1 i (by omega) (by omega), gV i i0 i1]
      exact F6.1.gZ1 i (by omega) (fun q => q)
    have pc : PC h11 (hnx h10) D (zK σ kd a b (erK (smo (tz σ 0) (tz σ 1) (tz σ 2) p) (tc σ) 256) (L0 : Nat) (L1 : Nat)) (dK pd (smo (tz σ 0) (tz σ 1) (tz σ 2) p) (gZ h5 31) (gZ h5 34)) := by
      refine ⟨K6_fr F11 (by omega) k610, ⟨a1.1, by omega, Or.inl (by omega)⟩, ⟨(F511.1.fZ1 (by omega) (nD _ (by decide))).trans f0, (F511.1.fZ1 (by omega) (nD _ (by decide))).trans f1, (F511.1.fZ1 (by omega) (nD _ (by decide))).trans f2, (F511.1.fZ1 (by omega) (nD _ (by decide))).trans f3, (F511.1.fZ1 (by omega) (nD _ (by decide))).trans f4, (F511.1.fZ1 (by omega) (nD _ (by decide))).trans f5, (F511.1.fZ1 (by omega) (nD _ (by decide))).trans f6, (F811.1.fJ1 (by omega) (by omega)).trans q7⟩, ⟨hnx h5, (F811.1.fA1 (by omega) (by omega)).trans q8, rowU⟩, ⟨hnx h6, (F811.1.fA1 (by omega) (by omega)).trans q9, rowV⟩, fun s s0 s1 => ⟨?_, ?_, ?_, ?_⟩, fun i i0 i1 => ⟨?_, ?_⟩⟩
      · exact (F511.1.gZ1 s (by omega) (nA _ (by omega) (by omega))).trans (congrFun (hpd 0 (by decide)) s)
      · exact (F511.1.gZ1 s (by omega) (nA _ (by omega) (by omega))).trans (congrFun (hpd 1 (by decide)) s)
      · exact (F511.1.gZ1 s (by omega) (nA _ (by omega) (by omega))).trans (congrFun (hpd 2 (by decide)) s)
      · exact (F511.1.gZ1 s (by omega) (nA _ (by omega) (by omega))).trans (congrFun (hpd 3 (by decide)) s)
      · exact (F511.1.gZ1 i (by omega) (nA _ (by omega) (by omega))).trans (congrFun (hpd 4 (by decide)) i)
      · refine (F511.1.gZ1 i (by omega) (nA _ (by omega) (by omega))).trans ?_
        rw [g8]
        rfl
    refine ⟨h11, hnx h10, st, ?_, fun i i0 i1 => by rw [zA]; omega, by omega, Fr_mono (Fr_tr (U := SCl D) (md_fr m5) F511 (fun a k _ q => by unfold SKD at q; unfold SCl; omega) (fun a k _ q => by unfold SBk at q; unfold SCl; omega)) (fun _ _ _ q => q) (by omega) (by omega)⟩
    exact RC_app F511 rc5 n.1 (by omega) k911 eD kA (by omega) ((F11.1.fZ1 (by omega) (by unfold STk; omega)).trans y22) ((F11.1.fZ1 (by omega) (by unfold STk; omega)).trans ((md_fZ m10 (by omega)).trans x52)) f8' f11' b8 (fun j j0 j1 => by
      have e16 : ∀ i, gZ h10 16 i = gZ h5 16 i := fun i => F510.1.gZ1 i (by omega) (by omega)
      rw [g16 j j0 j1, e16, e16]
      rfl) gD (fun i hi => by rw [gO i hi]; exact congrFun (F510.1.gA1 (by omega) (by omega)) i) pc
end CE
