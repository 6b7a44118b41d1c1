/-! ===== the model codes: up to the bucket, on ===== -/
section MC3
variable {σ : St} {h h' : am_H} {D : Nat} {c : Int}
theorem vXY_enc {x y : Int} (hx : okw x) (hy : okw y) : vX (100 * (x + 8) + y + 8) = x ∧ vY (100 * (x + 8) + y + 8) = y := by
  unfold okw at hx hy
  unfold vX vY
  omega
/-- what the arrays of the model hold once a picture is coded -/
def Mres (σ : St) (g : am_H) (N W U : Nat) (r3 : Option Nat) (kd L0 L1 : Int) (pd : Nat → Int → Int) (p u l : Int → Int) (lo : Nat) : Prop := (fA g 51 27 = some N ∧ fA g 51 30 = some (N + 1) ∧ fA g 51 31 = some (N + 2) ∧ fA g 51 32 = some (N + 3)) ∧ ((sh g N = (1, 0) ∧ gn g N = 256) ∧ (sh g (N + 1) = (1, 0) ∧ gn g (N + 1) = 16) ∧ (sh g (N + 2) = (1, 0) ∧ gn g (N + 2) = 64) ∧ (sh g (N + 3) = (1, 0) ∧ gn g (N + 3) = 256) ∧ (sh g W = (1, 0) ∧ gn g W = 16) ∧ sh g U = (1, 0) ∧ (gn g U : Int) = L0) ∧ (lo ≤ N ∧ N + 3 < hnx g ∧ lo ≤ W ∧ W < hnx g ∧ lo ≤ U ∧ U < hnx g ∧ W ≠ N ∧ U ≠ N ∧ N + 3 < W ∧ N + 3 < U) ∧ fZ g 51 33 = kd ∧ pixels (gZ g N) ∧ (∀ i, 0 ≤ i → i < 256 → gZ g N i = p i ∧ gZ g (N + 3) i = pd 4 i) ∧ (∀ s, 0 ≤ s → s < 16 → gZ g W (rs s) = pd 0 s ∧ gZ g (N + 1) (rs s) = pd 1 s) ∧ (∀ s, 0 ≤ s → s < 16 → ((pd 1 s = 4 ∨ pd 1 s = 6) → gZ g (N + 2) (4 * rs s) = vX (pd 2 s) ∧ gZ g (N + 2) (4 * rs s + 1) = vY (pd 2 s)) ∧ ((pd 1 s = 5 ∨ pd 1 s = 6) → gZ g (N + 2) (4 * rs s + 2) = vX (pd 3 s) ∧ gZ g (N + 2) (4 * rs s + 3) = vY (pd 3 s))) ∧ (∀ i, 0 ≤ i → i < L0 → gZ g U i = u i) ∧ (tz σ 2 ≠ 2 → r3 = none) ∧ (tz σ 2 = 2 → ∃ V, r3 = some V ∧ (lo ≤ V ∧ V < hnx g ∧ N + 3 < V) ∧ (sh g V = (1, 0) ∧ (gn g V : Int) = L1) ∧ ∀ i, 0 ≤ i → i < L1 → gZ g V i = l i)
theorem m_code_pre (rm : RM σ h D) (wf : WfS σ c) (hD : 75 < hnx h ∧ D + 8 < hnx h) {kd a b : Int} (wk : wr kd = kd) (wa : wr a = a) (wb : wr b = b) (rq : isRq σ kd a b) (hn7 : tz σ 7 < 12) {pd : Nat → Int → Int} {p u l : Int → Int} (cod : ∀ s, 0 ≤ s → s < 16 → Cod (tc σ) (CF1 σ kd a) (CF2 σ kd b) kd (tz σ 1) (tz σ 2) (tz σ 0) pd p s) (pp : pixels p) (du : Dig u (ln0 pd kd (tz σ 1) (tz σ 2)) (dg0 pd kd (tz σ 1) (tz σ 2))) (dl : tz σ 2 = 2 → Dig l (ln1 pd kd (tz σ 1) (tz σ 2)) (dg1 pd kd (tz σ 1) (tz σ 2))) : ∃ (h4 : am_H) (N W U : Nat) (r3 : Option Nat) (v4 v5 v10 v11 : Value), rn m_X12_code 0 [.ref 51, .int (mI kd), .int (mI a), .int (mI b), am_J, am_J, am_J, am_J, am_J, am_J, am_J, am_J] [] h = rn m_X12_code 265 [.ref 51, .int (mI kd), .int (mI a), .int (mI b), v4, v5, .ref W, .ref U, am_rv r3, .int (mI (8 * ((ln0 pd kd (tz σ 1) (tz σ 2) : Int) + ln1 pd kd (tz σ 1) (tz σ 2)))), v10, v11] [] h4 ∧ Fr OWN 103 13796 h h4 ∧ fZ h4 51 0 = 0 ∧ Mres σ h4 N W U r3 kd (ln0 pd kd (tz σ 1) (tz σ 2)) (ln1 pd kd (tz σ 1) (tz σ 2)) pd p u l (hnx h) := by
  obtain ⟨v4, v5, st⟩ := (m_code_x rm wf wk wa wb).2.2.2 rq hn7
  obtain ⟨t1, t2, t3, tm⟩ := thr_ok (z := 0) rm (wr_id (by decide) (by decide))
  have nx1 : hnx (uF 10 h 51 0 (.int (mI 0))) = hnx h := tm.1.2.2.2.1
  generalize uF 10 h 51 0 (.int (mI 0)) = h1 at *
  obtain ⟨w0, w1, w2, w3, -⟩ := wf.1
  have cpx := CF_pix wf rq.2.1 rq.2.2
  have al := t1.2.1
  obtain ⟨hB, eB, mB, f33, R1, R2⟩ := m_lay t1 wf wk wa wb rq v4 v5 am_J am_J am_J am_J am_J am_J
  rw [eB] at st
  have rmB : RM σ hB D := RM_own (md_fr mB) (fun a k q => Or.inl ⟨q.1, by omega⟩) t1
  have nxB : hnx hB = hnx h := mB.1.2.2.2.1.trans nx1
  obtain ⟨g, eg, Fg, nxg, ⟨x27, x30, x31, x32⟩, ⟨sN, sM, sV, sL⟩, zN, zL⟩ := m_new rmB.1 rmB.2.1 kd a b v4 v5 am_J am_J am_J am_J am_J am_J
  rw [eg] at st
  rw [nxB] at nxg x27 x30 x31 x32 sN sM sV sL zN zL
  have F1g : Fr (fun a k => a = 51 ∧ (27 ≤ k ∧ k ≤ 33)) 4 592 h1 g := Fr_mono (Fr_tr (U := fun a k => a = 51 ∧ (27 ≤ k ∧ k ≤ 33)) (md_fr mB) Fg (fun a k _ q => ⟨q.1, by omega⟩) (fun a k _ q => ⟨q.1, by omega⟩)) (fun _ _ _ q => q) (by omega) (by omega)
  have kg : K10 g 51 := K10_fr F1g (by omega) t1.1
  have rmg : RM σ g D := RM_own F1g (fun a k q => Or.inl ⟨q.1, by omega⟩) t1
  have lean1 : ∀ (x : Nat) (f : Int → Int), pixels f → (∃ B, fA hB 51 x = some B ∧ isRow h1 D B 256 f) → x = 28 ∨ x = 29 → ∃ f', hv f' = hv f ∧ pixels f' ∧ picR g 51 (hnx h) (fA g 51 x) f' := by
    intro x f pf hB' hx
    obtain ⟨B, b1, b2⟩ := hB'
    have gB : ∀ i, gZ g B i = gZ h1 B i := fun i => F1g.1.gZ1 i b2.1.2.1 (by have := b2.1.1; omega)
    have e : ∀ i, 0 ≤ i → i < 256 → gZ g B i = f i := fun i i0 i1 => by rw [gB]; exact b2.2.2 i i0 i1
    refine ⟨gZ g B, hv_congr e, fun i i0 i1 => by rw [e i i0 i1]; exact pf i i0 i1, B, ?_, ⟨by have := b2.1.1; omega, by have := b2.1.2.1; omega⟩, (F1g.1.sh1 b2.1.2.1).trans b2.2.1.1, ?_, rfl, fun i i0 i1 => by rw [e i i0 i1]; exact pf i i0 i1⟩
    · rw [Fg.1.fA1 (by omega) (by omega)]; exact b1
    · have := F1g.1.gn1 b2.1.2.1
      have := b2.2.1.2
      omega
  obtain ⟨f1, e1, p1, o1⟩ : ∃ f1, hv f1 = hv (CF1 σ kd a) ∧ pixels f1 ∧ (kd ≠ 105 → picR g 51 (hnx h) (fA g 51 28) f1) := by
    by_cases e : kd = 105
    · exact ⟨CF1 σ kd a, rfl, cpx.1, fun q => absurd e q⟩
    · obtain ⟨f, y1, y2, y3⟩ := lean1 28 _ cpx.1 (R1 e) (Or.inl rfl)
      exact ⟨f, y1, y2, fun _ => y3⟩
  obtain ⟨f2, e2, p2, o2⟩ : ∃ f2, hv f2 = hv (CF2 σ kd b) ∧ pixels f2 ∧ (kd = 98 → picR g 51 (hnx h) (fA g 51 29) f2) := by
    by_cases e : kd = 98
    · obtain ⟨f, y1, y2, y3⟩ := lean1 29 _ cpx.2 (R2 e) (Or.inr rfl)
      exact ⟨f, y1, y2, fun _ => y3⟩
    · exact ⟨CF2 σ kd b, rfl, cpx.2, fun q => absurd q e⟩
  have g33 : fZ g 51 33 = kd := (Fg.1.fZ1 (by omega) (by omega)).trans f33
  have rs2 := rmg.2.2.2.1
  have mx : Mx g 51 (hnx h) (tc σ) f1 f2 kd (tz σ 1) (tz σ 2) (tz σ 0) := ⟨kg, ⟨x27, x30, x31, x32⟩, ⟨sN, sM, sV, sL⟩, rmg.2.2.1, ⟨g33, rs2.1.1, rs2.1.2.1, rs2.1.2.2.1⟩, o1, o2⟩
  obtain ⟨h2, ec, F2, nx2, sW, nW, lb2, pp2, cd⟩ := codesParts_ok ⟨by omega, wf.2.2.1, rq.1, w1, w2, w0⟩ mx (by omega) (fun i i0 i1 => by rw [zN]; omega) (fun i i0 i1 => by rw [zL, Int.mul_zero]; omega)
  have cod2 : ∀ s, 0 ≤ s → s < 16 → Cod (tc σ) (CF1 σ kd a) (CF2 σ kd b) kd (tz σ 1) (tz σ 2) (tz σ 0) (pdm h2 (hnx h) (hnx g)) (gZ h2 (hnx h)) s := fun s s0 s1 => Cod_hv e1 e2 (cd s s0 s1).1
  have ag := Cod_one cod2 cod 16 (Nat.le_refl _)
  have eS : ∀ w, slS (pdm h2 (hnx h) (hnx g)) kd (tz σ 1) (tz σ 2) w 16 = slS pd kd (tz σ 1) (tz σ 2) w 16 := fun w => slS_congr ag 16 (Nat.le_refl _)
  have hb2 : ∀ s, 0 ≤ s → s < 16 → pdB (pdm h2 (hnx h) (hnx g)) s := fun s s0 s1 => Cod_pdB rq.1 wf.2.2.1 pp2 (fun _ => cpx.1) (fun _ => cpx.2) w0 ⟨s0, s1⟩ (cod2 s s0 s1)
  have hW2 : ∀ s, 0 ≤ s → s < 16 → pdm h2 (hnx h) (hnx g) 0 s = pdm h2 (hnx h) (hnx g) 0 (4 * (s / 4)) := fun s s0 s1 => (Cod_pdW rq.1 wf.2.2.1 pp2 (fun _ => cpx.1) (fun _ => cpx.2) w0 cod2 ⟨s0, s1⟩).1.2.1
  have n2 : ∀ x k, x < hnx h → ¬ SPa (hnx h) x k := fun x k hx q => by unfold SPa at q; omega
  have k2 : K10 h2 51 := K10_fr F2 (by omega) kg
  rw [ec, cl_v, b_X12_code_212 k2] at st
  have fA2 : ∀ k, fA h2 51 k = fA g 51 k := fun k => F2.1.fA1 (by omega) (n2 _ _ (by omega))
  have fZ2 : ∀ k, fZ h2 51 k = fZ g 51 k := fun k => F2.1.fZ1 (by omega) (n2 _ _ (by omega))
  have sh2 : ∀ x, x < hnx g → sh h2 x = sh g x ∧ gn h2 x = gn g x := fun x hx => ⟨F2.1.sh1 hx, F2.1.gn1 hx⟩
  have pmm : Pm h2 51 (hnx h) (hnx g) (pdm h2 (hnx h) (hnx g)) kd (tz σ 1) (tz σ 2) := ⟨⟨(fA2 _).trans x30, (fA2 _).trans x31, (fA2 _).trans x32⟩, ⟨⟨(sh2 _ (by omega)).1.trans sM.1, (sh2 _ (by omega)).2.trans sM.2⟩, ⟨(sh2 _ (by omega)).1.trans sV.1, (sh2 _ (by omega)).2.trans sV.2⟩, ⟨(sh2 _ (by omega)).1.trans sL.1, (sh2 _ (by omega)).2.trans sL.2⟩, sW, nW⟩, ⟨(fZ2 _).trans g33, (fZ2 _).trans rs2.1.2.1, (fZ2 _).trans rs2.1.2.2.1⟩, rfl, fun s s0 s1 => (cd s s0 s1).2, by omega, by omega⟩
  obtain ⟨h3, e3, F3, nx3, sU, nU, dgU⟩ := sSlice_ok (M := 51) (w := 0) k2 pmm (by omega) nx2 w1 w2 hb2 hW2 (Or.inl rfl)
  rw [eS 0] at nU dgU F3
  have k3 : K10 h3 51 := K10_fr F3 (by omega) k2
  rw [e3, cl_v, b_X12_code_221 k3] at st
  have n3 : ∀ x k, 71 < x → ¬ SMl 51 x k := fun x k hx q => by unfold SMl SM at q; omega
  have n3' : ∀ k, k ≠ 36 → k ≠ 37 → ¬ SMl 51 51 k := fun k h1 h2 q => by unfold SMl SM at q; omega
  have pm3 : Pm h3 51 (hnx h) (hnx g) (pdm h2 (hnx h) (hnx g)) kd (tz σ 1) (tz σ 2) := by
    obtain ⟨⟨a1, a2, a3⟩, ⟨⟨c1, c2⟩, ⟨c3, c4⟩, ⟨c5, c6⟩, c7, c8⟩, ⟨d1, d2, d3⟩, -, vb, m1, m2⟩ := pmm
    refine ⟨⟨(F3.1.fA1 (by omega) (n3' _ (by decide) (by decide))).trans a1, (F3.1.fA1 (by omega) (n3' _ (by decide) (by decide))).trans a2, (F3.1.fA1 (by omega) (n3' _ (by decide) (by decide))).trans a3⟩, ⟨⟨(F3.1.sh1 (by omega)).trans c1, (F3.1.gn1 (by omega)).trans c2⟩, ⟨(F3.1.sh1 (by omega)).trans c3, (F3.1.gn1 (by omega)).trans c4⟩, ⟨(F3.1.sh1 (by omega)).trans c5, (F3.1.gn1 (by omega)).trans c6⟩, (F3.1.sh1 (by omega)).trans c7, (F3.1.gn1 (by omega)).trans c8⟩, ⟨(F3.1.fZ1 (by omega) (n3' _ (by decide) (by decide))).trans d1, (F3.1.fZ1 (by omega) (n3' _ (by decide) (by decide))).trans d2, (F3.1.fZ1 (by omega) (n3' _ (by decide) (by decide))).trans d3⟩, ?_, fun s s0 s1 => ?_, m1, m2⟩
    · funext n s
      unfold pdm
      simp only [frZ F3 (a := hnx g) (by omega) (n3 _ _ (by omega)), frZ F3 (a := hnx h + 1) (by omega) (n3 _ _ (by omega)), frZ F3 (a := hnx h + 2) (by omega) (n3 _ _ (by omega)), frZ F3 (a := hnx h + 3) (by omega) (n3 _ _ (by omega))]
    · have := vb s s0 s1
      unfold VB at *
      rw [frZ F3 (a := hnx h + 1) (by omega) (n3 _ _ (by omega)), frZ F3 (a := hnx h + 2) (by omega) (n3 _ _ (by omega))]
      exact this
  have eL0 : (runA A0 (slS pd kd (tz σ 1) (tz σ 2) 0 16).1).2.2.2 + 4 = ln0 pd kd (tz σ 1) (tz σ 2) := rfl
  rw [eL0] at nU dgU F3
  have eD0 : (runA A0 (slS pd kd (tz σ 1) (tz σ 2) 0 16).1).2.1 = dg0 pd kd (tz σ 1) (tz σ 2) := rfl
  rw [eD0] at dgU
  -- the second slice, or none
  obtain ⟨r3, h4, s4, F4, nx4, c1, c2⟩ : ∃ (r3 : Option Nat) (h4 : am_H), (∃ v6 v7 : Value, rn m_X12_code 0 [.ref 51, .int (mI kd), .int (mI a), .int (mI b), am_J, am_J, am_J, am_J, am_J, am_J, am_J, am_J] [] h = rn m_X12_code 265 [.ref 51, .int (mI kd), .int (mI a), .int (mI b), v6, v7, .ref (hnx g), .ref (hnx h2), am_rv r3, .int (mI (8 * ((ln0 pd kd (tz σ 1) (tz σ 2) : Int) + ln1 pd kd (tz σ 1) (tz σ 2)))), am_J, am_J] [] h4) ∧ Fr (SMl 51) 1 (ln1 pd kd (tz σ 1) (tz σ 2)) h3 h4 ∧ hnx h3 ≤ hnx h4 ∧ (tz σ 2 ≠ 2 → r3 = none) ∧ (tz σ 2 = 2 → ∃ V, r3 = some V ∧ V = hnx h3 ∧ V < hnx h4 ∧ (sh h4 V = (1, 0) ∧ gn h4 V = ln1 pd kd (tz σ 1) (tz σ 2)) ∧ Dig (gZ h4 V) (ln1 pd kd (tz σ 1) (tz σ 2)) (dg1 pd kd (tz σ 1) (tz σ 2))) := by
    rw [pm3.2.2.1.2.2] at st
    by_cases q : tz σ 2 = 2
    · obtain ⟨h4, e4, F4, nx4, sY, nY, dgY⟩ := sSlice_ok (M := 51) (w := 1) k3 pm3 (by omega) (by omega) w1 w2 hb2 hW2 (Or.inr ⟨rfl, q⟩)
      rw [eS 1] at nY dgY F4
      have eL1 : (runA A0 (slS pd kd (tz σ 1) (tz σ 2) 1 16).1).2.2.2 + 4 = ln1 pd kd (tz σ 1) (tz σ 2) := by unfold ln1; rw [if_pos q]
      rw [eL1] at nY dgY F4
      rw [if_neg (fun w => w q), e4, cl_v, b_X12_code_238] at st
      have st5 := b_X12_code_242 (a0 := 51) (a6 := hnx g) (a7 := hnx h2) (n_a7 := ln0 pd kd (tz σ 1) (tz σ 2)) (z_rs0 := hnx h3) (n_z_rs0 := ln1 pd kd (tz σ 1) (tz σ 2)) (rs0 := some (hnx h3)) (x1 := kd) (x2 := a) (x3 := b) (v4 := v4) (v5 := am_k1 v5) (v8 := am_J) (v9 := am_J) (v10 := am_J) (v11 := am_J) (h := h4) ((F4.1.gn1 (by omega)).trans nU) ((F4.1.sh1 (by omega)).trans sU) (fun _ => rfl) (fun _ => nY) (fun _ => sY)
      rw [if_pos (by intro w; cases w)] at st5
      exact ⟨some (hnx h3), h4, ⟨_, _, st.trans st5⟩, F4, by omega, fun w => absurd q w, fun _ => ⟨_, rfl, rfl, by omega, ⟨sY, nY⟩, dgY⟩⟩
    · have e10 : ln1 pd kd (tz σ 1) (tz σ 2) = 0 := by unfold ln1; rw [if_neg q]
      rw [if_pos q] at st
      have st5 := b_X12_code_242 (a0 := 51) (a6 := hnx g) (a7 := hnx h2) (n_a7 := ln0 pd kd (tz σ 1) (tz σ 2)) (z_rs0 := 0) (n_z_rs0 := 0) (rs0 := none) (x1 := kd) (x2 := a) (x3 := b) (v4 := v4) (v5 := am_k1 v5) (v8 := am_J) (v9 := am_J) (v10 := am_J) (v11 := am_J) (h := h3) nU sU (fun w => absurd rfl w) (fun w => absurd rfl w) (fun w => absurd rfl w)
      rw [if_neg (fun w => w rfl)] at st5
      refine ⟨none, h3, ⟨v4, am_k1 v5, ?_⟩, Fr_mono (Fr_rf _ _) (fun _ _ _ q => q) (by omega) (by omega), Nat.le_refl _, fun _ => rfl, fun w => absurd w q⟩
      rw [e10]
      exact st.trans st5
  obtain ⟨v6, v7, s4⟩ := s4
  have hb3 : ∀ s, 0 ≤ s → s < 16 → pdB pd s := fun s s0 s1 => Cod_pdB rq.1 wf.2.2.1 pp (fun _ => cpx.1) (fun _ => cpx.2) w0 ⟨s0, s1⟩ (cod s s0 s1)
  have lb := ln_b (kd := kd) (tl := tz σ 1) (sl := tz σ 2) hb3
  have FT : Fr OWN 103 13796 h h4 := by
    have Fa := Fr_tr (U := OWN) (md_fr tm) F1g (fun a k _ q => by unfold OWN; omega) (fun a k _ q => by unfold OWN; omega)
    have Fb := Fr_tr (U := OWN) Fa F2 (fun _ _ _ q => q) (fun a k ha q => absurd q (n2 _ _ ha))
    have Fc := Fr_tr (U := OWN) Fb F3 (fun _ _ _ q => q) (fun a k _ q => by unfold SMl SM at q; unfold OWN; omega)
    have Fd := Fr_tr (U := OWN) Fc F4 (fun _ _ _ q => q) (fun a k _ q => by unfold SMl SM at q; unfold OWN; omega)
    exact Fr_mono Fd (fun _ _ _ q => q) (by omega) (by omega)
  have F24 := Fr_tr (U := SMl 51) F3 F4 (fun _ _ _ q => q) (fun _ _ _ q => q)
  have z2 : ∀ x, hnx h ≤ x → x < hnx h2 → ∀ i, gZ h4 x i = gZ h2 x i := fun x h1 h2 i => F24.1.gZ1 i (by omega) (n3 _ _ (by omega))
  refine ⟨h4, hnx h, hnx g, hnx h2, r3, v6, v7, am_J, am_J, s4, FT, ?_, ⟨?_, ?_, ?_, ?_⟩, ⟨⟨?_, ?_⟩, ⟨?_, ?_⟩, ⟨?_, ?_⟩, ⟨?_, ?_⟩, ⟨?_, ?_⟩, ?_, ?_⟩, by omega, ?_, ?_, fun i i0 i1 => ⟨?_, ?_⟩, fun s s0 s1 => ⟨?_, ?_⟩, fun s s0 s1 => ?_, fun i i0 i1 => ?_, c1, fun q => ?_⟩
  · rw [F24.1.fZ1 (by omega) (n3' _ (by decide) (by decide)), fZ2, F1g.1.fZ1 (by omega) (by omega)]; exact t2
  · rw [F24.1.fA1 (by omega) (n3' _ (by decide) (by decide)), fA2]; exact x27
  · rw [F24.1.fA1 (by omega) (n3' _ (by decide) (by decide)), fA2]; exact x30
  · rw [F24.1.fA1 (by omega) (n3' _ (by decide) (by decide)), fA2]; exact x31
  · rw [F24.1.fA1 (by omega) (n3' _ (by decide) (by decide)), fA2]; exact x32
  · exact (F24.1.sh1 (by omega)).trans ((sh2 _ (by omega)).1.trans sN.1)
  · exact (F24.1.gn1 (by omega)).trans ((sh2 _ (by omega)).2.trans sN.2)
  · exact (F24.1.sh1 (by omega)).trans ((sh2 _ (by omega)).1.trans sM.1)
  · exact (F24.1.gn1 (by omega)).trans ((sh2 _ (by omega)).2.trans sM.2)
  · exact (F24.1.sh1 (by omega)).trans ((sh2 _ (by omega)).1.trans sV.1)
  · exact (F24.1.gn1 (by omega)).trans ((sh2 _ (by omega)).2.trans sV.2)
  · exact (F24.1.sh1 (by omega)).trans ((sh2 _ (by omega)).1.trans sL.1)
  · exact (F24.1.gn1 (by omega)).trans ((sh2 _ (by omega)).2.trans sL.2)
  · exact (F24.1.sh1 (by omega)).trans sW
  · exact (F24.1.gn1 (by omega)).trans nW
  · exact (F4.1.sh1 (by omega)).trans sU
  · rw [F4.1.gn1 (by omega), nU]
  · rw [F24.1.fZ1 (by omega) (n3' _ (by decide) (by decide)), fZ2]; exact g33
  · exact fun i i0 i1 => by rw [z2 _ (by omega) (by omega)]; exact pp2 i i0 i1
  · rw [z2 _ (by omega) (by omega)]; exact (agr_all2 ag i i0 i1).1
  · rw [z2 _ (by omega) (by omega)]; exact (agr_all2 ag i i0 i1).2
  · rw [z2 _ (by omega) (by omega)]; exact (ag s s0 s1).1.1
  · rw [z2 _ (by omega) (by omega)]; exact (ag s s0 s1).1.2.1
  · obtain ⟨-, b1, b2, b3⟩ := (ag s s0 s1).1
    obtain ⟨y1, y2⟩ := (cd s s0 s1).2
    have b1' : gZ h2 (hnx h + 1) (rs s) = pd 1 s := b1
    have b2' : used1 (gZ h2 (hnx h + 1) (rs s)) (100 * (gZ h2 (hnx h + 2) (4 * rs s) + 8) + gZ h2 (hnx h + 2) (4 * rs s + 1) + 8) = pd 2 s := b2
    have b3' : used2 (gZ h2 (hnx h + 1) (rs s)) (100 * (gZ h2 (hnx h + 2) (4 * rs s + 2) + 8) + gZ h2 (hnx h + 2) (4 * rs s + 3) + 8) = pd 3 s := b3
    rw [b1'] at b2' b3' y1 y2
    have z := z2 (hnx h + 2) (by omega) (by omega)
    rw [z, z, z, z]
    refine ⟨fun q => ?_, fun q => ?_⟩
    · unfold used1 at b2'
      rw [if_pos q] at b2'
      have := vXY_enc (y1 q).1 (y1 q).2
      rw [b2'] at this
      exact ⟨this.1.symm, this.2.symm⟩
    · unfold used2 at b3'
      rw [if_pos q] at b3'
      have := vXY_enc (y2 q).1 (y2 q).2
      rw [b3'] at this
      exact ⟨this.1.symm, this.2.symm⟩
  · rw [F4.1.gZ1 i (by omega) (n3 _ _ (by omega))]
    exact Dig_one dgU du i i0 i1
  · obtain ⟨V, q1, q2, q3, ⟨q4, q5⟩, q6⟩ := c2 q
    exact ⟨V, q1, by omega, ⟨q4, by rw [q5]⟩, fun i i0 i1 => Dig_one q6 (dl q) i i0 i1⟩
end MC3
