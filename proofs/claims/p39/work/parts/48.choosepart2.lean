/-! ===== the choice of a part, to its end ===== -/
def SCh (C D : Nat) : Nat → Nat → Prop := fun c k => c = C + 6 ∨ c = C + 7 ∨ (c = C + 1 ∧ (k = 4 ∨ k = 5)) ∨ c = C + 8 ∨ (c = C + 10 ∧ (k = 4 ∨ k = 5 ∨ k = 6)) ∨ SNo D c k
theorem choosePart_ok {h : am_H} {C D a : Nat} {p f1 f2 : Int → Int} {X Y Z T kd tl : Int} (kC : K2 h C) (kD : K6 h D) (s : sh h a = (1, 0)) (n1 : gn h a = 256) (hDC : D + 8 < C ∨ C + 10 < D) (aC : a < C ∨ C + 10 < a) (hc : pixels (gZ h a)) (hp : pixels p) (ep : gZ h (D + 8) = p) (pa : partAt h (C + 10) X Y Z T) (ip : isPart X Y Z T) (mm : X % 4 = 0 ∧ Y % 4 = 0) (e0 : fZ h D 0 = kd) (e4 : fZ h D 4 = tl) (hk : isKind kd) (ro : refOk h (C + 1) kd f1 f2) : ∃ h', rn m_X2_choosePart 0 [.ref C, .ref D, .ref a, am_J, am_J, am_J, am_J, am_J] [] h = some (.inl none, h') ∧ Md (SCh C D) h h' ∧ (∀ x y, X ≤ x → x < X + Z → Y ≤ y → y < Y + Z → gZ h' (C + 8) (16 * y + x) = gss p f1 f2 X Y Z T (cmo kd tl (gZ h a) p f1 f2 X Y Z T) (cv1 kd tl (gZ h a) f1 X Y Z) (cv2 kd tl (gZ h a) f2 X Y Z) x y) ∧ (∀ s, 0 ≤ s → s < 16 → (inPart X Y Z s → told h' D Z (cmo kd tl (gZ h a) p f1 f2 X Y Z T) (cv1 kd tl (gZ h a) f1 X Y Z) (cv2 kd tl (gZ h a) f2 X Y Z) s) ∧ (¬ inPart X Y Z s → same4 h h' D s)) := by
  obtain ⟨h1, st1, md1, g5, g6⟩ := cp_start kC kD s n1 hDC hc aC pa ip e0 e4 hk ro
  have o1 : kd ≠ 105 → okv (cv1 kd tl (gZ h a) f1 X Y Z) := fun q => by unfold cv1; rw [if_neg q]; exact bestv_okv (stp_ok tl)
  have o2 : kd = 98 → okv (cv2 kd tl (gZ h a) f2 X Y Z) := fun q => by unfold cv2; rw [if_pos q]; exact bestv_okv (stp_ok tl)
  have cb := cmo_b (tl := tl) (c := gZ h a) (p := p) (f1 := f1) (f2 := f2) (X := X) (Y := Y) (Z := Z) (T := T) hk
  have hcm : cmo kd tl (gZ h a) p f1 f2 X Y Z T = bestm (gZ h a) p f1 f2 X Y Z T (cv1 kd tl (gZ h a) f1 X Y Z) (cv2 kd tl (gZ h a) f2 X Y Z) (nmo kd) := rfl
  generalize cv1 kd tl (gZ h a) f1 X Y Z = v1 at *
  generalize cv2 kd tl (gZ h a) f2 X Y Z = v2 at *
  generalize hm : cmo kd tl (gZ h a) p f1 f2 X Y Z T = m at *
  have kB : K1 h (C + 1) := K2_k0 kC
  have kP : K5 h (C + 10) := K2_k1 kC
  have nb := nmo_b hk
  have zz : Z * Z = 16 ∨ Z * Z = 64 := by rcases ip.1 with e | e <;> rw [e] <;> omega
  have ep1 : gZ h1 (D + 8) = p := (md_Z md1 (by omega)).trans ep
  obtain ⟨h2, st2, md2, bo⟩ := takeBorder_ok (a := D + 8) (K1_sm md1.1 kB) (K5_sm md1.1 kP) ((md_sh md1 _).trans (K6_s15 kD)) ((md_gn md1 _).trans (K6_n15 kD)) (by decide) (by omega) (by omega) (by rw [ep1]; exact hp) (partAt_md md1 (by intro k hk; omega) pa) ip
  rw [ep1] at bo
  have np2 : ∀ k, ¬ SBo (C + 1) (C + 10) k := fun k q => by unfold SBo at q; omega
  have md12 : Md (SCh C D) h h2 := Md_tr (Md_mono md1 fun c k q => by unfold SCh; omega) (Md_mono md2 fun c k q => by unfold SBo at q; unfold SCh; omega)
  have pa2 : partAt h2 (C + 10) X Y Z T := partAt_md md2 (fun k _ => np2 k) (partAt_md md1 (by intro k hk; omega) pa)
  have g52 : fZ h2 (C + 10) 5 = v1 := (md_fZ md2 (np2 _)).trans g5
  have g62 : fZ h2 (C + 10) 6 = v2 := (md_fZ md2 (np2 _)).trans g6
  have ro2 : refOk h2 (C + 1) kd f1 f2 := refOk_md md12 (by unfold SCh SNo; omega) (by unfold SCh SNo; omega) ro
  have ea2 : gZ h2 a = gZ h a := md_Z (md2) (by unfold SBo; omega) |>.trans (md_Z md1 (by omega))
  have e02 : fZ h2 D 0 = kd := (md_fZ md2 (by unfold SBo; omega)).trans ((md_fZ md1 (by omega)).trans e0)
  rw [st1, st2, cl_n, b_X2_choosePart_91]
  -- what holds in the loop
  let S : Nat → Nat → Prop := fun c k => c = C + 8 ∨ (c = C + 10 ∧ k = 4)
  have fm : ∀ {h'}, Md S h2 h' → partAt h' (C + 10) X Y Z T ∧ fZ h' (C + 10) 5 = v1 ∧ fZ h' (C + 10) 6 = v2 ∧ refOk h' (C + 1) kd f1 f2 ∧ isBo h' (C + 1) p X Y Z T ∧ gZ h' a = gZ h a ∧ fZ h' D 0 = kd ∧ K2 h' C ∧ K6 h' D ∧ sh h' a = (1, 0) ∧ gn h' a = 256 := fun md => by
    refine ⟨partAt_md md (fun k hk q => ?_) pa2, (md_fZ md fun q => ?_).trans g52, (md_fZ md fun q => ?_).trans g62, refOk_md md (fun q => ?_) (fun q => ?_) ro2, isBo_md md (fun q => ?_) (fun q => ?_) (fun q => ?_) (fun q => ?_) bo, (md_Z md fun q => ?_).trans ea2, (md_fZ md fun q => ?_).trans e02, K2_sm md.1 (K2_sm md12.1 kC), K6_sm md.1 (K6_sm md12.1 kD), (md_sh md _).trans ((md_sh md12 _).trans s), (md_gn md _).trans ((md_gn md12 _).trans n1)⟩
    all_goals simp only [S] at q; omega
  have nm : wr (if (¬ (¬ kd = 98)) then 7 else (if (¬ (kd = 105)) then 5 else 4)) = (nmo kd : Int) := by
    unfold nmo
    rcases hk with rfl | rfl | rfl <;> exact wr_id (by decide) (by decide)
  have C0 : ∀ k : Int, 0 ≤ k → k < nmo kd → 0 ≤ cost (gZ h a) p f1 f2 X Y Z T k v1 v2 ∧ cost (gZ h a) p f1 f2 X Y Z T k v1 v2 ≤ 20000 := by
    intro k k0 k1
    have mo := modeOk_of (m := k) hk ⟨k0, k1⟩ hp bo ro2 o1 o2
    have d1 := dsum_b (g := gss p f1 f2 X Y Z T k v1 v2) (n := (Z * Z).toNat) ip.1 (by omega) ip.2.1 ip.2.2.1 hc (fun x y x0 x1 y0 y1 => gss_b (x := x) (y := y) ip mo ⟨x0, x1⟩ ⟨y0, y1⟩)
    have e1 := extc_b (m := k) (v1 := v1) (v2 := v2) (by omega) (fun q1 q2 => o1 (nb.2.1 (by omega))) (fun q1 q2 => o2 (nb.2.2 (by omega)))
    unfold cost
    omega
  have mb : ∀ n : Nat, n ≤ nmo kd → 0 ≤ (mnv (fun k => cost (gZ h a) p f1 f2 X Y Z T k v1 v2) (fun k => k) 0 n).1 ∧ (mnv (fun k => cost (gZ h a) p f1 f2 X Y Z T k v1 v2) (fun k => k) 0 n).1 ≤ 1000000 ∧ 0 ≤ (mnv (fun k => cost (gZ h a) p f1 f2 X Y Z T k v1 v2) (fun k => k) 0 n).2 ∧ (mnv (fun k => cost (gZ h a) p f1 f2 X Y Z T k v1 v2) (fun k => k) 0 n).2 ≤ 6 := by
    intro n hn
    induction n with
    | zero => simp only [mnv]; omega
    | succ n ih =>
      have := ih (by omega)
      have := C0 n (by omega) (by omega)
      simp only [mnv]
      split
      · simp only; omega
      · omega
  refine lp (m := m_X2_choosePart) (pc := 101) (L := fun i (x : (Value × Value) × (Int × Int)) => [.ref C, .ref D, .ref a, x.1.1, .int (mI x.2.2), .int (mI x.2.1), .int (mI i), x.1.2]) (N := nmo kd) (P := fun r => ∃ h', r = some (.inl none, h') ∧ Md (SCh C D) h h' ∧ (∀ x y, X ≤ x → x < X + Z → Y ≤ y → y < Y + Z → gZ h' (C + 8) (16 * y + x) = gss p f1 f2 X Y Z T m v1 v2 x y) ∧ (∀ s, 0 ≤ s → s < 16 → (inPart X Y Z s → told h' D Z m v1 v2 s) ∧ (¬ inPart X Y Z s → same4 h h' D s))) (fun i x h' => 0 ≤ i ∧ Md S h2 h' ∧ x.2 = mnv (fun k => cost (gZ h a) p f1 f2 X Y Z T k v1 v2) (fun k => k) 0 i.toNat) ?_ ?_ 0 ((.int (mI (stp tl)), am_J), (1000000, 0)) h2 (by omega) ⟨by omega, Md_rf _ _, rfl⟩
  · intro i x h' hi ⟨i0, md, ex⟩
    obtain ⟨⟨w3, w7⟩, le, ch⟩ := x
    obtain ⟨pa', q5, q6, ro', bo', ea', e0', kC', kD', s', n'⟩ := fm md
    have kP' : K5 h' (C + 10) := K2_k1 kC'
    have bnd := mb i.toNat (by omega)
    simp only at ex
    rw [← ex] at bnd
    have st := b_X2_choosePart_101 (a0 := C) (a1 := D) (a2 := a) (v3 := w3) (v7 := w7) (x4 := ch) (x5 := le) (h := h') (wr_id (z := i) (by omega) (by omega)) kD' kC'
    rw [e0', nm, if_neg (by omega)] at st
    have mdm : Md S h' (uF 5 h' (C + 10) 4 (.int (mI i))) := Md_mono (Md_uF (Sm_uF_5_4 _ _ _)) fun c k q => Or.inr q
    obtain ⟨pa3, q53, q63, ro3, bo3, ea3, e03, kC3, kD3, s3, n3⟩ := fm (Md_tr md mdm)
    have q43 : fZ (uF 5 h' (C + 10) 4 (.int (mI i))) (C + 10) 4 = i := by rw [fZ_uF_eq kP' (okf_5_4 _), wr_id (by omega) (by omega)]
    have mo := modeOk_of (m := i) hk ⟨i0, hi⟩ hp bo3 ro3 o1 o2
    obtain ⟨h4, e4', md4, gg⟩ := guessPart_ok (p := p) (f1 := f1) (f2 := f2) (K2_k0 kC3) (K2_k1 kC3) pa3 ip q43 q53 q63 mo
    have md4' : Md S h2 h4 := Md_tr md (Md_tr mdm (Md_mono md4 fun c k q => Or.inl q))
    obtain ⟨pa4, q54, q64, ro4, bo4, ea4, e04, kC4, kD4, s4, n4⟩ := fm md4'
    have q44 : fZ h4 (C + 10) 4 = i := (md_fZ md4 (by omega)).trans q43
    have ge := guessError_ok (g := gss p f1 f2 X Y Z T i v1 v2) (K2_k0 kC4) (K2_k1 kC4) s4 n4 (by decide) (by rw [ea4]; exact hc) pa4 ip gg (fun x y x0 x1 y0 y1 => gss_b ip mo ⟨x0, x1⟩ ⟨y0, y1⟩)
    rw [ea4] at ge
    rw [e4', cl_n, b_X2_choosePart_130 kC4, ge, cl_v] at st
    have ck := C0 i i0 hi
    have exo := extra_ok (m := i) (v1 := v1) (v2 := v2) (by omega) (fun q1 q2 => o1 (nb.2.1 (by omega))) (fun q1 q2 => o2 (nb.2.2 (by omega)))
    have st4 := b_X2_choosePart_142 (a0 := C) (a1 := D) (a2 := a) (v3 := w3) (v7 := w7) (x4 := ch) (x5 := le) (x6 := i) (xs0 := dsum (gZ h a) (gss p f1 f2 X Y Z T i v1 v2) X Y Z (Z * Z).toNat) (h := h4) (wr_id (z := le) (by omega) (by omega)) kC4
    rw [q44, q54, q64, exo] at st4
    have ec : dsum (gZ h a) (gss p f1 f2 X Y Z T i v1 v2) X Y Z (Z * Z).toNat + extc i v1 v2 = cost (gZ h a) p f1 f2 X Y Z T i v1 v2 := rfl
    rw [ec, wr_id (z := cost (gZ h a) p f1 f2 X Y Z T i v1 v2) (by omega) (by omega)] at st4
    by_cases c : cost (gZ h a) p f1 f2 X Y Z T i v1 v2 < le
    · rw [if_neg (by omega)] at st4
      refine ⟨((_, _), (_, _)), h4, st.trans st4, by omega, md4', ?_⟩
      rw [mnv_succ i0, ← ex, if_pos c]
      rfl
    · rw [if_pos (by omega)] at st4
      refine ⟨((_, _), (_, _)), h4, st.trans st4, by omega, md4', ?_⟩
      rw [mnv_succ i0, ← ex, if_neg c]
  · intro x h' ⟨i0, md, ex⟩
    obtain ⟨⟨w3, w7⟩, le, ch⟩ := x
    obtain ⟨pa', q5, q6, ro', bo', ea', e0', kC', kD', s', n'⟩ := fm md
    have kP' : K5 h' (C + 10) := K2_k1 kC'
    simp only at ex
    have ech : ch = m := by
      rw [hcm]
      unfold bestm
      rw [show ((nmo kd : Nat) : Int).toNat = nmo kd by omega] at ex
      rw [← ex]
    subst ech
    have st := b_X2_choosePart_101 (a0 := C) (a1 := D) (a2 := a) (v3 := w3) (v7 := w7) (x4 := ch) (x5 := le) (h := h') (wr_id (z := (nmo kd : Int)) (by omega) (by omega)) kD' kC'
    rw [e0', nm, if_pos (by omega)] at st
    have mdm : Md S h' (uF 5 h' (C + 10) 4 (.int (mI ch))) := Md_mono (Md_uF (Sm_uF_5_4 _ _ _)) fun c k q => Or.inr q
    obtain ⟨pa3, q53, q63, ro3, bo3, ea3, e03, kC3, kD3, s3, n3⟩ := fm (Md_tr md mdm)
    have q43 : fZ (uF 5 h' (C + 10) 4 (.int (mI ch))) (C + 10) 4 = ch := by rw [fZ_uF_eq kP' (okf_5_4 _), wr_id (by omega) (by omega)]
    have mo := modeOk_of (m := ch) hk cb hp bo3 ro3 o1 o2
    obtain ⟨h4, e4', md4, gg⟩ := guessPart_ok (p := p) (f1 := f1) (f2 := f2) (K2_k0 kC3) (K2_k1 kC3) pa3 ip q43 q53 q63 mo
    have md4' : Md S h2 h4 := Md_tr md (Md_tr mdm (Md_mono md4 fun c k q => Or.inl q))
    obtain ⟨pa4, q54, q64, ro4, bo4, ea4, e04, kC4, kD4, s4, n4⟩ := fm md4'
    have q44 : fZ h4 (C + 10) 4 = ch := (md_fZ md4 (by omega)).trans q43
    obtain ⟨h5, e5, md5, tt⟩ := note_ok kD4 (K2_k1 kC4) pa4 ip mm q44 q54 q64
    rw [e4', cl_n, b_X2_choosePart_193 kC4 kD4, e5, cl_n, b_X2_choosePart_201] at st
    have md24 : Md (SCh C D) h2 h4 := Md_mono md4' fun c k q => by
      simp only [S] at q
      unfold SCh
      omega
    have sm4 : ∀ t, same4 h h4 D t := fun t => ⟨by rw [md_gZ md4' (by simp only [S]; omega), md_gZ md2 (by unfold SBo; omega), md_gZ md1 (by omega)], by rw [md_gZ md4' (by simp only [S]; omega), md_gZ md2 (by unfold SBo; omega), md_gZ md1 (by omega)], by rw [md_gZ md4' (by simp only [S]; omega), md_gZ md2 (by unfold SBo; omega), md_gZ md1 (by omega)], by rw [md_gZ md4' (by simp only [S]; omega), md_gZ md2 (by unfold SBo; omega), md_gZ md1 (by omega)]⟩
    refine ⟨h5, st, Md_tr md12 (Md_tr md24 (Md_mono md5 fun c k q => by unfold SCh; exact Or.inr (Or.inr (Or.inr (Or.inr (Or.inr q)))))), fun x y x0 x1 y0 y1 => ?_, fun t t0 t1 => ⟨(tt t t0 t1).1, fun q => ?_⟩⟩
    · rw [md_gZ md5 (by unfold SNo; omega)]
      exact gg x y x0 x1 y0 y1
    · obtain ⟨a1, a2, a3, a4⟩ := (tt t t0 t1).2 q
      obtain ⟨b1, b2, b3, b4⟩ := sm4 t
      exact ⟨a1.trans b1, a2.trans b2, a3.trans b3, a4.trans b4⟩
