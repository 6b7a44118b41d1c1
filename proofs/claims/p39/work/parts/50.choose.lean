/-! ===== the coder's choice for a whole picture ===== -/
def pdh (h : am_H) (D : Nat) : Nat → Int → Int := fun n => gZ h (D + 3 + n)
theorem lay_at {h : am_H} {P : Nat} {X Y Z T : Int} (kP : K5 h P) (wX : wr X = X) (wY : wr Y = Y) (wZ : wr Z = Z) (wT : wr T = T) : partAt (uF 5 (uF 5 (uF 5 (uF 5 h P 0 (.int (mI X))) P 1 (.int (mI Y))) P 2 (.int (mI Z))) P 3 (.int (mI T))) P X Y Z T := by
  refine ⟨?_, ?_, ?_, ?_⟩
  · rw [fZ_uF_k (by decide), fZ_uF_k (by decide), fZ_uF_k (by decide), fZ_uF_eq kP (okf_5_0 _), wX]
  · rw [fZ_uF_k (by decide), fZ_uF_k (by decide), fZ_uF_eq ((sh_uF _ _ _ _ _ _).trans kP) (okf_5_1 _), wY]
  · rw [fZ_uF_k (by decide), fZ_uF_eq ((sh_uF _ _ _ _ _ _).trans ((sh_uF _ _ _ _ _ _).trans kP)) (okf_5_2 _), wZ]
  · rw [fZ_uF_eq ((sh_uF _ _ _ _ _ _).trans ((sh_uF _ _ _ _ _ _).trans ((sh_uF _ _ _ _ _ _).trans kP))) (okf_5_3 _), wT]
theorem lay_md (h : am_H) (P : Nat) (a b c d : Value) : Md (fun x k => x = P ∧ k ≤ 6) h (uF 5 (uF 5 (uF 5 (uF 5 h P 0 a) P 1 b) P 2 c) P 3 d) :=
  Md_tr (Md_mono (Md_uF (Sm_uF_5_0 _ _ _)) fun x k q => ⟨q.1, by omega⟩) (Md_tr (Md_mono (Md_uF (Sm_uF_5_1 _ _ _)) fun x k q => ⟨q.1, by omega⟩) (Md_tr (Md_mono (Md_uF (Sm_uF_5_2 _ _ _)) fun x k q => ⟨q.1, by omega⟩) (Md_mono (Md_uF (Sm_uF_5_3 _ _ _)) fun x k q => ⟨q.1, by omega⟩)))
theorem top_eq {sl y : Int} : 8 * bZ (¬ (sl ≤ 1) ∧ (¬ (y < 8))) = tp sl y := by
  unfold tp
  by_cases c : 1 < sl ∧ 8 ≤ y
  · rw [if_pos c, bZ_t (by omega)]
    rfl
  · rw [if_neg c, bZ_f (by omega)]
    rfl
theorem Gq_st {s k sl : Int} {pd pd' : Nat → Int → Int} {p p' f1 f2 : Int → Int} (e : pd 0 s = pd' 0 s ∧ pd 1 s = pd' 1 s ∧ pd 2 s = pd' 2 s ∧ pd 3 s = pd' 3 s) (ag : agp (sq (X0 (pd 0) s) (Y0 (pd 0) s)) p p') (hs : 0 ≤ s ∧ s < 16) (hk : 0 ≤ k ∧ k < 16) : Gq pd f1 f2 sl p s (cx s + k % 4) (cy s + k / 4) = Gq pd' f1 f2 sl p' s (cx s + k % 4) (cy s + k / 4) := by
  have ip := in_part (z := pd 0) hs hk
  have e1 : X0 (pd' 0) s = X0 (pd 0) s ∧ Y0 (pd' 0) s = Y0 (pd 0) s ∧ SZ (pd' 0) s = SZ (pd 0) s := by unfold X0 Y0 SZ; rw [e.1]; exact ⟨rfl, rfl, rfl⟩
  unfold Gq
  rw [e1.1, e1.2.1, e1.2.2, ← e.2.1, ← e.2.2.1, ← e.2.2.2]
  exact gss_loc lies_s ag ip.1 ip.2
/-- a square whose part is chosen and guessed -/
def Rd (c f1 f2 : Int → Int) (kd tl sl q : Int) (C D : Nat) (h : am_H) (s : Int) : Prop := E1 c tl q (pdh h D) s ∧ E2 c f1 f2 kd tl sl (pdh h D) (gZ h (D + 8)) s ∧ ∀ k, 0 ≤ k → k < 16 → gZ h (C + 8) (pl s k) = Gq (pdh h D) f1 f2 sl (gZ h (D + 8)) s (cx s + k % 4) (cy s + k / 4)
def SCo (C D : Nat) : Nat → Nat → Prop := fun c k => (c = C + 1 ∧ (k = 4 ∨ k = 5)) ∨ (C + 6 ≤ c ∧ c ≤ C + 9) ∨ (c = C + 10 ∧ k ≤ 6) ∨ (D + 3 ≤ c ∧ c ≤ D + 8)
/-- what stays while a picture is coded -/
def Cx (h : am_H) (C D a : Nat) (c f1 f2 : Int → Int) (kd tl sl q : Int) : Prop := K2 h C ∧ K6 h D ∧ sh h a = (1, 0) ∧ gn h a = 256 ∧ gZ h a = c ∧ fZ h D 0 = kd ∧ fZ h D 3 = q ∧ fZ h D 4 = tl ∧ fZ h D 5 = sl ∧ refOk h (C + 1) kd f1 f2
def Cy (C D a : Nat) (c : Int → Int) (kd tl sl q : Int) : Prop := (D + 8 < C ∨ C + 10 < D) ∧ (a < C ∨ C + 10 < a) ∧ (a < D ∨ D + 8 < a) ∧ pixels c ∧ isKind kd ∧ (0 ≤ tl ∧ tl ≤ 7) ∧ (sl = 1 ∨ sl = 2) ∧ (1 ≤ q ∧ q ≤ 40)
theorem Cx_md {h h' : am_H} {C D a : Nat} {c f1 f2 : Int → Int} {kd tl sl q : Int} (y : Cy C D a c kd tl sl q) (m : Md (SCo C D) h h') (x : Cx h C D a c f1 f2 kd tl sl q) : Cx h' C D a c f1 f2 kd tl sl q := by
  obtain ⟨y1, y2, y3, -⟩ := y
  obtain ⟨x1, x2, x3, x4, x5, x6, x7, x8, x9, x10⟩ := x
  refine ⟨K2_sm m.1 x1, K6_sm m.1 x2, (md_sh m _).trans x3, (md_gn m _).trans x4, (md_Z m fun q => ?_).trans x5, (md_fZ m fun q => ?_).trans x6, (md_fZ m fun q => ?_).trans x7, (md_fZ m fun q => ?_).trans x8, (md_fZ m fun q => ?_).trans x9, refOk_md m (fun q => ?_) (fun q => ?_) x10⟩
  all_goals unfold SCo at q; omega
/-- a part that starts at a square -/
theorem part_ok {h : am_H} {C D a : Nat} {c f1 f2 : Int → Int} {kd tl sl q i Z : Int} {b0 b1 b2 b3 : Value} (y : Cy C D a c kd tl sl q) (x : Cx h C D a c f1 f2 kd tl sl q) (hp : pixels (gZ h (D + 8))) (hi : 0 ≤ i ∧ i < 16) (hZ : Z = 4 ∨ Z = 8 ∧ i % 4 = 0) (hsp : Z = if splitB c tl q (8 * (i / 4 % 2)) (8 * (i / 8 % 2)) then 4 else 8) (eb0 : b0 = .int (mI (cx i))) (eb1 : b1 = .int (mI (cy i))) (eb2 : b2 = .int (mI Z)) (eb3 : b3 = .int (mI (8 * bZ (¬ (sl ≤ 1) ∧ (¬ (cy i < 8)))))) : ∃ h', rn m_X2_choosePart 0 [.ref C, .ref D, .ref a, am_J, am_J, am_J, am_J, am_J] [] (uF 5 (uF 5 (uF 5 (uF 5 h (C + 10) 0 b0) (C + 10) 1 b1) (C + 10) 2 b2) (C + 10) 3 b3) = some (.inl none, h') ∧ Md (SCo C D) h h' ∧ gZ h' (D + 8) = gZ h (D + 8) ∧ agr i (pdh h D) (pdh h' D) (gZ h (D + 8)) (gZ h' (D + 8)) ∧ ∀ s, i ≤ s → s < i + (if Z = 4 then 1 else 4) → Rd c f1 f2 kd tl sl q C D h' s := by
  have y0 := y
  obtain ⟨y1, y2, y3, y4, y5, y6, y7, y8⟩ := y
  obtain ⟨x1, x2, x3, x4, x5, x6, x7, x8, x9, x10⟩ := x
  subst eb0 eb1 eb2 eb3
  have cxb := cx_b i
  have cyb := cy_b i
  have tb := tp_b sl (cy i)
  rw [top_eq]
  have kP := K2_k1 x1
  have pa := lay_at (X := cx i) (Y := cy i) (Z := Z) (T := tp sl (cy i)) kP (wr_cx _) (wr_cy _) (wr_id (by omega) (by omega)) (wr_id (by omega) (by omega))
  have m1 := lay_md h (C + 10) (.int (mI (cx i))) (.int (mI (cy i))) (.int (mI Z)) (.int (mI (tp sl (cy i))))
  generalize uF 5 (uF 5 (uF 5 (uF 5 h (C + 10) 0 (.int (mI (cx i)))) (C + 10) 1 (.int (mI (cy i)))) (C + 10) 2 (.int (mI Z))) (C + 10) 3 (.int (mI (tp sl (cy i)))) = h1 at *
  have li : lies (cx i) (cy i) Z (tp sl (cy i)) := by
    refine ⟨?_, tb.1⟩
    rcases hZ with rfl | ⟨rfl, h4⟩
    · left; omega
    · right; unfold cx cy; omega
  obtain ⟨ip, mm⟩ := lies_part li tb.2
  have ea1 : gZ h1 a = c := (md_Z m1 (by omega)).trans x5
  have ed : gZ h1 (D + 8) = gZ h (D + 8) := md_Z m1 (by omega)
  obtain ⟨h2, e2, m2, gg, tt⟩ := choosePart_ok (p := gZ h (D + 8)) (f1 := f1) (f2 := f2) (K2_sm m1.1 x1) (K6_sm m1.1 x2) ((md_sh m1 _).trans x3) ((md_gn m1 _).trans x4) y1 y2 (by rw [ea1]; exact y4) hp ed pa ip mm ((md_fZ m1 (by omega)).trans x6) ((md_fZ m1 (by omega)).trans x8) y5 (refOk_md m1 (by omega) (by omega) x10)
  rw [ea1] at gg tt
  have cb := cmo_b (tl := tl) (c := c) (p := gZ h (D + 8)) (f1 := f1) (f2 := f2) (X := cx i) (Y := cy i) (Z := Z) (T := tp sl (cy i)) y5
  have nb := nmo_b y5
  have ep2 : gZ h2 (D + 8) = gZ h (D + 8) := (md_Z m2 (fun q => by unfold SCh SNo at q; omega)).trans ed
  have el2 : gZ h2 (D + 7) = gZ h (D + 7) := (md_Z m2 (fun q => by unfold SCh SNo at q; omega)).trans (md_Z m1 (by omega))
  have s41 : ∀ t, same4 h h1 D t := fun t => ⟨md_gZ m1 (by omega) _, md_gZ m1 (by omega) _, md_gZ m1 (by omega) _, md_gZ m1 (by omega) _⟩
  refine ⟨h2, e2, Md_tr (Md_mono m1 fun c k q => by unfold SCo; omega) (Md_mono m2 fun c k q => by unfold SCh SNo at q; unfold SCo; omega), ep2, ?_, ?_⟩
  · intro t t0 t1
    refine ⟨?_, fun k k0 k1 => ⟨by show gZ h (D + 7) _ = gZ h2 (D + 7) _; rw [el2], by rw [ep2]⟩⟩
    have np : ¬ inPart (cx i) (cy i) Z t := by
      unfold inPart
      intro qq
      rcases hZ with rfl | ⟨rfl, h4⟩
      · have := cx_b t
        have := cy_b t
        exact absurd (c_inj ⟨t0, by omega⟩ hi (by omega) (by omega)) (by omega)
      · unfold cx cy at qq
        omega
    obtain ⟨u1, u2, u3, u4⟩ := (tt t t0 (by omega)).2 np
    obtain ⟨w1, w2, w3, w4⟩ := s41 t
    exact ⟨(u1.trans w1).symm, (u2.trans w2).symm, (u3.trans w3).symm, (u4.trans w4).symm⟩
  · intro s s0 s1
    have hs : 0 ≤ s ∧ s < 16 := by rcases hZ with rfl | ⟨rfl, h4⟩ <;> simp at s1 <;> omega
    have geo : inPart (cx i) (cy i) Z s ∧ (if Z = 4 then cx s else 8 * (s / 4 % 2)) = cx i ∧ (if Z = 4 then cy s else 8 * (s / 8 % 2)) = cy i ∧ s / 4 % 2 = i / 4 % 2 ∧ s / 8 % 2 = i / 8 % 2 := by
      rcases hZ with rfl | ⟨rfl, h4⟩
      · rw [if_pos rfl] at s1
        have : s = i := by omega
        subst this
        rw [if_pos rfl, if_pos rfl]
        refine ⟨?_, rfl, rfl, rfl, rfl⟩
        unfold inPart
        omega
      · rw [if_neg (by decide)] at s1
        rw [if_neg (by decide), if_neg (by decide)]
        unfold inPart cx cy
        omega
    obtain ⟨g1, g2, g3, g4, g5⟩ := geo
    obtain ⟨t1, t2, t3, t4⟩ := (tt s hs.1 hs.2).1 g1
    have z1 : pdh h2 D 0 s = Z := t1
    have ex : X0 (pdh h2 D 0) s = cx i := by unfold X0; rw [z1]; exact g2
    have ey : Y0 (pdh h2 D 0) s = cy i := by unfold Y0; rw [z1]; exact g3
    have ez : SZ (pdh h2 D 0) s = Z := by unfold SZ; rw [z1]; split <;> omega
    have m1 : pdh h2 D 1 s = cmo kd tl c (gZ h (D + 8)) f1 f2 (cx i) (cy i) Z (tp sl (cy i)) := t2
    have w1 : pdh h2 D 2 s = used1 (cmo kd tl c (gZ h (D + 8)) f1 f2 (cx i) (cy i) Z (tp sl (cy i))) (cv1 kd tl c f1 (cx i) (cy i) Z) := t3
    have w2 : pdh h2 D 3 s = used2 (cmo kd tl c (gZ h (D + 8)) f1 f2 (cx i) (cy i) Z (tp sl (cy i))) (cv2 kd tl c f2 (cx i) (cy i) Z) := t4
    refine ⟨?_, ?_, ?_⟩
    · unfold E1
      rw [z1, g4, g5]
      exact hsp
    · unfold E2
      rw [ex, ey, ez, ep2, m1, w1, w2]
      exact ⟨rfl, rfl, rfl⟩
    · intro k k0 k1
      have inp := in_part (z := pdh h2 D 0) hs ⟨k0, k1⟩
      rw [ex, ey, ez] at inp
      rw [(pl_xy2 hs ⟨k0, k1⟩).1, gg _ _ inp.1.1 inp.1.2 inp.2.1 inp.2.2]
      unfold Gq
      rw [ex, ey, ez, ep2, m1, w1, w2, gss_used (by omega)]
theorem lev_4q {q co : Int} (hq : 1 ≤ q ∧ q ≤ 40) (hc : -4080 ≤ co ∧ co ≤ 4080) : -5000 ≤ 4 * q * lev q co ∧ 4 * q * lev q co ≤ 5000 := by
  have h1 : 4 * q * ((iabs co + q) / (4 * q)) ≤ iabs co + q := Int.mul_ediv_self_le (by omega)
  have h2 : 0 ≤ (iabs co + q) / (4 * q) := Int.ediv_nonneg (by unfold iabs; omega) (by omega)
  have h3 : 0 ≤ 4 * q * ((iabs co + q) / (4 * q)) := Int.mul_nonneg (by omega) h2
  have h4 : iabs co ≤ 4080 := iabs_le hc
  unfold lev
  split
  · rw [Int.mul_neg]
    omega
  · omega
