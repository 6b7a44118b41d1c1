/-! ===== what the law holds ===== -/
/-- the row of calls -/
def SR (h : am_H) (n : Nat) (xs : Int → Int) : Prop := sh h 1 = (1, 7) ∧ gn h 1 = n ∧ gZ h 1 = xs
theorem SR_fr {S : Nat → Nat → Prop} {c s n : Nat} {xs : Int → Int} {h h' : am_H} (F : Fr S c s h h') (al : 1 < hnx h) (nS : ¬ S 1 0) (r : SR h n xs) : SR h' n xs := ⟨(F.1.sh1 al).trans r.1, (F.1.gn1 al).trans r.2.1, (frZ F al nS).trans r.2.2⟩
/-- the class stands -/
def CJ (σ : St) (c : Int) (h : am_H) (D : Nat) : Prop := RC σ h D ∧ WfS σ c ∧ pixels (gZ h (D + 8))
/-- the canvas beside it -/
def CV (σ : St) (h : am_H) : Prop := (sh h 51 = (1, 0) ∧ gn h 51 = 256) ∧ ∀ i, 0 ≤ i → i < 256 → gZ h 51 i = tc σ i
def scal (σ : St) : Prop := (tz σ 0 = 8 ∧ tz σ 1 = 7 ∧ tz σ 2 = 1 ∧ tz σ 3 = 1 ∧ tz σ 4 = 0) ∧ tz σ 8 = min 3 (tz σ 7) ∧ tz σ 9 = 0 ∧ tz σ 10 = -1 ∧ tz σ 13 = 0
def JL (σ : St) (h : am_H) (D n : Nat) (xs : Int → Int) : Prop := CJ σ 0 h D ∧ SR h n xs ∧ CV σ h ∧ scal σ
theorem tm_ite (z N : Int) : Int.tmod z N = if 0 ≤ z then z % N else -((-z) % N) := by
  split
  · rename_i h
    exact tmd h
  · rename_i h
    have e : z = -(-z) := by omega
    rw [e, Int.neg_tmod, tmd (by omega), Int.neg_neg]
theorem dm16 (z : Int) : Int.tmod (Int.tmod z 16 + 16) 16 = z % 16 := by
  rw [tm_ite z 16]
  split
  · rw [tmd (by omega)]; omega
  · rw [tmd (by omega)]; omega
theorem dm256 (z : Int) : Int.tmod (Int.tmod z 256 + 256) 256 = z % 256 := by
  rw [tm_ite z 256]
  split
  · rw [tmd (by omega)]; omega
  · rw [tmd (by omega)]; omega
theorem some_ok {x N : Int} {h : am_H} (w : wr x = x) (hN : 1 ≤ N ∧ N ≤ 100000000) : ∃ v, (0 ≤ v ∧ v < N) ∧ rn m_L_some 0 [.int (mI x), .int (mI N), am_J] [] h = some (.inl (some (.int (mI v))), h) := by
  have h1 := Int.emod_nonneg x (show N ≠ 0 by omega)
  have h2 := Int.emod_lt_of_pos x (show 0 < N by omega)
  have h3 := Int.emod_nonneg (-x) (show N ≠ 0 by omega)
  have h4 := Int.emod_lt_of_pos (-x) (show 0 < N by omega)
  have wN : wr N = N := wr_id (by omega) (by omega)
  have b : -N < Int.tmod x N ∧ Int.tmod x N < N := by
    rw [tm_ite]
    split <;> omega
  have wt : wr (Int.tmod x N) = Int.tmod x N := wr_id (by omega) (by omega)
  refine ⟨if 0 ≤ Int.tmod x N then Int.tmod x N else Int.tmod x N + N, ?_, ?_⟩
  · split <;> omega
  · rw [b_L_some_0 w wN (by omega), wt]
section INV
variable {σ σ' : St} {h h' : am_H} {D D' n : Nat} {xs : Int → Int} {c : Int} {S : Nat → Nat → Prop} {cc ss : Nat}
theorem CJ_K (j : CJ σ c h D) : K9 h 2 := j.1.1
theorem CJ_fr (F : Fr S cc ss h h') (hS : ∀ a k, S a k → a = 51) (j : CJ σ c h D) : CJ σ c h' D := by
  obtain ⟨a1, a2, al⟩ := RC_al j.1
  refine ⟨RC_fr F al (fun a k q => by have := hS a k q; omega) j.1, j.2.1, ?_⟩
  rw [frZ F a2 (fun q => by have := hS _ _ q; omega)]
  exact j.2.2
theorem CJ_exc (j : CJ σ c h D) : CJ σ c (hexc h) D := CJ_fr (Fr_exc h) (fun _ _ q => q.elim) j
theorem CV_fr (F : Fr S cc ss h h') (al : 51 < hnx h) (nS : ¬ S 51 0) (v : CV σ h) : CV σ h' := ⟨⟨(F.1.sh1 al).trans v.1.1, (F.1.gn1 al).trans v.1.2⟩, fun i i0 i1 => (F.1.gZ1 i al nS).trans (v.2 i i0 i1)⟩
theorem JL_fr (F : Fr S cc ss h h') (hS : ∀ a k, ¬ S a k) (j : JL σ h D n xs) : JL σ h' D n xs := by
  obtain ⟨a1, a2, al⟩ := RC_al j.1.1
  exact ⟨CJ_fr F (fun a k q => absurd q (hS a k)) j.1, SR_fr F (by omega) (hS _ _) j.2.1, CV_fr F (by omega) (hS _ _) j.2.2.1, j.2.2.2⟩
theorem JL_exc (j : JL σ h D n xs) : JL σ (hexc h) D n xs := JL_fr (Fr_exc h) (fun _ _ q => q) j
theorem SCl_n {D a k : Nat} (hD : 51 < D ∨ D = 7) (q : SCl D a k) : a ≠ 1 ∧ a ≠ 51 := by
  unfold SCl at q
  omega
theorem px_sl {f : Int → Int} {x a b : Int} (p : pixels f) : pixels (slT f x a b 256) := fun k k0 k1 => by
  unfold slT
  split
  · exact ⟨Int.emod_nonneg _ (by decide), Int.le_of_lt_add_one (Int.emod_lt_of_pos _ (by decide))⟩
  · exact p k k0 k1
theorem px_fl {f : Int → Int} {x y w v b : Int} (p : pixels f) (q : isF x y w v b) : pixels (flT f x y w v b 256) := fun k k0 k1 => by
  unfold flT
  split
  · exact q.2.2
  · exact p k k0 k1
theorem px_gr {f : Int → Int} {s z : Int} (p : pixels f) : pixels (grT f s z 256) := fun k k0 k1 => by
  unfold grT
  split
  · exact ⟨clampv_0 _, clampv_255 _⟩
  · exact p k k0 k1
theorem px_mv {f : Int → Int} {a b : Int} (p : pixels f) : pixels (mvT f a b) := fun k k0 k1 => by
  unfold mvT
  split
  · exact p _ (by omega) (by omega)
  · exact p k k0 k1
theorem c_code_full (rc : RC σ h D) (wf : WfS σ c) {kd a b : Int} (wk : wr kd = kd) (wa : wr a = a) (wb : wr b = b) (rq : isRq σ kd a b) (h7 : ¬ tz σ 7 < 12) : rn m_X11_code 0 [.ref 2, .int (mI kd), .int (mI a), .int (mI b), am_J] [] h = some (.inr 2, hexc h) := by
  have st := (c_code_x rc wf wk wa wb).2.2 rq
  rw [b_X11_code_66 rc.1, rc.2.2.2.1.2.2.1, if_neg h7] at st
  exact st
theorem code_b (wf : WfS σ c) {kd a b : Int} {pd : Nat → Int → Int} {p : Int → Int} (rq : isRq σ kd a b) (pp : pixels p) (cod : ∀ s, 0 ≤ s → s < 16 → Cod (tc σ) (CF1 σ kd a) (CF2 σ kd b) kd (tz σ 1) (tz σ 2) (tz σ 0) pd p s) : ln0 pd kd (tz σ 1) (tz σ 2) + ln1 pd kd (tz σ 1) (tz σ 2) ≤ 3972 := by
  have cpx := CF_pix wf rq.2.1 rq.2.2
  have w0 := wf.1.1
  exact ln_b fun s s0 s1 => Cod_pdB rq.1 wf.2.2.1 pp (fun _ => cpx.1) (fun _ => cpx.2) w0 ⟨s0, s1⟩ (cod s s0 s1)
/-- a picture is coded, where there is no bucket -/
theorem CJ_code (j : CJ σ c h D) {kd a b : Int} (wk : wr kd = kd) (wa : wr a = a) (wb : wr b = b) (rq : isRq σ kd a b) (h7 : tz σ 7 < 12) (nb : tz σ 4 = 0) : ∃ (pd : Nat → Int → Int) (p u l : Int → Int) (er L0 L1 : Int) (D' : Nat) (h' : am_H), pixels p ∧ (∀ s, 0 ≤ s → s < 16 → Cod (tc σ) (CF1 σ kd a) (CF2 σ kd b) kd (tz σ 1) (tz σ 2) (tz σ 0) pd p s) ∧ (4 ≤ L0 ∧ 0 ≤ L1 ∧ L0 + L1 ≤ 3972) ∧ rn m_L_code 0 [.ref 2, .int (mI kd), .int (mI a), .int (mI b), am_J] [] h = some (.inl (some (.int (mI (8 * (L0 + L1))))), h') ∧ CJ (stK σ (zK σ kd a b er L0 L1) (dK pd (smo (tz σ 0) (tz σ 1) (tz σ 2) p) u l) (tz σ 6) (tz σ 0)) c h' D' ∧ hnx h ≤ D' ∧ Fr (SCl D) 11 4564 h h' := by
  obtain ⟨rc, wf, px⟩ := j
  obtain ⟨pd, p, u, l, pp, cod, du, dl, ov, no⟩ := c_code rc px wf wk wa wb rq h7
  have lb := code_b wf rq pp cod
  have nov : ∀ B, ¬ ovf σ B := fun B q => by
    have := q.1
    omega
  have en : ∀ B, nbt σ B = tz σ 6 := fun B => by
    unfold nbt
    rw [if_neg (by omega)]
  have ev : ∀ x, stv σ x = tz σ 0 := fun x => by
    unfold stv
    rw [if_neg (by omega)]
  obtain ⟨h', D', e, rc', px', hD, F⟩ := no (nov _)
  rw [en, ev] at rc'
  have pw := PW_k wf rq pp cod lb (u := u) (l := l)
  have b6 := wf.1.2.2.2.2.2.2
  refine ⟨pd, p, u, l, _, _, _, D', h', pp, cod, ⟨?_, ?_, ?_⟩, A_code rc.1 e, ⟨rc', WfS_k wf h7 pw b6 wf.1.1, px'⟩, hD, F⟩
  · unfold ln0
    omega
  · omega
  · omega
theorem JL_code (j : JL σ h D n xs) (h7 : tz σ 7 < 12) : ∃ (σ' : St) (D' : Nat) (h' : am_H) (v : Int), rn m_L_code 0 [.ref 2, .int (mI 105), .int (mI 9), .int (mI 9), am_J] [] h = some (.inl (some (.int (mI v))), h') ∧ (32 ≤ v ∧ v ≤ 40000) ∧ JL σ' h' D' n xs ∧ tz σ' 7 = tz σ 7 + 1 ∧ Fr (fun _ _ => True) 11 4564 h h' := by
  obtain ⟨jc, sr, cv, sc⟩ := j
  obtain ⟨⟨s0, s1, s2, s3, s4⟩, s8, s9, s10, s13⟩ := sc
  obtain ⟨a1, a2, al⟩ := RC_al jc.1
  obtain ⟨pd, p, u, l, er, L0, L1, D', h', -, -, lb, e, j', -, F⟩ := CJ_code jc (kd := 105) (a := 9) (b := 9) (wr_id (by decide) (by decide)) (wr_id (by decide) (by decide)) (wr_id (by decide) (by decide)) ⟨Or.inl rfl, fun q => absurd rfl q, fun q => absurd q (by decide)⟩ h7 s4
  refine ⟨_, D', h', _, e, by omega, ⟨j', SR_fr F (by omega) (fun q => (SCl_n a1.1 q).1 rfl) sr, CV_fr (σ := σ) F (by omega) (fun q => (SCl_n a1.1 q).2 rfl) cv, ⟨⟨s0, s1, s2, s3, s4⟩, ?_, s9, s10, s13⟩⟩, rfl, Fr_mono F (fun _ _ _ _ => trivial) (Nat.le_refl _) (Nat.le_refl _)⟩
  show (if tz σ 3 = 0 then tz σ 8 else min (tz σ 8 + 1) 3) = min 3 (tz σ 7 + 1)
  rw [if_neg (by omega), s8]
  omega
theorem JL_full (j : JL σ h D n xs) (h7 : ¬ tz σ 7 < 12) : rn m_L_code 0 [.ref 2, .int (mI 105), .int (mI 9), .int (mI 9), am_J] [] h = some (.inl (some (.int (mI (-1003)))), hexc h) :=
  A_code_x2 j.1.1.1 (c_code_full j.1.1 j.1.2.1 (wr_id (by decide) (by decide)) (wr_id (by decide) (by decide)) (wr_id (by decide) (by decide)) ⟨Or.inl rfl, fun q => absurd rfl q, fun q => absurd q (by decide)⟩ h7)
theorem pix_ok (j : CJ σ c h D) {i x y : Int} (hx : 0 ≤ x ∧ x < 16) (hy : 0 ≤ y ∧ y < 16) : rn m_L_pixel 0 [.ref 2, .int (mI 99), .int (mI i), .int (mI x), .int (mI y), am_J] [] h = some (.inl (some (.int (mI (tc σ (16 * y + x))))), h) :=
  A_pixel j.1.1 (q_pixel j.1 (wr_id (by omega) (by omega)) (wr_id (by omega) (by omega)) ⟨hx, hy⟩)
/-- the canvas is like it -/
theorem like_ok (j : CJ σ c h D) (v : CV σ h) : rn m_L_isLike 0 [.ref 2, .ref 51, am_J] [] h = some (.inl (some (.int (mI 1))), h) := by
  have px := j.2.1.2.2.1
  rw [b_L_isLike_0]
  refine lp (m := m_L_isLike) (pc := 2) (L := fun i (_ : Unit) => [.ref 2, .ref 51, .int (mI i)]) (N := 256) (P := fun r => r = some (.inl (some (.int (mI 1))), h)) (fun i _ h' => 0 ≤ i ∧ h' = h) ?_ ?_ 0 () h (by omega) ⟨by omega, rfl⟩
  · rintro i _ h' hi ⟨i0, rfl⟩
    refine ⟨(), h', ?_, by omega, rfl⟩
    have w : wr i = i := wr_id (by omega) (by omega)
    rw [b_L_isLike_2 w, if_neg (by omega), tmd i0, tdv i0, pix_ok j (i := 0) (x := i % 16) (y := i / 16) (by omega) (by omega), cl_v]
    have p := px (16 * (i / 16) + i % 16) (by omega) (by omega)
    rw [b_L_isLike_24 (n_a1 := 256) w (wr_id (by omega) (by omega)) v.1.2 v.1.1 (by omega), if_pos]
    rw [v.2 i i0 hi, show 16 * (i / 16) + i % 16 = i by omega]
  · rintro _ h' ⟨i0, rfl⟩
    rw [b_L_isLike_2 (wr_id (by omega) (by omega)), if_pos (by omega)]
end INV
