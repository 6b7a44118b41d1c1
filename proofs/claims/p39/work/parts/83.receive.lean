/-! ===== the class's decoder receives a picture ===== -/
theorem receive_ok {h : am_H} {A P : Nat} {f1 f2 : Int → Int} {kd tl sl q lost cv : Int} (kA : K3 h A) (kP : K6 h P) (nP : P + 8 < A ∨ A + 14 < P) (e0 : fZ h P 0 = kd) (e3 : fZ h P 3 = q) (e4 : fZ h P 4 = tl) (e5 : fZ h P 5 = sl) (hk : isKind kd) (hq : 1 ≤ q ∧ q ≤ 40) (hsl : sl = 1 ∨ sl = 2) (w : ∀ s, 0 ≤ s → s < 16 → pdW (pdh h P) kd q s) (r1 : kd ≠ 105 → (0 ≤ fZ h P 1 ∧ fZ h P 1 < 3) ∧ pixels f1 ∧ f1 = fun i => gZ h (A + 13) (256 * fZ h P 1 + i)) (r2 : kd = 98 → (0 ≤ fZ h P 2 ∧ fZ h P 2 < 3) ∧ pixels f2 ∧ f2 = fun i => gZ h (A + 13) (256 * fZ h P 2 + i)) (hl : 0 ≤ lost ∧ lost ≤ 3) (hp : pixels (gZ h (A + 11))) (hs : pixels (gZ h (A + 12))) (n3 : 0 ≤ fZ h A 3 ∧ fZ h A 3 ≤ 100) (n7 : 0 ≤ fZ h A 7 ∧ fZ h A 7 ≤ 3) (n10 : 0 ≤ fZ h A 10 ∧ fZ h A 10 ≤ 100000) (n11 : 0 ≤ fZ h A 11 ∧ fZ h A 11 ≤ 100000) (hcv : cv = clnv kd lost (gZ h (A + 14) (fZ h P 1)) (gZ h (A + 14) (fZ h P 2))) : ∃ (h' : am_H) (p : Int → Int), rn m_X3_receive 0 [.ref A, .ref P, .int (mI lost)] [] h = some (.inl none, h') ∧ Md (SDR A) h h' ∧ pixels p ∧ (∀ s, 0 ≤ s → s < 16 → Dcd (pdh h P) f1 f2 (gZ h (A + 12)) sl q lost p s) ∧ (∀ i, 0 ≤ i → i < 256 → gZ h' (A + 12) i = smo q tl sl p i) ∧ pixels (gZ h' (A + 11)) ∧ (fZ h' A 3 = fZ h A 3 + 1 ∧ fZ h' A 4 = fZ h A 3 ∧ fZ h' A 5 = cv ∧ fZ h' A 10 = fZ h A 10 + 1 ∧ fZ h' A 11 = fZ h A 11 + cv) ∧ (fZ h P 6 = 0 → gZ h' (A + 13) = gZ h (A + 13) ∧ gZ h' (A + 14) = gZ h (A + 14) ∧ fZ h' A 7 = fZ h A 7) ∧ (¬ fZ h P 6 = 0 → (∀ i, 0 ≤ i → i < 256 → gZ h' (A + 13) i = smo q tl sl p i) ∧ (∀ i, 256 ≤ i → i < 768 → gZ h' (A + 13) i = gZ h (A + 13) (i - 256)) ∧ gZ h' (A + 14) 0 = cv ∧ (∀ j, 1 ≤ j → j < 3 → gZ h' (A + 14) j = gZ h (A + 14) (j - 1)) ∧ fZ h' A 7 = min (fZ h A 7 + 1) 3) := by
  have cv01 := clnv_01 kd lost (gZ h (A + 14) (fZ h P 1)) (gZ h (A + 14) (fZ h P 2))
  rw [← hcv] at cv01
  have st := b_X3_receive_0 (a0 := A) (a1 := P) (x2 := lost) (h := h) kA
  obtain ⟨h1, p, e1, m1, pp, dc, g1⟩ := dBuild_ok kA kP nP e0 e3 e4 e5 hk hq hsl w r1 r2 hl hp hs
  rw [e1, cl_n] at st
  have nS : ∀ c k, (c = A ∨ (A + 12 ≤ c ∧ c ≤ A + 14) ∨ (P ≤ c ∧ c ≤ P + 8)) → ¬ SDB A c k := fun c k g q => by unfold SDB at q; omega
  have kA1 := K3_sm m1.1 kA
  have kP1 := K6_sm m1.1 kP
  have ff : ∀ k, fZ h1 P k = fZ h P k := fun k => md_fZ m1 (nS _ _ (by omega))
  have fa : ∀ k, fZ h1 A k = fZ h A k := fun k => md_fZ m1 (nS _ _ (by omega))
  have g14 : gZ h1 (A + 14) = gZ h (A + 14) := md_Z m1 (nS _ _ (by omega))
  have g13 : gZ h1 (A + 13) = gZ h (A + 13) := md_Z m1 (nS _ _ (by omega))
  obtain ⟨h2, e2, m2, c5, c12⟩ := rcv_clean (kd := kd) (lost := lost) (c1 := gZ h (A + 14) (fZ h P 1)) (c2 := gZ h (A + 14) (fZ h P 2)) kA1 kP1 hl ((ff 0).trans e0) (fun c => by rw [ff]; exact (r1 c).1) (fun c => by rw [ff]; exact (r2 c).1) (fun _ => by rw [ff, g14]) (fun _ => by rw [ff, g14])
  rw [← hcv] at c5
  rw [e2] at st
  have kA2 := K3_sm m2.1 kA1
  have kP2 := K6_sm m2.1 kP1
  have f3 : fZ h2 A 3 = fZ h A 3 := (md_fZ m2 (by omega)).trans (fa 3)
  have f7 : fZ h2 A 7 = fZ h A 7 := (md_fZ m2 (by omega)).trans (fa 7)
  have f10 : fZ h2 A 10 = fZ h A 10 := (md_fZ m2 (by omega)).trans (fa 10)
  have f11 : fZ h2 A 11 = fZ h A 11 := (md_fZ m2 (by omega)).trans (fa 11)
  have p6 : fZ h2 P 6 = fZ h P 6 := (md_fZ m2 (by omega)).trans (ff 6)
  have w2 : ∀ i, gZ h2 (A + 11) i = smo q tl sl p i := fun i => by rw [md_gZ m2 (by omega), g1]
  have st2 := b_X3_receive_38 (a0 := A) (a1 := P) (v2 := .int (mI lost)) (h := h2) kA2 kP2
  rw [p6, f3, f10, f11, c5, show bZ (¬ cv = 0) = cv by rcases cv01 with e | e <;> rw [e] <;> rfl] at st2
  obtain ⟨h3, eh3⟩ : ∃ u, u = uF 3 (uF 3 (uF 3 (uF 3 h2 A 4 (.int (mI (fZ h A 3)))) A 3 (.int (mI (fZ h A 3 + 1)))) A 10 (.int (mI (fZ h A 10 + 1)))) A 11 (.int (mI (fZ h A 11 + cv))) := ⟨_, rfl⟩
  have m3 : Md (fun c k => c = A ∧ (k = 3 ∨ k = 4 ∨ k = 10 ∨ k = 11)) h2 h3 := by
    rw [eh3]
    exact Md_tr (Md_mono (Md_uF (Sm_uF_3_4 _ _ _)) fun c k g => ⟨g.1, by omega⟩) (Md_tr (Md_mono (Md_uF (Sm_uF_3_3 _ _ _)) fun c k g => ⟨g.1, by omega⟩) (Md_tr (Md_mono (Md_uF (Sm_uF_3_10 _ _ _)) fun c k g => ⟨g.1, by omega⟩) (Md_mono (Md_uF (Sm_uF_3_11 _ _ _)) fun c k g => ⟨g.1, by omega⟩)))
  have s0 := K3_s kA2
  have t4 : fZ h3 A 4 = fZ h A 3 := by rw [eh3, fZ_uF_k (by decide), fZ_uF_k (by decide), fZ_uF_k (by decide), fZ_uF_eq s0 (okf_3_4 _), wr_id (by omega) (by omega)]
  have t3 : fZ h3 A 3 = fZ h A 3 + 1 := by rw [eh3, fZ_uF_k (by decide), fZ_uF_k (by decide), fZ_uF_eq ((sh_uF _ _ _ _ _ _).trans s0) (okf_3_3 _), wr_id (by omega) (by omega)]
  have t10 : fZ h3 A 10 = fZ h A 10 + 1 := by rw [eh3, fZ_uF_k (by decide), fZ_uF_eq ((sh_uF _ _ _ _ _ _).trans ((sh_uF _ _ _ _ _ _).trans s0)) (okf_3_10 _), wr_id (by omega) (by omega)]
  have t11 : fZ h3 A 11 = fZ h A 11 + cv := by rw [eh3, fZ_uF_eq ((sh_uF _ _ _ _ _ _).trans ((sh_uF _ _ _ _ _ _).trans ((sh_uF _ _ _ _ _ _).trans s0))) (okf_3_11 _), wr_id (by omega) (by omega)]
  rw [← eh3] at st2
  clear eh3
  have t5 : fZ h3 A 5 = cv := (md_fZ m3 (by omega)).trans c5
  have t7 : fZ h3 A 7 = fZ h A 7 := (md_fZ m3 (by omega)).trans f7
  have kA3 := K3_sm m3.1 kA2
  have m13 : Md (SDR A) h h3 := Md_tr (Md_mono m1 fun c k g => by unfold SDB at g; unfold SDR; omega) (Md_tr (Md_mono m2 fun c k g => by unfold SDR; omega) (Md_mono m3 fun c k g => by unfold SDR; omega))
  have w3 : ∀ i, gZ h3 (A + 11) i = smo q tl sl p i := fun i => by rw [md_gZ m3 (by omega), w2]
  have ps : pixels (smo q tl sl p) := smo_pix pp
  by_cases c6 : fZ h P 6 = 0
  · rw [if_pos c6, b_X3_receive_98] at st2
    refine ⟨h3, p, st.trans st2, m13, pp, dc, fun i i0 i1 => ?_, fun i i0 i1 => by rw [w3]; exact ps i i0 i1, ⟨t3, t4, t5, t10, t11⟩, fun _ => ⟨?_, ?_, t7⟩, fun g => absurd c6 g⟩
    · rw [md_gZ m3 (by omega), c12 i i0 i1, g1]
    · rw [md_Z m3 (by omega), md_Z m2 (by omega), g13]
    · rw [md_Z m3 (by omega), md_Z m2 (by omega), g14]
  · rw [if_neg c6] at st2
    obtain ⟨h4, e4', m4, k1, k2, k3, k4, k5⟩ := keep_ok kA3 (by rw [t7]; exact n7)
    rw [e4', cl_n, b_X3_receive_98] at st2
    refine ⟨h4, p, st.trans st2, Md_tr m13 (Md_mono m4 fun c k g => by unfold SDR; omega), pp, dc, fun i i0 i1 => ?_, fun i i0 i1 => by rw [md_gZ m4 (by omega), w3]; exact ps i i0 i1, ⟨?_, ?_, ?_, ?_, ?_⟩, fun g => absurd g c6, fun _ => ⟨fun i i0 i1 => ?_, fun i i0 i1 => ?_, ?_, fun j j0 j1 => ?_, ?_⟩⟩
    · rw [md_gZ m4 (by omega), md_gZ m3 (by omega), c12 i i0 i1, g1]
    · rw [md_fZ m4 (by omega), t3]
    · rw [md_fZ m4 (by omega), t4]
    · rw [md_fZ m4 (by omega), t5]
    · rw [md_fZ m4 (by omega), t10]
    · rw [md_fZ m4 (by omega), t11]
    · rw [k1 i i0 i1, w3]
    · rw [k2 i i0 i1, md_gZ m3 (by omega), md_gZ m2 (by omega), g13]
    · rw [k3, t5]
      rcases cv01 with e | e <;> rw [e] <;> rfl
    · rw [k4 j j0 j1, md_gZ m3 (by omega), md_gZ m2 (by omega), g14]
    · rw [k5, t7]
