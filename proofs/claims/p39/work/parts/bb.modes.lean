/-! ===== the law counts modes ===== -/
/-- the square of a step -/
def sk (k : Int) : Int := sq (k % 4 * 4) (k / 4 * 4)
abbrev cks (d : Nat → Int → Int) (k : Int) : Prop := d 0 (sk k) = 4 ∨ (k % 4 * 4 % 8 = 0 ∧ k / 4 * 4 % 8 = 0)
def lm (d : Nat → Int → Int) (m : Int) : Nat → Int := fun n => sm n (fun k => bZ (cks d k ∧ d 1 (sk k) = m))
theorem sm_perm (g : Int → Int) : sm 16 (fun k => g (sk k)) = sm 16 g := by
  simp only [sm]
  rw [show sk ((0 : Nat) : Int) = ((0 : Nat) : Int) from by decide, show sk ((1 : Nat) : Int) = ((1 : Nat) : Int) from by decide, show sk ((2 : Nat) : Int) = ((4 : Nat) : Int) from by decide, show sk ((3 : Nat) : Int) = ((5 : Nat) : Int) from by decide, show sk ((4 : Nat) : Int) = ((2 : Nat) : Int) from by decide, show sk ((5 : Nat) : Int) = ((3 : Nat) : Int) from by decide, show sk ((6 : Nat) : Int) = ((6 : Nat) : Int) from by decide, show sk ((7 : Nat) : Int) = ((7 : Nat) : Int) from by decide, show sk ((8 : Nat) : Int) = ((8 : Nat) : Int) from by decide, show sk ((9 : Nat) : Int) = ((9 : Nat) : Int) from by decide, show sk ((10 : Nat) : Int) = ((12 : Nat) : Int) from by decide, show sk ((11 : Nat) : Int) = ((13 : Nat) : Int) from by decide, show sk ((12 : Nat) : Int) = ((10 : Nat) : Int) from by decide, show sk ((13 : Nat) : Int) = ((11 : Nat) : Int) from by decide, show sk ((14 : Nat) : Int) = ((14 : Nat) : Int) from by decide, show sk ((15 : Nat) : Int) = ((15 : Nat) : Int) from by decide]
  omega
theorem lm_all (d : Nat → Int → Int) (m : Int) : lm d m 16 = pim d m 16 := by
  have e : lm d m 16 = sm 16 (fun k => (fun s => if (s % 4 = 0 ∨ d 0 s = 4) ∧ d 1 s = m then (1 : Int) else 0) (sk k)) := sm_congr fun k k0 k1 => by
    have q : (k % 4 * 4 % 8 = 0 ∧ k / 4 * 4 % 8 = 0) ↔ sk k % 4 = 0 := by
      unfold sk sq
      omega
    by_cases c : (sk k % 4 = 0 ∨ d 0 (sk k) = 4) ∧ d 1 (sk k) = m
    · rw [bZ_t (show cks d k ∧ d 1 (sk k) = m from ⟨c.1.elim (fun x => Or.inr (q.mpr x)) Or.inl, c.2⟩)]
      exact (if_pos c).symm
    · rw [bZ_f (fun x : cks d k ∧ d 1 (sk k) = m => c ⟨x.1.elim Or.inr (fun y => Or.inl (q.mp y)), x.2⟩)]
      exact (if_neg c).symm
  have r : pim d m 16 = sm 16 (fun s => if (s % 4 = 0 ∨ d 0 s = 4) ∧ d 1 s = m then (1 : Int) else 0) := rfl
  rw [r]
  exact e.trans (sm_perm (fun s => if (s % 4 = 0 ∨ d 0 s = 4) ∧ d 1 s = m then (1 : Int) else 0))
theorem lm_b (d : Nat → Int → Int) (m : Int) (n : Nat) : 0 ≤ lm d m n ∧ lm d m n ≤ n := sm_01 n fun i _ _ => bZ_01 _
section LM
variable {σ : St} {h : am_H} {D n : Nat} {xs : Int → Int} {z : Int} {v7 v8 v9 v10 : Value}
/-- the counts, so far -/
def mct (σ : St) (p k m : Int) : Int := tpm σ m p.toNat + lm (tpd σ p) m k.toNat
/-- the row of counts -/
def MI (σ : St) (h : am_H) (p k : Int) (g : am_H) : Prop := Md (fun a _ => a = hnx h) (aI 0 7 h) g ∧ ∀ m, 0 ≤ m → m < 7 → gZ g (hnx h) m = mct σ p k m
theorem MI_JL {p k : Int} {g : am_H} (j : JL σ h D n xs) (i : MI σ h p k g) : JL σ g D n xs ∧ (sh g (hnx h) = (1, 0) ∧ gn g (hnx h) = 7) ∧ Fr (fun _ _ => False) 1 7 h g := by
  have F := fr_new i.1
  exact ⟨JL_fr F (fun _ _ q => q) j, ⟨(md_sh i.1 _).trans (sh_aI (by decide)), (md_gn i.1 _).trans (gn_aI _ _ _)⟩, F⟩
theorem mct_b {p k m : Int} (hp : 0 ≤ p ∧ p ≤ 12) (hk : 0 ≤ k ∧ k ≤ 16) : 0 ≤ mct σ p k m ∧ mct σ p k m ≤ 300 := by
  have h1 := tpm_b σ m p.toNat
  have h2 := lm_b (tpd σ p) m k.toNat
  unfold mct
  omega
theorem mct_k {p k m : Int} (hk : 0 ≤ k) : mct σ p (k + 1) m = mct σ p k m + bZ (cks (tpd σ p) k ∧ tpd σ p 1 (sk k) = m) := by
  unfold mct lm
  rw [show (k + 1).toNat = k.toNat + 1 by omega]
  simp only [sm]
  rw [show ((k.toNat : Nat) : Int) = k by omega]
  omega
theorem mct_p {p m : Int} (hp : 0 ≤ p) : mct σ p 16 m = mct σ (p + 1) 0 m := by
  unfold mct
  rw [show (16 : Int).toNat = 16 from rfl, lm_all, show (p + 1).toNat = p.toNat + 1 by omega]
  unfold tpm
  simp only [sm]
  rw [show ((p.toNat : Nat) : Int) = p by omega]
  show _ = _ + (0 : Int)
  omega
theorem md_row (j : JL σ h D n xs) {p : Int} (hp : 0 ≤ p ∧ p < tz σ 7) (v3 : Value) (u8 u9 u10 : Value) {g : am_H} (i : MI σ h p 0 g) : ∃ (g' : am_H) (t8 t9 t10 : Value), rn m_L_law 301 [.ref 1, .ref 2, .ref 51, v3, .int (mI (tz σ 7)), .ref (hnx h), .int (mI p), .int (mI 0), u8, u9, u10] [] g = rn m_L_law 291 [.ref 1, .ref 2, .ref 51, v3, .int (mI (tz σ 7)), .ref (hnx h), .int (mI (p + 1)), .int (mI 16), t8, t9, t10] [] g' ∧ MI σ h (p + 1) 0 g' := by
  have wp : wr p = p := wr_id (by have := j.1.2.1.2.1.1; omega) (by have := j.1.2.1.2.1.1; omega)
  have b7 := j.1.2.1.2.1.1
  have pw := j.1.2.1.2.2.2.1 p hp.1 hp.2
  refine lp (m := m_L_law) (pc := 301) (L := fun k (u : Value × (Value × Value)) => [.ref 1, .ref 2, .ref 51, v3, .int (mI (tz σ 7)), .ref (hnx h), .int (mI p), .int (mI k), u.1, u.2.1, u.2.2]) (N := 16) (P := fun r => ∃ (g' : am_H) (t8 t9 t10 : Value), r = rn m_L_law 291 [.ref 1, .ref 2, .ref 51, v3, .int (mI (tz σ 7)), .ref (hnx h), .int (mI (p + 1)), .int (mI 16), t8, t9, t10] [] g' ∧ MI σ h (p + 1) 0 g') (fun k _ g => 0 ≤ k ∧ MI σ h p k g) ?_ ?_ 0 (u8, u9, u10) g (by omega) ⟨by omega, i⟩
  · rintro k ⟨t8, t9, t10⟩ g hk ⟨k0, i⟩
    obtain ⟨jg, ⟨sg, ng⟩, -⟩ := MI_JL j i
    have wk : wr k = k := wr_id (by omega) (by omega)
    have hx : 0 ≤ k % 4 * 4 ∧ k % 4 * 4 < 16 := by omega
    have hy : 0 ≤ k / 4 * 4 ∧ k / 4 * 4 < 16 := by omega
    have wx : wr (k % 4 * 4) = k % 4 * 4 := wr_id (by omega) (by omega)
    have wy : wr (k / 4 * 4) = k / 4 * 4 := wr_id (by omega) (by omega)
    have eP := q_partAt jg.1.1 jg.1.2.1 (i := p) wp wx wy ⟨hp, hx, hy⟩
    have eM := q_modeAt jg.1.1 jg.1.2.1 (i := p) wp wx wy ⟨hp, hx, hy⟩
    have sb := sq_b (k % 4 * 4) (k / 4 * 4)
    have pd := pw.2.2.2.2.2.2.2.2.2.2.2.1 (sq (k % 4 * 4) (k / 4 * 4)) sb.1 sb.2
    have z8 : tpd σ p 0 (sq (k % 4 * 4) (k / 4 * 4)) = 4 ∨ tpd σ p 0 (sq (k % 4 * 4) (k / 4 * 4)) = 8 := pd.1
    have mb : 0 ≤ tpd σ p 1 (sq (k % 4 * 4) (k / 4 * 4)) ∧ tpd σ p 1 (sq (k % 4 * 4) (k / 4 * 4)) < 7 := by
      have h1 := pd.2.2.2.1
      have h2 : (nmo (tpz σ p 0) : Int) ≤ 7 := by
        unfold nmo
        split
        · decide
        · split <;> decide
      omega
    have es : sq (k % 4 * 4) (k / 4 * 4) = sk k := rfl
    rw [es] at eP eM z8 mb
    have st := b_L_law_301 (a0 := 1) (a1 := 2) (a2 := 51) (a5 := hnx h) (v3 := v3) (x4 := tz σ 7) (x6 := p) (v8 := t8) (v9 := t9) (v10 := t10) (h := g) wk
    rw [if_neg (by omega), tmd k0, tdv k0, A_partAt jg.1.1.1 eP, cl_v, b_L_law_336 wx wy (wr_id (z := tpd σ p 0 (sk k)) (by omega) (by omega)), tmd hx.1, tmd hy.1, wr_id (z := k % 4 * 4 % 8) (by omega) (by omega), wr_id (z := k / 4 * 4 % 8) (by omega) (by omega), A_modeAt jg.1.1.1 eM, cl_v] at st
    have ec : bZ (tpd σ p 0 (sk k) = 4 ∨ ¬ (¬ k % 4 * 4 % 8 = 0) ∧ ¬ (¬ k / 4 * 4 % 8 = 0)) = bZ (cks (tpd σ p) k) := bZ_congr (by simp only [Decidable.not_not])
    rw [ec] at st
    have mx : max 0 (tpd σ p 1 (sk k)) = tpd σ p 1 (sk k) := by omega
    rw [b_L_law_378 (n_as2 := 7) (wr_bZ _) (wr_id (z := tpd σ p 1 (sk k)) (by omega) (by omega)) w_0 ng sg (by rw [mx]; omega), mx] at st
    have eb : bZ (¬ bZ (cks (tpd σ p) k) = 0) = bZ (cks (tpd σ p) k) := by
      by_cases c : cks (tpd σ p) k
      · rw [bZ_t c]; rfl
      · rw [bZ_f c]; rfl
    rw [eb] at st
    refine ⟨(_, _, _), _, st, by omega, Md_tr i.1 (Md_uZ _ _ _ _), fun m m0 m1 => ?_⟩
    rw [gZ_uZ' (sh1 sg), i.2 m m0 m1, mct_k k0]
    by_cases e : m = tpd σ p 1 (sk k)
    · rw [if_pos e, i.2 _ mb.1 mb.2, ← e]
      have mb2 := mct_b (σ := σ) (p := p) (k := k) (m := m) (by omega) (by omega)
      have b01 := bZ_01 (cks (tpd σ p) k)
      rw [wr_id (by omega) (by omega)]
      congr 1
      exact bZ_congr ⟨fun q => ⟨q, rfl⟩, fun q => q.1⟩
    · rw [if_neg e, bZ_f (fun q => e q.2.symm)]
      omega
  · rintro ⟨t8, t9, t10⟩ g ⟨-, i⟩
    refine ⟨g, t8, t9, t10, ?_, i.1, fun m m0 m1 => (i.2 m m0 m1).trans (mct_p hp.1)⟩
    rw [b_L_law_301 (wr_id (z := 16) (by decide) (by decide)), if_pos (by decide)]
theorem md_all (j : JL σ h D n xs) (v3 z0 z1 : Value) (v7 v8 v9 v10 : Value) : ∃ (g : am_H) (u8 u9 u10 : Value), rn m_L_law 286 [.ref 1, .ref 2, .ref 51, v3, .int (mI (tz σ 7)), z0, z1, v7, v8, v9, v10] [.ref (hnx h)] (aI 0 7 h) = rn m_L_law 413 [.ref 1, .ref 2, .ref 51, v3, .int (mI (tz σ 7)), .ref (hnx h), .int (mI 0), .int (mI 1), u8, u9, u10] [] g ∧ MI σ h (tz σ 7) 0 g := by
  have b7 := j.1.2.1.2.1.1
  have w7 : wr (tz σ 7) = tz σ 7 := wr_id (by omega) (by omega)
  rw [b_L_law_286]
  refine lp (m := m_L_law) (pc := 291) (L := fun p (u : (Value × Value) × (Value × Value)) => [.ref 1, .ref 2, .ref 51, v3, .int (mI (tz σ 7)), .ref (hnx h), .int (mI p), u.1.1, u.1.2, u.2.1, u.2.2]) (N := tz σ 7) (P := fun r => ∃ (g : am_H) (u8 u9 u10 : Value), r = rn m_L_law 413 [.ref 1, .ref 2, .ref 51, v3, .int (mI (tz σ 7)), .ref (hnx h), .int (mI 0), .int (mI 1), u8, u9, u10] [] g ∧ MI σ h (tz σ 7) 0 g) (fun p _ g => 0 ≤ p ∧ MI σ h p 0 g) ?_ ?_ 0 ((v7, v8), (v9, v10)) (aI 0 7 h) (by omega) ⟨by omega, Md_rf _ _, fun m _ _ => by
    rw [gZ_aI]
    rfl⟩
  · rintro p ⟨⟨t7, t8⟩, t9, t10⟩ g hp ⟨p0, i⟩
    obtain ⟨g', r8, r9, r10, e, i'⟩ := md_row j ⟨p0, hp⟩ v3 t8 t9 t10 i
    refine ⟨((.int (mI 16), r8), (r9, r10)), g', ?_, by omega, i'⟩
    rw [b_L_law_291 w7 (wr_id (z := p) (by omega) (by omega)), if_neg (by omega)]
    exact e
  · rintro ⟨⟨t7, t8⟩, t9, t10⟩ g ⟨-, i⟩
    refine ⟨g, t8, t9, t10, ?_, i⟩
    rw [b_L_law_291 w7 w7, if_pos (Int.le_refl _)]
/-- the commonest mode is that of the most parts -/
theorem md_best (j : JL σ h D n xs) (v3 : Value) (u8 u9 u10 : Value) {g : am_H} (i : MI σ h (tz σ 7) 0 g) : ∃ (g' : am_H) (v5 v6 v8 v9 v10 : Value), rn m_L_law 413 [.ref 1, .ref 2, .ref 51, v3, .int (mI (tz σ 7)), .ref (hnx h), .int (mI 0), .int (mI 1), u8, u9, u10] [] g = rn m_L_law 483 [.ref 1, .ref 2, .ref 51, v3, .int (mI (tz σ 7)), v5, v6, .int (mI (-2147000002)), v8, v9, v10] [.ref (hnx g'), .int (mI 102), .ref 2] (aI 0 5 g') ∧ JL σ g' D n xs ∧ Fr (fun _ _ => True) 1 6 g g' := by
  obtain ⟨jg, ⟨sg, ng⟩, -⟩ := MI_JL j i
  have b7 := j.1.2.1.2.1.1
  have w7 : wr (tz σ 7) = tz σ 7 := wr_id (by omega) (by omega)
  have ef : ∀ m, 0 ≤ m → m < 7 → gZ g (hnx h) m = tpm σ m (tz σ 7).toNat := fun m m0 m1 => by
    rw [i.2 m m0 m1]
    show tpm σ m (tz σ 7).toNat + (0 : Int) = _
    omega
  have f1 : fgr (fun m => tpm σ m (tz σ 7).toNat) 1 = 0 := by
    unfold fgr
    split
    · rfl
    · rfl
  have hlp := lp (m := m_L_law) (pc := 413) (L := fun k (_ : Unit) => [.ref 1, .ref 2, .ref 51, v3, .int (mI (tz σ 7)), .ref (hnx h), .int (mI (fgr (fun m => tpm σ m (tz σ 7).toNat) k.toNat)), .int (mI k), u8, u9, u10]) (N := 7) (P := fun r => ∃ (g' : am_H) (v5 v6 v8 v9 v10 : Value), r = rn m_L_law 483 [.ref 1, .ref 2, .ref 51, v3, .int (mI (tz σ 7)), v5, v6, .int (mI (-2147000002)), v8, v9, v10] [.ref (hnx g'), .int (mI 102), .ref 2] (aI 0 5 g') ∧ JL σ g' D n xs ∧ Fr (fun _ _ => True) 1 6 g g') (fun k _ q => 1 ≤ k ∧ q = g) ?_ ?_ 1 () g (by decide) ⟨by decide, rfl⟩
  · have e1 : (1 : Int).toNat = 1 := rfl
    rw [e1, f1] at hlp
    exact hlp
  · rintro k _ q hk ⟨k1, rfl⟩
    have fb := fgr_b (fun m => tpm σ m (tz σ 7).toNat) k.toNat
    have w6 : wr (fgr (fun m => tpm σ m (tz σ 7).toNat) k.toNat) = fgr (fun m => tpm σ m (tz σ 7).toNat) k.toNat := wr_id (by omega) (by omega)
    refine ⟨(), q, ?_, by omega, rfl⟩
    rw [b_L_law_413 (n_a5 := 7) w6 (wr_id (z := k) (by omega) (by omega)) ng sg (fun _ => by omega) (fun _ => by omega), if_neg (by omega), ef k (by omega) hk, ef _ fb.1 (by omega)]
    have en : fgr (fun m => tpm σ m (tz σ 7).toNat) (k + 1).toNat = if tpm σ k (tz σ 7).toNat ≤ tpm σ (fgr (fun m => tpm σ m (tz σ 7).toNat) k.toNat) (tz σ 7).toNat then fgr (fun m => tpm σ m (tz σ 7).toNat) k.toNat else k := by
      rw [show (k + 1).toNat = k.toNat + 1 by omega]
      have : fgr (fun m => tpm σ m (tz σ 7).toNat) (k.toNat + 1) = if tpm σ (fgr (fun m => tpm σ m (tz σ 7).toNat) k.toNat) (tz σ 7).toNat < tpm σ ((k.toNat : Nat) : Int) (tz σ 7).toNat then ((k.toNat : Nat) : Int) else fgr (fun m => tpm σ m (tz σ 7).toNat) k.toNat := rfl
      rw [this, show ((k.toNat : Nat) : Int) = k by omega]
      by_cases c : tpm σ k (tz σ 7).toNat ≤ tpm σ (fgr (fun m => tpm σ m (tz σ 7).toNat) k.toNat) (tz σ 7).toNat
      · rw [if_pos c, if_neg (by omega)]
      · rw [if_neg c, if_pos (by omega)]
    rw [en]
  · rintro _ q ⟨-, rfl⟩
    have fb := fgr_b (fun m => tpm σ m (tz σ 7).toNat) (7 : Int).toNat
    have e7 : (7 : Int).toNat = 7 := rfl
    rw [e7] at fb
    have w6 : wr (fgr (fun m => tpm σ m (tz σ 7).toNat) 7) = fgr (fun m => tpm σ m (tz σ 7).toNat) 7 := wr_id (by omega) (by omega)
    rw [e7, b_L_law_413 (n_a5 := 7) w6 (wr_id (z := 7) (by decide) (by decide)) ng sg (fun q => absurd q (by decide)) (fun q => absurd q (by decide)), if_pos (by decide)]
    by_cases c : tz σ 7 = 0
    · rw [A_commonest_x4 jg.1.1.1 ((q_commonest jg.1.1 jg.1.2.1).2 c), cl_v, b_L_law_455 w7 w6 (wr_id (z := -1005) (by decide) (by decide)), if_pos (if_neg (fun z => z c)).symm]
      exact ⟨hexc q, _, _, _, _, _, rfl, JL_exc jg, Fr_mono (Fr_exc q) (fun _ _ _ _ => trivial) (by decide) (by decide)⟩
    · rw [A_commonest jg.1.1.1 ((q_commonest jg.1.1 jg.1.2.1).1 c), cl_v, b_L_law_455 w7 w6 w6, if_pos (if_pos c).symm]
      exact ⟨q, _, _, _, _, _, rfl, jg, Fr_mono (Fr_rf _ q) (fun _ _ _ q => q) (by decide) (by decide)⟩
end LM
