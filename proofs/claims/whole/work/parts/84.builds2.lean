/-! ===== the model's decoder: parts over any pictures ===== -/
theorem builds2_ok {h : am_H} {M N P V L : Nat} {r1 r2 : Option Nat} {p f1 f2 l : Int → Int} {X Y Z sl m v1 v2 q : Int} (g : gOk h M N P V r1 r2 p f1 f2 X Y Z (tp sl Y) m v1 v2) (nN : N ≤ hnx h) (nP : P < hnx h) (nV : V < hnx h) (PV : P ≠ V) (PL : P ≠ L) (sL : sh h L = (1, 0)) (nL : gn h L = 256) (lL : L < hnx h) (el : gZ h L = l) (hl : ∀ i, 0 ≤ i → i < 256 → -5000 ≤ 4 * q * l i ∧ 4 * q * l i ≤ 5000) (li : lies X Y Z (tp sl Y)) (hsl : sl = 1 ∨ sl = 2) (hq : 1 ≤ q ∧ q ≤ 40) : ∃ h', rn m_X12_builds 0 [.ref P, am_rv r1, am_rv r2, .int (mI X), .int (mI Y), .int (mI Z), .int (mI m), .ref V, .ref L, .int (mI q), .int (mI sl), am_J, am_J, am_J, am_J, am_J, am_J, am_J] [] h = some (.inl none, h') ∧ Fr (fun c _ => c = P) (1 + 2 * (side Z * side Z).toNat) (256 + 32 * (side Z * side Z).toNat) h h' ∧ (∀ s k, 0 ≤ s → s < 16 → 0 ≤ k → k < 16 → (inPart X Y Z s → gZ h' P (pl s k) = clampv (gss p f1 f2 X Y Z (tp sl Y) m v1 v2 (cx s + k % 4) (cy s + k / 4) + dif q (fun j => l (pl s j)) k)) ∧ (¬ inPart X Y Z s → gZ h' P (pl s k) = p (pl s k))) := by
  have tb := tp_b sl Y
  obtain ⟨ip, mm⟩ := lies_part li tb.2
  have gb := fun a b (ha : X ≤ a ∧ a < X + Z) (hb : Y ≤ b ∧ b < Y + Z) => gOk_b g ip ha hb
  obtain ⟨hz, hX, hY, hT⟩ := ip
  have sb := side_b li
  have eS : wr (Int.tdiv (wr (Z * Z)) 16) = side Z * side Z ∧ wr (Int.tdiv Z 4) = side Z ∧ 0 < side Z ∧ 0 ≤ side Z * side Z ∧ side Z * side Z ≤ 4 := by
    rcases sb with ⟨rfl, e⟩ | ⟨rfl, e⟩ <;> rw [e] <;> decide
  obtain ⟨eS1, eS2, eS3, eS5, eS4⟩ := eS
  obtain ⟨⟨gP1, gP2, gP3, gP4⟩, -⟩ := id g
  obtain ⟨h1, e1, fr1, nx1, sG, nG, gg⟩ := guesses_ok g nN nP nV li hsl
  rw [b_X12_builds_0, e1, cl_v, b_X12_builds_17]
  have lP1 : sh h1 P = (1, 0) := (fr1.1.sh1 nP).trans gP1
  have nP1 : gn h1 P = 256 := (fr1.1.gn1 nP).trans gP2
  have gP1' : gZ h1 P = p := (frZ fr1 nP (fun q => q)).trans gP3
  have sL1 : sh h1 L = (1, 0) := (fr1.1.sh1 lL).trans sL
  have nL1 : gn h1 L = 256 := (fr1.1.gn1 lL).trans nL
  have gL1 : gZ h1 L = l := (frZ fr1 lL (fun q => q)).trans el
  refine lp (m := m_X12_builds) (pc := 22) (L := fun t (z : (Value × Value) × (Value × (Value × Value))) => [.ref P, am_rv r1, am_rv r2, .int (mI X), .int (mI Y), .int (mI Z), .int (mI m), .ref V, .ref L, .int (mI q), am_k1 (.int (mI sl)), .ref (hnx h), .int (mI t), z.1.1, z.1.2, z.2.1, z.2.2.1, z.2.2.2]) (N := side Z * side Z) (P := fun r => ∃ h', r = some (.inl none, h') ∧ Fr (fun c _ => c = P) (1 + 2 * (side Z * side Z).toNat) (256 + 32 * (side Z * side Z).toNat) h h' ∧ (∀ s k, 0 ≤ s → s < 16 → 0 ≤ k → k < 16 → (inPart X Y Z s → gZ h' P (pl s k) = clampv (gss p f1 f2 X Y Z (tp sl Y) m v1 v2 (cx s + k % 4) (cy s + k / 4) + dif q (fun j => l (pl s j)) k)) ∧ (¬ inPart X Y Z s → gZ h' P (pl s k) = p (pl s k)))) (fun t z h' => 0 ≤ t ∧ Fr (fun c _ => c = P) (2 * t.toNat) (32 * t.toNat) h1 h' ∧ (∀ s k, 0 ≤ s → s < 16 → 0 ≤ k → k < 16 → (inPart X Y Z s ∧ num X Y Z s < t → gZ h' P (pl s k) = clampv (gss p f1 f2 X Y Z (tp sl Y) m v1 v2 (cx s + k % 4) (cy s + k / 4) + dif q (fun j => l (pl s j)) k)) ∧ (¬ (inPart X Y Z s ∧ num X Y Z s < t) → gZ h' P (pl s k) = p (pl s k)))) ?_ ?_ 0 ((am_J, am_J), (am_J, (am_J, am_J))) h1 (by omega) ⟨by omega, Fr_rf _ _, fun s k s0 s1 k0 k1 => ⟨fun qq => by have := num_b li qq.1; omega, fun _ => by rw [gP1']⟩⟩
  · intro t z h' ht ⟨t0, fr, hh⟩
    obtain ⟨⟨z1, z2⟩, z3, z4, z5⟩ := z
    obtain ⟨⟨x0, x1, x2⟩, y0, y1, y2⟩ := num_ok li ⟨t0, ht⟩
    have ns := fun s (hs : 0 ≤ s ∧ s < 16) => num_sq (s := s) li ⟨t0, ht⟩ hs
    obtain ⟨c1, c2, c3, c4⟩ := sq_xy (x := X + t % side Z * 4) (y := Y + t / side Z * 4) (by omega) (by omega) x2 y2
    have inp := (ns _ ⟨c3, c4⟩).mp rfl
    generalize hst : sq (X + t % side Z * 4) (Y + t / side Z * 4) = st at *
    have ele : gZ h' L = l := (frZ fr (by omega) (fun q => PL q.symm)).trans gL1
    have ep : ∀ k, pl st k = 16 * (Y + t / side Z * 4) + (X + t % side Z * 4) + ip k := fun k => by unfold pl; rw [c1, c2]
    have blk := b_X12_builds_22 (a0 := P) (a8 := L) (a11 := hnx h) (v1 := am_rv r1) (v2 := am_rv r2) (v6 := .int (mI m)) (v7 := .ref V) (v10 := am_k1 (.int (mI sl))) (v13 := z1) (v14 := z2) (v15 := z3) (v16 := z4) (v17 := z5) (x3 := X) (x4 := Y) (x9 := q) (h := h') (wr_id (z := Z) (by omega) (by omega)) (wr_id (z := t) (by omega) (by omega))
    rw [eS1, eS2, tmd t0, tdv t0] at blk
    have blk := blk (fun _ => by omega)
    rw [if_neg (by omega)] at blk
    obtain ⟨h2, e2, fr2, nx2, sB, nB, gB⟩ := back_ok (q := q) ((fr.1.sh1 (by omega)).trans sL1) ((fr.1.gn1 (by omega)).trans nL1) (by have := fr.1.nx; omega) (X := X + t % side Z * 4) (Y := Y + t / side Z * 4) ⟨x0, x1⟩ ⟨y0, y1⟩ hq (fun k k0 k1 => by rw [ele, ← ep]; have := pl_b st k; exact hl _ this.1 this.2)
    rw [e2, cl_v, b_X12_builds_73] at blk
    have nx' := fr.1.nx
    have frA : Fr (fun c _ => c = P) (2 * t.toNat + 2) (32 * t.toNat + 32) h1 h2 := Fr_tr (U := fun c _ => c = P) fr fr2 (fun _ _ _ q => q) (fun _ _ _ q => q.elim)
    have gB' : ∀ k, 0 ≤ k → k < 16 → gZ h2 (hnx h' + 1) k = dif q (fun j => l (pl st j)) k := fun k k0 k1 => by
      rw [gB k k0 k1, ele]
      exact dif_congr (fun j j0 j1 => by rw [ep]) k
    have gG2 : ∀ k, 0 ≤ k → k < 16 → gZ h2 (hnx h) (pl st k) = gss p f1 f2 X Y Z (tp sl Y) m v1 v2 (cx st + k % 4) (cy st + k / 4) := fun k k0 k1 => by
      rw [frA.1.gZ1 _ (by omega) (by omega), (pl_xy2 ⟨c3, c4⟩ ⟨k0, k1⟩).1]
      have i1 := inp.1
      unfold inPart at i1
      exact gg _ _ (by omega) (by omega) (by omega) (by omega)
    have hh2 : ∀ s k, 0 ≤ s → s < 16 → 0 ≤ k → k < 16 → gZ h2 P (pl s k) = gZ h' P (pl s k) := fun s k s0 s1 k0 k1 => fr2.1.gZ1 _ (by omega) (fun q => q)
    have db : ∀ k, -10000 ≤ dif q (fun j => l (pl st j)) k ∧ dif q (fun j => l (pl st j)) k ≤ 10000 := fun k => by
      have := hd_b (s := fun j => 4 * q * l (pl st j)) (m := 5000) (fun j j0 j1 => by have := pl_b st j; exact hl _ this.1 this.2) k
      have e : dif q (fun j => l (pl st j)) k = (hd (fun j => 4 * q * l (pl st j)) k + 8) / 16 := rfl
      rw [e]
      omega
    refine Exists.elim (lp (m := m_X12_builds) (pc := 78) (L := fun k (z : Value) => [.ref P, am_rv r1, am_rv r2, .int (mI X), .int (mI Y), .int (mI Z), .int (mI m), .ref V, .ref L, .int (mI q), am_k1 (.int (mI sl)), .ref (hnx h), .int (mI t), .int (mI (X + t % side Z * 4)), .int (mI (Y + t / side Z * 4)), .ref (hnx h' + 1), .int (mI k), z]) (N := 16) (P := fun r => ∃ (s' : (Value × Value) × (Value × (Value × Value))), ∃ h'' : am_H, r = rn m_X12_builds 22 [.ref P, am_rv r1, am_rv r2, .int (mI X), .int (mI Y), .int (mI Z), .int (mI m), .ref V, .ref L, .int (mI q), am_k1 (.int (mI sl)), .ref (hnx h), .int (mI (t + 1)), s'.1.1, s'.1.2, s'.2.1, s'.2.2.1, s'.2.2.2] [] h'' ∧ (0 ≤ t + 1 ∧ Fr (fun c _ => c = P) (2 * (t + 1).toNat) (32 * (t + 1).toNat) h1 h'' ∧ (∀ s k, 0 ≤ s → s < 16 → 0 ≤ k → k < 16 → (inPart X Y Z s ∧ num X Y Z s < t + 1 → gZ h'' P (pl s k) = clampv (gss p f1 f2 X Y Z (tp sl Y) m v1 v2 (cx s + k % 4) (cy s + k / 4) + dif q (fun j => l (pl s j)) k)) ∧ (¬ (inPart X Y Z s ∧ num X Y Z s < t + 1) → gZ h'' P (pl s k) = p (pl s k))))) (fun k z h3 => 0 ≤ k ∧ Md (fun c _ => c = P) h2 h3 ∧ (∀ j, 0 ≤ j → j < k → gZ h3 P (pl st j) = clampv (gss p f1 f2 X Y Z (tp sl Y) m v1 v2 (cx st + j % 4) (cy st + j / 4) + dif q (fun j => l (pl st j)) j)) ∧ ∀ i, (∀ k, 0 ≤ k → k < 16 → i ≠ pl st k) → gZ h3 P i = gZ h2 P i) ?_ ?_ 0 z5 h2 (by omega) ⟨by omega, Md_rf _ _, fun j j0 j1 => by omega, fun _ _ => rfl⟩) (fun s' hs' => Exists.elim hs' fun h'' hh'' => ⟨s', h'', blk.trans hh''.1, hh''.2⟩)
    · intro k z h3 hk ⟨k0, md, d1, d2⟩
      have ik := ip16 ⟨k0, hk⟩
      have epk := ep k
      have plb := pl_b st k
      have st2 := b_X12_builds_78 (a0 := P) (a8 := L) (a11 := hnx h) (a15 := hnx h' + 1) (n_a11 := 256) (n_a15 := 16) (n_a0 := 256) (v1 := am_rv r1) (v2 := am_rv r2) (v6 := .int (mI m)) (v7 := .ref V) (v10 := am_k1 (.int (mI sl))) (v17 := z) (x3 := X) (x4 := Y) (x5 := Z) (x9 := q) (x12 := t) (x13 := X + t % side Z * 4) (x14 := Y + t / side Z * 4) (h := h3) (wr_id (z := k) (by omega) (by omega)) ((md_gn md _).trans ((frA.1.gn1 (by omega)).trans nG)) ((md_sh md _).trans ((frA.1.sh1 (by omega)).trans sG))
      have eidx : 16 * (Y + t / side Z * 4 + k / 4) + (X + t % side Z * 4) + k % 4 = pl st k := by omega
      rw [tdv k0, tmd k0, eidx, wr_id (z := pl st k) (by omega) (by omega)] at st2
      have st2 := st2 (fun _ => by omega) ((md_gn md _).trans nB) ((md_sh md _).trans sB) (fun _ => by omega) ((md_gn md _).trans ((frA.1.gn1 (by omega)).trans nP1)) ((md_sh md _).trans ((frA.1.sh1 (by omega)).trans lP1)) (fun _ => by omega)
      have c0 := gb (cx st + k % 4) (cy st + k / 4) (by have i1 := inp.1; unfold inPart at i1; omega) (by have i1 := inp.1; unfold inPart at i1; omega)
      have d0 := db k
      rw [if_neg (by omega), md_gZ md (by omega), md_gZ md (by omega), gG2 k k0 hk, gB' k k0 hk, wr_id (z := gss p f1 f2 X Y Z (tp sl Y) m v1 v2 (cx st + k % 4) (cy st + k / 4) + dif q (fun j => l (pl st j)) k) (by omega) (by omega)] at st2
      have sP3 : sh h3 P = (1, 0) := (md_sh md _).trans ((frA.1.sh1 (by omega)).trans lP1)
      refine ⟨_, _, st2, by omega, Md_tr md (Md_uZ _ _ _ _), fun j j0 j1 => ?_, fun i hi => ?_⟩
      · rw [gZ_uZ' (sh1 sP3)]
        by_cases e : pl st j = pl st k
        · have := (pl_inj ⟨c3, c4⟩ ⟨c3, c4⟩ ⟨j0, by omega⟩ ⟨k0, hk⟩ e).2
          rw [if_pos e, this, wr_clampv]
        · rw [if_neg e]
          have : j ≠ k := fun q => e (by rw [q])
          exact d1 j j0 (by omega)
      · rw [gZ_uZ_nj _ (sh1 sP3) (hi k k0 hk)]
        exact d2 i hi
    · intro z h3 ⟨k0, md, d1, d2⟩
      have st2 := b_X12_builds_78 (a0 := P) (a8 := L) (a11 := hnx h) (a15 := hnx h' + 1) (n_a11 := 256) (n_a15 := 16) (n_a0 := 256) (v1 := am_rv r1) (v2 := am_rv r2) (v6 := .int (mI m)) (v7 := .ref V) (v10 := am_k1 (.int (mI sl))) (v17 := z) (x3 := X) (x4 := Y) (x5 := Z) (x9 := q) (x12 := t) (x13 := X + t % side Z * 4) (x14 := Y + t / side Z * 4) (h := h3) (wr_id (z := 16) (by omega) (by omega)) ((md_gn md _).trans ((frA.1.gn1 (by omega)).trans nG)) ((md_sh md _).trans ((frA.1.sh1 (by omega)).trans sG)) (fun _ => by omega) ((md_gn md _).trans nB) ((md_sh md _).trans sB) (fun _ => by omega) ((md_gn md _).trans ((frA.1.gn1 (by omega)).trans nP1)) ((md_sh md _).trans ((frA.1.sh1 (by omega)).trans lP1)) (fun _ => by omega)
      rw [if_pos (by omega)] at st2
      refine ⟨((_, _), (_, (_, _))), h3, st2, by omega, Fr_mono (Fr_tr (U := fun c _ => c = P) frA (md_fr md) (fun _ _ _ q => q) (fun _ _ _ q => q)) (fun _ _ _ q => q) (by omega) (by omega), fun s k s0 s1 k0 k1 => ?_⟩
      by_cases e : s = st
      · subst e
        exact ⟨fun _ => d1 k k0 k1, fun q => absurd ⟨inp.1, by omega⟩ q⟩
      · have ne : ¬ (inPart X Y Z s ∧ num X Y Z s = t) := fun q => e ((ns s ⟨s0, s1⟩).mpr q)
        have ou : gZ h3 P (pl s k) = gZ h' P (pl s k) := (d2 _ fun j j0 j1 q => e (pl_inj ⟨s0, s1⟩ ⟨c3, c4⟩ ⟨k0, k1⟩ ⟨j0, j1⟩ q).1).trans (hh2 s k s0 s1 k0 k1)
        refine ⟨fun q => ou.trans ((hh s k s0 s1 k0 k1).1 ⟨q.1, ?_⟩), fun q => ou.trans ((hh s k s0 s1 k0 k1).2 fun q' => q ⟨q'.1, by omega⟩)⟩
        have nt : num X Y Z s ≠ t := fun w => ne ⟨q.1, w⟩
        have q2 := q.2
        omega
  · intro z h' ⟨t0, fr, hh⟩
    obtain ⟨⟨z1, z2⟩, z3, z4, z5⟩ := z
    have blk := b_X12_builds_22 (a0 := P) (a8 := L) (a11 := hnx h) (v1 := am_rv r1) (v2 := am_rv r2) (v6 := .int (mI m)) (v7 := .ref V) (v10 := am_k1 (.int (mI sl))) (v13 := z1) (v14 := z2) (v15 := z3) (v16 := z4) (v17 := z5) (x3 := X) (x4 := Y) (x9 := q) (h := h') (wr_id (z := Z) (by omega) (by omega)) (wr_id (z := side Z * side Z) (by omega) (by omega))
    rw [eS1, eS2] at blk
    have blk := blk (fun _ => by omega)
    rw [if_pos (by omega)] at blk
    refine ⟨h', blk, Fr_mono (Fr_tr (U := fun c _ => c = P) fr1 fr (fun _ _ _ q => q.elim) (fun _ _ _ q => q)) (fun _ _ _ q => q) (by omega) (by omega), fun s k s0 s1 k0 k1 => ⟨fun q => (hh s k s0 s1 k0 k1).1 ⟨q, (num_b li q).2⟩, fun q => (hh s k s0 s1 k0 k1).2 fun q' => q q'.1⟩⟩
