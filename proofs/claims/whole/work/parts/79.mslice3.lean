/-! ===== the model's slice from its begin to its end ===== -/
theorem Msl_md {h h' h'' : am_H} {M : Nat} {A : cA} {es : List (Int × Bool)} (m : Md (SMl M) h h') (r : Msl h' h'' M A es) : Md (SMl M) h h'' := Md_tr m r.1
theorem sSlice_ok {h : am_H} {M N W : Nat} {pd : Nat → Int → Int} {kd tl sl w : Int} (k10 : K10 h M) (p : Pm h M N W pd kd tl sl) (hN : N + 3 < hnx h) (hW : W < hnx h) (ht : 0 ≤ tl ∧ tl ≤ 7) (hs : sl = 1 ∨ sl = 2) (hb : ∀ s, 0 ≤ s → s < 16 → pdB pd s) (hbk : ∀ s, 0 ≤ s → s < 16 → pd 0 s = pd 0 (4 * (s / 4))) (hw : w = 0 ∨ w = 1 ∧ sl = 2) : ∃ h', rn m_X12_slice 0 [.ref M, .int (mI w), .ref W, am_J, am_J, am_J, am_J, am_J] [] h = some (.inl (some (.ref (hnx h))), h') ∧ Fr (SMl M) 1 ((runA A0 (slS pd kd tl sl w 16).1).2.2.2 + 4) h h' ∧ hnx h' = hnx h + 1 ∧ sh h' (hnx h) = (1, 0) ∧ gn h' (hnx h) = (runA A0 (slS pd kd tl sl w 16).1).2.2.2 + 4 ∧ Dig (gZ h' (hnx h)) ((runA A0 (slS pd kd tl sl w 16).1).2.2.2 + 4) (runA A0 (slS pd kd tl sl w 16).1).2.1 := by
  have ww : wr w = w := wr_id (by omega) (by omega)
  have w2 : ∀ b, 0 ≤ b → b < 4 → ((if sl = 2 ∧ 2 ≤ b then (1 : Int) else 0) = w ↔ (sl = 1 ∨ b / 2 = w)) := by
    intro b b0 b1
    by_cases c : sl = 2 ∧ 2 ≤ b
    · rw [if_pos c]; omega
    · rw [if_neg c]; omega
  have st := b_X12_slice_0 (a0 := M) (a2 := W) (x1 := w) (h := h) k10
  obtain ⟨h1, e1, m1, q1⟩ := begins_ok k10
  rw [e1, cl_n, b_X12_slice_4] at st
  have m1' : Md (SMl M) h h1 := Md_mono m1 fun c k q => Or.inl q
  rw [st]
  -- the last vectors are put to zero
  have zero : ∃ (h2 : am_H), rn m_X12_slice 6 [.ref M, .int (mI w), .ref W, .int (mI 0), am_J, am_J, am_J, am_J] [] h1 = rn m_X12_slice 26 [.ref M, .int (mI w), .ref W, .int (mI 0), am_J, am_J, am_J, am_J] [] h2 ∧ Md (fun c _ => c = M + 20) h1 h2 ∧ LSt h2 M 808 808 := by
    refine lp (m := m_X12_slice) (pc := 6) (L := fun i (_ : Unit) => [.ref M, .int (mI w), .ref W, .int (mI i), am_J, am_J, am_J, am_J]) (N := 4) (P := fun r => ∃ (h2 : am_H), r = rn m_X12_slice 26 [.ref M, .int (mI w), .ref W, .int (mI 0), am_J, am_J, am_J, am_J] [] h2 ∧ Md (fun c _ => c = M + 20) h1 h2 ∧ LSt h2 M 808 808) (fun i _ h' => 0 ≤ i ∧ Md (fun c _ => c = M + 20) h1 h' ∧ ∀ j, 0 ≤ j → j < i → gZ h' (M + 20) j = 0) ?_ ?_ 0 () h1 (by omega) ⟨by omega, Md_rf _ _, fun j j0 j1 => by omega⟩
    · intro i _ h' hi ⟨i0, md, hh⟩
      have k' := K10_sm md.1 q1.1
      have st := b_X12_slice_6 (a0 := M) (a2 := W) (x1 := w) (v4 := am_J) (v5 := am_J) (v6 := am_J) (v7 := am_J) (h := h') (wr_id (z := i) (by omega) (by omega)) k' (fun _ => by omega)
      rw [if_neg (by omega)] at st
      refine ⟨(), _, st, by omega, Md_tr md (Md_uZ _ _ _ _), fun j j0 j1 => ?_⟩
      rw [gZ_uZ' (sh1 (K10_s38 k'))]
      by_cases c : j = i
      · rw [if_pos c, wr_id (by omega) (by omega)]
      · rw [if_neg c]; exact hh j j0 (by omega)
    · intro _ h' ⟨i0, md, hh⟩
      have k' := K10_sm md.1 q1.1
      have st := b_X12_slice_6 (a0 := M) (a2 := W) (x1 := w) (v4 := am_J) (v5 := am_J) (v6 := am_J) (v7 := am_J) (h := h') (wr_id (z := 4) (by omega) (by omega)) k' (fun g => absurd (by omega) g)
      rw [if_pos (by omega)] at st
      exact ⟨h', st, md, ⟨(hh 0 (by omega) (by omega)).trans (by decide), (hh 1 (by omega) (by omega)).trans (by decide)⟩, (hh 2 (by omega) (by omega)).trans (by decide), (hh 3 (by omega) (by omega)).trans (by decide)⟩
  obtain ⟨h2, e2, m2, ls2⟩ := zero
  have q2 : MR h2 M A0 := MR_md m2 (by omega) (by omega) (by omega) (by omega) q1
  have m2' : Md (SMl M) h h2 := Md_tr m1' (Md_mono m2 fun c k q => Or.inr q)
  have n22 := p.2.2.2.2.2
  have eA0 : runA A0 [] = A0 := rfl
  have z0 : slS pd kd tl sl w 0 = ([], (808, 808)) := rfl
  rw [e2]
  have hsH : Hid (sl = 1 ∨ sl = 2) := hs
  clear hs
  refine lp (m := m_X12_slice) (pc := 26) (L := fun b (z : (Value × Value) × (Value × Value)) => [.ref M, .int (mI w), .ref W, .int (mI b), z.1.1, z.1.2, z.2.1, z.2.2]) (N := 4) (P := fun r => ∃ h', r = some (.inl (some (.ref (hnx h))), h') ∧ Fr (SMl M) 1 ((runA A0 (slS pd kd tl sl w 16).1).2.2.2 + 4) h h' ∧ hnx h' = hnx h + 1 ∧ sh h' (hnx h) = (1, 0) ∧ gn h' (hnx h) = (runA A0 (slS pd kd tl sl w 16).1).2.2.2 + 4 ∧ Dig (gZ h' (hnx h)) ((runA A0 (slS pd kd tl sl w 16).1).2.2.2 + 4) (runA A0 (slS pd kd tl sl w 16).1).2.1) (fun b z h' => 0 ≤ b ∧ Md (SMl M) h h' ∧ MR h' M (runA A0 (slS pd kd tl sl w (4 * b).toNat).1) ∧ LSt h' M (slS pd kd tl sl w (4 * b).toNat).2.1 (slS pd kd tl sl w (4 * b).toNat).2.2) ?_ ?_ 0 ((am_J, am_J), (am_J, am_J)) h2 (by omega) ⟨by omega, m2', by rw [show (4 * (0 : Int)).toNat = 0 by decide, z0, eA0]; exact q2, by rw [show (4 * (0 : Int)).toNat = 0 by decide, z0]; exact ls2⟩
  · intro b z h' hb4 ⟨b0, md, q, ls⟩
    obtain ⟨⟨z1, z2⟩, z3, z4⟩ := z
    simp only
    have p' := Pm_md md p
    have eX : (Int.tmod b 2) * 8 = b % 2 * 8 := by rw [tmd b0]
    have eY : (Int.tdiv b 2) * 8 = b / 2 * 8 := by rw [tdv b0]
    have geo : ∀ k, 0 ≤ k → k < 4 → cx (4 * b + k) = b % 2 * 8 + k % 2 * 4 ∧ cy (4 * b + k) = b / 2 * 8 + k / 2 * 4 := fun k k0 k1 => by unfold cx cy; omega
    have ers : wr (4 * (Int.tdiv (wr (b / 2 * 8)) 4) + Int.tdiv (wr (b % 2 * 8)) 4) = rs (4 * b) := by
      have g := geo 0 (by omega) (by omega)
      rw [Int.add_zero] at g
      rw [wr_id (z := b / 2 * 8) (by omega) (by omega), wr_id (z := b % 2 * 8) (by omega) (by omega), tdv (by omega), tdv (by omega)]
      unfold rs
      rw [g.1, g.2, wr_id (by omega) (by omega)]
      omega
    have rb := rs_b (4 * b)
    have its : gZ h' W (rs (4 * b)) = pd 0 (4 * b) := by rw [← p'.2.2.2.1]; rfl
    have bb := hb (4 * b) (by omega) (by omega)
    have st := b_X12_slice_26 (a0 := M) (a2 := W) (n_168 := 0) (n_a2 := 16) (x1 := w) (x3 := b) (v4 := z1) (v5 := z2) (v6 := z3) (v7 := z4) (h := h') ww (wr_id (by omega) (by omega)) q.1 (fun g => absurd g (by omega)) (fun g => absurd g (by omega)) p'.2.1.2.2.2.2 p'.2.1.2.2.2.1 (fun _ => by rw [eX, eY, ers]; omega)
    rw [eX, eY, ers, its, if_neg (by omega), p'.2.2.1.2.2, p'.2.2.1.2.1, pw1, tdv b0, wr_id (z := b / 2) (by omega) (by omega)] at st
    by_cases on : sl = 1 ∨ b / 2 = w
    · -- the block is in the slice
      have hwb : (if sl = 2 ∧ 2 ≤ b then (1 : Int) else 0) = w := (w2 b b0 hb4).mpr on
      have hs' : sl = 1 ∨ sl = 2 := hsH
      have f0 := pre_Ft8 (kd := kd) (tl := tl) (sl := sl) (w := w) hb (b := b) ⟨b0, hb4⟩
      have c0 : (pre pd kd tl sl w b 0) = (slS pd kd tl sl w (4 * b).toNat).1 ++ evE0 pd tl (4 * b) := by unfold pre; rw [if_pos (by decide), Int.add_zero]
      -- the mark
      have mark : ∃ h3, rn m_X12_slice 26 [.ref M, .int (mI w), .ref W, .int (mI b), z1, z2, z3, z4] [] h' = rn m_X12_slice 106 [.ref M, .int (mI w), .ref W, .int (mI b), .int (mI (b % 2 * 8)), .int (mI (b / 2 * 8)), .int (mI (pd 0 (4 * b))), z4] [] h3 ∧ Ms h' h3 M (runA A0 (slS pd kd tl sl w (4 * b).toNat).1) (evE0 pd tl (4 * b)) := by
        have f1 : Ft (runA A0 (slS pd kd tl sl w (4 * b).toNat).1) (slS pd kd tl sl w (4 * b).toNat).1.length 1 0 := Ft_mono (slS_Ft hb (by omega)) (by omega) (by omega)
        have key : ∀ r, r = (if ¬ tl % 2 = 1 then rn m_X12_slice 106 [.ref M, .int (mI w), .ref W, .int (mI b), .int (mI (b % 2 * 8)), .int (mI (b / 2 * 8)), .int (mI (pd 0 (4 * b))), z4] [] h' else cl m_X12_slice 106 [.ref M, .int (mI w), .ref W, .int (mI b), .int (mI (b % 2 * 8)), .int (mI (b / 2 * 8)), .int (mI (pd 0 (4 * b))), z4] [] (rn m_X12_says 0 [.ref M, .int (mI 0), .int (mI (bZ (¬ (¬ pd 0 (4 * b) = 4)))), am_J, am_J] [] h')) → ∃ h3, r = rn m_X12_slice 106 [.ref M, .int (mI w), .ref W, .int (mI b), .int (mI (b % 2 * 8)), .int (mI (b / 2 * 8)), .int (mI (pd 0 (4 * b))), z4] [] h3 ∧ Ms h' h3 M (runA A0 (slS pd kd tl sl w (4 * b).toNat).1) (evE0 pd tl (4 * b)) := by
          intro r er
          unfold evE0
          by_cases ct : tl % 2 = 1
          · rw [if_neg (fun g => g ct), bZ_congr (q := pd 0 (4 * b) = 4) (by omega)] at er
            rw [if_pos ⟨by omega, ct⟩]
            obtain ⟨h3, e3, r3⟩ := saysP (x1 := 0) (p := pd 0 (4 * b) = 4) (wr_id (by omega) (by omega)) q f1 (by omega)
            rw [e3, cl_n] at er
            exact ⟨h3, er, r3⟩
          · rw [if_pos ct] at er
            rw [if_neg (fun g => ct g.2)]
            exact ⟨h', er, Ms_nil q⟩
        by_cases c2 : sl = 2
        · rw [if_neg (fun g => g c2), if_pos (by omega)] at st
          exact key _ st
        · rw [if_pos c2] at st
          exact key _ st
      obtain ⟨h3, e3, r3⟩ := mark
      have md3 := Md_tr md (Ms_l r3).1
      have p3 := Pm_md md3 p
      have q3 : MR h3 M (runA A0 (pre pd kd tl sl w b 0)) := by
        rw [c0, runA_app]
        exact r3.2
      have ls3 := LSt_md r3.1 (SM_n (by omega)) ls
      have bb1 := bb.1
      have blk := fun (u : Int) (hu : 0 ≤ u ∧ u ≤ 4) (h3 : am_H) (kk : K10 h3 M) => b_X12_slice_109 (a0 := M) (a2 := W) (x1 := w) (x3 := b) (x4 := b % 2 * 8) (x5 := b / 2 * 8) (x6 := pd 0 (4 * b)) (h := h3) (wr_id (by omega) (by omega)) (wr_id (z := u) (by omega) (by omega)) kk
      by_cases c8 : pd 0 (4 * b) = 8
      · -- whole
        have b0' := blk 0 (by omega) h3 q3.1
        rw [show (if ¬ pd 0 (4 * b) = 8 then (4 : Int) else 1) = 1 by rw [if_neg (fun q => q c8)], if_neg (by omega), show Int.tmod (0 : Int) 2 * 4 = 0 by decide, show Int.tdiv (0 : Int) 2 * 4 = 0 by decide, Int.add_zero, Int.add_zero] at b0'
        have g := geo 0 (by omega) (by omega)
        rw [Int.add_zero, show (0 : Int) % 2 * 4 = 0 by decide, show (0 : Int) / 2 * 4 = 0 by decide, Int.add_zero, Int.add_zero] at g
        have sb := slS_b (kd := kd) (tl := tl) (sl := sl) (w := w) hb (4 * b).toNat (by omega)
        have sd : (side 8 * side 8).toNat = 4 := by decide
        obtain ⟨h4, e4, r4, ls4⟩ := sPart_ok (s := 4 * b) (Z := 8) q3 p3 ls3 (by omega) (Or.inr ⟨rfl, by omega⟩) (fun t t0 t1 => hb t (by omega) (by rw [sd] at t1; omega)) sb.1 sb.2.1 (by rw [sd]; exact f0)
        rw [sd] at r4
        rw [g.1, g.2] at e4
        rw [c8] at b0'
        rw [e4, cl_n, b_X12_slice_150] at b0'
        have b1' := blk (0 + 1) (by omega) h4 r4.2.1
        rw [show (if ¬ pd 0 (4 * b) = 8 then (4 : Int) else 1) = 1 by rw [if_neg (fun q => q c8)], if_pos (by omega), c8] at b1'
        rw [b_X12_slice_106, c8] at e3
        have fin := pre_8 (pd := pd) (kd := kd) (tl := tl) (sl := sl) (w := w) (b := b) ⟨b0, hb4⟩ hs' hwb (fun k k0 k1 => by rw [hbk _ (by omega) (by omega), show 4 * ((4 * b + k) / 4) = 4 * b by omega]; omega)
        refine ⟨((_, _), (_, _)), h4, e3.trans (b0'.trans b1'), by omega, Md_tr md3 r4.1, ?_, ?_⟩
        · rw [fin, runA_app]
          exact r4.2
        · rw [fin]
          exact ls4
      · -- split
        have c4 : pd 0 (4 * b) = 4 := by have := bb.1; omega
        have n4 : ∀ k, 0 ≤ k → k < 4 → pd 0 (4 * b + k) = 4 := fun k k0 k1 => by rw [hbk _ (by omega) (by omega), show 4 * ((4 * b + k) / 4) = 4 * b by omega]; exact c4
        rw [b_X12_slice_106] at e3
        have := lp (m := m_X12_slice) (pc := 109) (L := fun k (_ : Unit) => [.ref M, .int (mI w), .ref W, .int (mI b), .int (mI (b % 2 * 8)), .int (mI (b / 2 * 8)), .int (mI (pd 0 (4 * b))), .int (mI k)]) (N := 4) (P := fun r => ∃ (s' : (Value × Value) × (Value × Value)) (h'' : am_H), r = rn m_X12_slice 26 [.ref M, .int (mI w), .ref W, .int (mI (b + 1)), s'.1.1, s'.1.2, s'.2.1, s'.2.2] [] h'' ∧ 0 ≤ b + 1 ∧ Md (SMl M) h h'' ∧ MR h'' M (runA A0 (slS pd kd tl sl w (4 * (b + 1)).toNat).1) ∧ LSt h'' M (slS pd kd tl sl w (4 * (b + 1)).toNat).2.1 (slS pd kd tl sl w (4 * (b + 1)).toNat).2.2) (fun k _ h4 => 0 ≤ k ∧ Md (SMl M) h h4 ∧ MR h4 M (runA A0 (pre pd kd tl sl w b k)) ∧ LSt h4 M (slS pd kd tl sl w (4 * b + k).toNat).2.1 (slS pd kd tl sl w (4 * b + k).toNat).2.2) ?_ ?_ 0 () h3 (by omega) ⟨by omega, md3, q3, by rw [Int.add_zero]; exact ls3⟩
        · obtain ⟨s', h'', e4, r4⟩ := this
          exact ⟨s', h'', e3.trans e4, r4⟩
        · intro k _ h4 hk ⟨k0, md4, q4, ls4⟩
          have p4 := Pm_md md4 p
          have b0' := blk k (by omega) h4 q4.1
          rw [show (if ¬ pd 0 (4 * b) = 8 then (4 : Int) else 1) = 4 by rw [if_pos c8], if_neg (by omega), tmd k0, tdv k0] at b0'
          obtain ⟨g1, g2⟩ := geo k k0 hk
          have sb := slS_b (kd := kd) (tl := tl) (sl := sl) (w := w) hb (4 * b + k).toNat (by omega)
          have sd : (side 4 * side 4).toNat = 1 := by decide
          have fk := pre_Ft (kd := kd) (tl := tl) (sl := sl) (w := w) hb (b := b) (k := k) ⟨b0, hb4⟩ ⟨k0, hk⟩
          obtain ⟨h5, e5, r5, ls5⟩ := sPart_ok (s := 4 * b + k) (Z := 4) q4 p4 ls4 (by omega) (Or.inl rfl) (fun t t0 t1 => hb t (by omega) (by rw [sd] at t1; omega)) sb.1 sb.2.1 (by rw [sd]; exact Ft_mono fk (by omega) (by omega))
          rw [sd] at r5
          rw [g1, g2] at e5
          rw [c4] at b0'
          rw [e5, cl_n, b_X12_slice_150] at b0'
          obtain ⟨n1, n2⟩ := pre_4 (kd := kd) (tl := tl) ⟨b0, hb4⟩ ⟨k0, hk⟩ hs' hwb (n4 k k0 hk)
          refine ⟨(), h5, by rw [c4]; exact b0', by omega, Md_tr md4 r5.1, ?_, ?_⟩
          · rw [n1, runA_app]
            exact r5.2
          · rw [n2]
            exact ls5
        · intro _ h4 ⟨k0, md4, q4, ls4⟩
          have b1' := blk 4 (by omega) h4 q4.1
          rw [show (if ¬ pd 0 (4 * b) = 8 then (4 : Int) else 1) = 4 by rw [if_pos c8], if_pos (by omega)] at b1'
          have e44 : 4 * (b + 1) = 4 * b + 4 := by omega
          refine ⟨((_, _), (_, _)), h4, b1', by omega, md4, ?_, ?_⟩
          · rw [e44]
            unfold pre at q4
            rw [if_neg (by decide), List.append_nil] at q4
            exact q4
          · rw [e44]
            exact ls4
    · -- not in the slice
      have hwb : ¬ (if sl = 2 ∧ 2 ≤ b then (1 : Int) else 0) = w := fun g => on ((w2 b b0 hb4).mp g)
      have hs' : sl = 1 ∨ sl = 2 := hsH
      rw [if_neg (by omega), if_neg (by omega)] at st
      have sk := fun k (hk : 0 ≤ k ∧ k < 4) => (slo_blk (sl := sl) ⟨b0, hb4⟩ hk hs')
      have same : slS pd kd tl sl w (4 * (b + 1)).toNat = slS pd kd tl sl w (4 * b).toNat := by
        rw [show 4 * (b + 1) = 4 * b + 1 + 1 + 1 + 1 by omega, slS_succ (by omega), if_neg (by rw [show 4 * b + 1 + 1 + 1 = 4 * b + 3 by omega, sk 3 (by omega)]; exact hwb), slS_succ (by omega), if_neg (by rw [show 4 * b + 1 + 1 = 4 * b + 2 by omega, sk 2 (by omega)]; exact hwb), slS_succ (by omega), if_neg (by rw [sk 1 (by omega)]; exact hwb), slS_succ (by omega), if_neg (by have := sk 0 (by omega); rw [Int.add_zero] at this; rw [this]; exact hwb)]
      refine ⟨((_, _), (_, _)), h', st, by omega, md, ?_, ?_⟩
      · rw [same]; exact q
      · rw [same]; exact ls
  · intro z h' ⟨b0, md, q, ls⟩
    obtain ⟨⟨z1, z2⟩, z3, z4⟩ := z
    simp only
    have p' := Pm_md md p
    rw [show (4 * (4 : Int)).toNat = 16 by decide] at q
    obtain ⟨f1, f2, f3⟩ := Ft_len (slS_end (kd := kd) (tl := tl) (sl := sl) (w := w) hb)
    have el : fZ h' M 37 = (runA A0 (slS pd kd tl sl w 16).1).2.2.2 := q.2.2.2.1
    have dg : Dig (gZ h' (M + 18)) ((runA A0 (slS pd kd tl sl w 16).1).2.2.2 + 4) (runA A0 (slS pd kd tl sl w 16).1).2.1 := q.2.2.2.2
    have st := b_X12_slice_26 (a0 := M) (a2 := W) (n_168 := (runA A0 (slS pd kd tl sl w 16).1).2.2.2 + 4) (n_a2 := 16) (x1 := w) (x3 := 4) (v4 := z1) (v5 := z2) (v6 := z3) (v7 := z4) (h := h') ww (wr_id (by omega) (by omega)) q.1 (fun _ => by rw [el, wr_id (by omega) (by omega)]; omega) (fun _ => by omega) p'.2.1.2.2.2.2 p'.2.1.2.2.2.1 (fun g => absurd (by omega) g)
    rw [if_pos (by omega)] at st
    have nx := md_nx md
    obtain ⟨h2, e2, fr, nx2, s2, g2, d2⟩ := sTake_ok (v1 := .int (mI w)) (v2 := .ref W) (v3 := .int (mI 4)) (v4 := z1) (v5 := z2) (v6 := z3) (v7 := z4) q.1 (by omega) (by rw [nx]; omega) dg
    rw [nx] at e2 nx2 s2 g2 d2 st
    exact ⟨h2, st.trans e2, Fr_mono (Fr_tr (U := SMl M) (md_fr md) fr (fun _ _ _ q => q) (fun _ _ _ q => q.elim)) (fun _ _ _ q => q) (by omega) (by omega), nx2, s2, g2, d2⟩
