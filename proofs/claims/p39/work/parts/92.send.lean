/-! ===== sending: the class ===== -/
theorem clnv_congr {kd lost a b a' b' : Int} (h1 : kd ≠ 105 → a = a') (h2 : kd = 98 → b = b') : clnv kd lost a b = clnv kd lost a' b' := by
  unfold clnv
  by_cases k1 : kd = 105
  · by_cases k2 : kd = 98
    · omega
    · simp only [k1, true_or, true_and, show ¬ ((105 : Int) = 98) by decide, not_false_eq_true]
  · rw [← h1 k1]
    by_cases k2 : kd = 98
    · rw [← h2 k2]
    · simp only [k2, not_false_eq_true, true_or]
theorem pdW_agr {pd pd' : Nat → Int → Int} {p : Int → Int} {kd q s : Int} (ag : agr 16 pd pd' p p) (hs : 0 ≤ s ∧ s < 16) (w : pdW pd kd q s) : pdW pd' kd q s := by
  obtain ⟨⟨a0, a1, a2, a3⟩, a4⟩ := ag s hs.1 hs.2
  obtain ⟨⟨b0, b1, b2, b3⟩, -⟩ := ag (4 * (s / 4)) (by omega) (by omega)
  unfold pdW at *
  rw [← a0, ← a1, ← a2, ← a3, ← b0, ← b1, ← b2, ← b3]
  obtain ⟨w1, w2, w3, w4, w5, w6, w7⟩ := w
  exact ⟨w1, w2, w3, w4, w5, w6, fun k k0 k1 => by rw [← (a4 k k0 k1).1]; exact w7 k k0 k1⟩
theorem agr_pq {i : Int} {pd pd' : Nat → Int → Int} {p q : Int → Int} (h : agr i pd pd' p p) : agr i pd pd' q q := fun t t0 t1 => ⟨(h t t0 t1).1, fun k k0 k1 => ⟨((h t t0 t1).2 k k0 k1).1, rfl⟩⟩
theorem PC_agr {h : am_H} {D P : Nat} {z : Nat → Int} {d : Nat → Int → Int} {p : Int → Int} (pc : PC h D P z d) : agr 16 (pdh h P) d p p := fun t t0 t1 => by
  obtain ⟨-, -, -, -, -, g1, g2⟩ := pc
  obtain ⟨q0, q1, q2, q3⟩ := g1 t t0 t1
  exact ⟨⟨q0, q1, q2, q3⟩, fun k k0 k1 => ⟨(g2 _ (pl_b t k).1 (pl_b t k).2).1, rfl⟩⟩
/-- what a sent picture leans on -/
def F1 (σ : St) (n : Int) : Int → Int := if tpz σ n 0 = 105 then (fun _ => 128) else tkp σ (tpz σ n 1)
def F2 (σ : St) (n : Int) : Int → Int := if tpz σ n 0 = 98 then tkp σ (tpz σ n 2) else (fun _ => 128)
def cvS (σ : St) (lost : Int) : Int := clnv (tpz σ (tz σ 9) 0) lost (tkc σ (tpz σ (tz σ 9) 1)) (tkc σ (tpz σ (tz σ 9) 2))
def stS (σ : St) (cv : Int) (P : Int → Int) : St := (fun j => if j = 9 then tz σ 9 + 1 else if j = 10 then tz σ 9 else if j = 11 then cv else if j = 12 then (if tpz σ (tz σ 9) 6 = 0 then tz σ 12 else min (tz σ 12 + 1) 3) else if j = 13 then tz σ 13 + 1 else if j = 14 then tz σ 14 + cv else tz σ j, (σ.2.1, (σ.2.2.1, (σ.2.2.2.1, (σ.2.2.2.2.1, (P, (fun j => if tpz σ (tz σ 9) 6 = 0 then tkp σ j else if j = 0 then P else tkp σ (j - 1), fun j => if tpz σ (tz σ 9) 6 = 0 then tkc σ j else if j = 0 then cv else tkc σ (j - 1))))))))
theorem F_pix {σ : St} {c n : Int} (wf : WfS σ c) (hn : 0 ≤ n ∧ n < tz σ 7) : pixels (F1 σ n) ∧ pixels (F2 σ n) := by
  obtain ⟨-, p1, p2, -⟩ := wf.2.2.2.1 n hn.1 hn.2
  have kp := wf.2.2.2.2.2.2.1
  have g : pixels (fun _ => 128) := fun i _ _ => by simp only; omega
  unfold F1 F2
  constructor
  · split
    · exact g
    · rename_i q; exact (kp _ (p1 q).1 (p1 q).2).1
  · split
    · rename_i q; exact (kp _ (p2 q).1 (p2 q).2).1
    · exact g
section SD
variable {σ : St} {h : am_H} {D : Nat} {c : Int}
theorem i_X11_send_0 : am_i m_X11_send 0 = some (0, .aload_n 0, 1, [], 0) := rfl
theorem i_X11_send_1 : am_i m_X11_send 1 = some (1, .getfield 74, 3, [9, 14, 0], 0) := rfl
theorem i_X11_send_4 : am_i m_X11_send 4 = some (4, .getfield 277, 3, [3, 3, 1], 0) := rfl
theorem i_X11_send_7 : am_i m_X11_send 7 = some (7, .aload_n 0, 1, [], 0) := rfl
theorem i_X11_send_8 : am_i m_X11_send 8 = some (8, .getfield 43, 3, [9, 8, 0], 0) := rfl
theorem i_X11_send_11 : am_i m_X11_send 11 = some (11, .if_icmp .lt 14, 3, [], 0) := rfl
theorem i_X11_send_14 : am_i m_X11_send 14 = some (14, .new 218, 3, [4, 0], 0) := rfl
theorem i_X11_send_25 : am_i m_X11_send 25 = some (25, .aload_n 0, 1, [], 0) := rfl
theorem i_X11_send_26 : am_i m_X11_send 26 = some (26, .aload_n 0, 1, [], 0) := rfl
theorem i_X11_send_27 : am_i m_X11_send 27 = some (27, .getfield 74, 3, [9, 14, 0], 0) := rfl
theorem i_X11_send_30 : am_i m_X11_send 30 = some (30, .getfield 277, 3, [3, 3, 1], 0) := rfl
theorem i_X11_send_33 : am_i m_X11_send 33 = some (33, .invokevirtual 223, 3, [113, 9], 0) := rfl
theorem b_X11_send_0 {a0 : Nat} {x1 : Int} {h : am_H} (k1 : K9 h a0) : rn m_X11_send 0 [.ref a0, .int (mI x1), am_J] [] h = if (fZ h (a0 + 34) 3) < (fZ h a0 8) then cl m_X11_send 36 [.ref a0, .int (mI x1), am_J] [] (rn m_X11_pictureAt 0 [.ref a0, .int (mI (fZ h (a0 + 34) 3)), am_J] [] h) else some (.inr 4, hexc h) := by
  refine (tq_aload_n i_X11_send_0 rfl (isA_ref _) rfl).trans ?_
  refine (tq_getfield i_X11_send_1 (K9_s k1) (gR (g_9_14 (K9_s k1)) (K9_e14 k1)) (isV_ref _) rfl).trans ?_
  refine (tq_getfield i_X11_send_4 (K3_s (K9_k14 k1)) (g_3_3 (K3_s (K9_k14 k1))) (isV_I _) rfl).trans ?_
  refine (tq_aload_n i_X11_send_7 rfl (isA_ref _) rfl).trans ?_
  refine (tq_getfield i_X11_send_8 (K9_s k1) (g_9_8 (K9_s k1)) (isV_I _) rfl).trans ?_
  refine (tq_icmp_lt (pt := 25) i_X11_send_11 (wr_fZ _ _ _) (wr_fZ _ _ _) (by decide) rfl).trans ?_
  refine ite_congr rfl (fun c1 => ?_) (fun c1 => ?_)
  · refine (tq_aload_n i_X11_send_25 rfl (isA_ref _) rfl).trans ?_
    refine (tq_aload_n i_X11_send_26 rfl (isA_ref _) rfl).trans ?_
    refine (tq_getfield i_X11_send_27 (K9_s k1) (gR (g_9_14 (K9_s k1)) (K9_e14 k1)) (isV_ref _) rfl).trans ?_
    refine (tq_getfield i_X11_send_30 (K3_s (K9_k14 k1)) (g_3_3 (K3_s (K9_k14 k1))) (isV_I _) rfl).trans ?_
    exact c_X11_pictureAt i_X11_send_33 (K9_s k1) (ltd d_X11_send (by decide)) stOk_0 rfl
  · exact tq_newx i_X11_send_14
theorem i_X11_send_36 : am_i m_X11_send 36 = some (36, .astore_n 2, 1, [], 0) := rfl
theorem i_X11_send_37 : am_i m_X11_send 37 = some (37, .iload_n 1, 1, [], 0) := rfl
theorem i_X11_send_38 : am_i m_X11_send 38 = some (38, .ifCond .lt 13, 3, [], 0) := rfl
theorem i_X11_send_41 : am_i m_X11_send 41 = some (41, .iload_n 1, 1, [], 0) := rfl
theorem i_X11_send_42 : am_i m_X11_send 42 = some (42, .iconst 1, 1, [], 1) := rfl
theorem i_X11_send_43 : am_i m_X11_send 43 = some (43, .aload_n 2, 1, [], 0) := rfl
theorem i_X11_send_44 : am_i m_X11_send 44 = some (44, .getfield 282, 3, [6, 5, 1], 0) := rfl
theorem i_X11_send_47 : am_i m_X11_send 47 = some (47, .ishl, 1, [], 0) := rfl
theorem i_X11_send_48 : am_i m_X11_send 48 = some (48, .if_icmp .lt 14, 3, [], 0) := rfl
theorem i_X11_send_51 : am_i m_X11_send 51 = some (51, .new 86, 3, [0, 0], 0) := rfl
theorem i_X11_send_62 : am_i m_X11_send 62 = some (62, .aload_n 0, 1, [], 0) := rfl
theorem i_X11_send_63 : am_i m_X11_send 63 = some (63, .getfield 74, 3, [9, 14, 0], 0) := rfl
theorem i_X11_send_66 : am_i m_X11_send 66 = some (66, .aload_n 2, 1, [], 0) := rfl
theorem i_X11_send_67 : am_i m_X11_send 67 = some (67, .iload_n 1, 1, [], 0) := rfl
theorem i_X11_send_68 : am_i m_X11_send 68 = some (68, .invokevirtual 287, 3, [104, 3], 0) := rfl
theorem b_X11_send_36 {a0 as0 k_47 : Nat} {x1 x1' : Int} {v2 : Value} {h : am_H} (w1 : wr x1 = x1') (k1 : K6 h as0) (g2 : (¬ (x1' < 0)) → (fZ h as0 5 = (k_47 : Int))) (g3 : (¬ (x1' < 0)) → (k_47 < 32)) (k4 : K9 h a0) : rn m_X11_send 36 [.ref a0, .int (mI x1), v2] [.ref as0] h = if x1' < 0 then some (.inr 0, hexc h) else if x1' < (wr (1 * 2 ^ k_47)) then cl m_X11_send 71 [.ref a0, .int (mI x1), .ref as0] [] (rn m_X3_receive 0 [.ref (a0 + 34), .ref as0, .int (mI x1)] [] h) else some (.inr 0, hexc h) := by
  refine (tq_astore_n (L' := [.ref a0, .int (mI x1), .ref as0]) i_X11_send_36 (isA_ref _) rfl rfl).trans ?_
  refine (tq_iload_n i_X11_send_37 rfl rfl).trans ?_
  refine (tq_if_lt (pt := 51) i_X11_send_38 w1 (by decide) rfl).trans ?_
  refine ite_congr rfl (fun c1 => ?_) (fun c1 => ?_)
  · exact tq_newx i_X11_send_51
  · refine (tq_iload_n i_X11_send_41 rfl rfl).trans ?_
    refine (tq_iconst i_X11_send_42 rfl).trans ?_
    refine (tq_aload_n i_X11_send_43 rfl (isA_ref _) rfl).trans ?_
    refine (tq_getfield i_X11_send_44 (K6_s k1) (g_6_5 (K6_s k1)) (isV_I _) rfl).trans ?_
    refine (tq_ishl i_X11_send_47 ((wr_fZ _ _ _).trans (g2 c1)) (g3 c1) rfl).trans ?_
    refine (tq_icmp_lt (pt := 62) i_X11_send_48 w1 rfl (by decide) rfl).trans ?_
    refine ite_congr rfl (fun c2 => ?_) (fun c2 => ?_)
    · refine (tq_aload_n i_X11_send_62 rfl (isA_ref _) rfl).trans ?_
      refine (tq_getfield i_X11_send_63 (K9_s k4) (gR (g_9_14 (K9_s k4)) (K9_e14 k4)) (isV_ref _) rfl).trans ?_
      refine (tq_aload_n i_X11_send_66 rfl (isA_ref _) rfl).trans ?_
      refine (tq_iload_n i_X11_send_67 rfl rfl).trans ?_
      exact c_X3_receive i_X11_send_68 (K3_s (K9_k14 k4)) (ltd d_X11_send (by decide)) (isA_ref _) stOk_0 rfl
    · exact tq_newx i_X11_send_51
theorem i_X11_send_71 : am_i m_X11_send 71 = some (71, .aload_n 0, 1, [], 0) := rfl
theorem i_X11_send_72 : am_i m_X11_send 72 = some (72, .getfield 74, 3, [9, 14, 0], 0) := rfl
theorem i_X11_send_75 : am_i m_X11_send 75 = some (75, .getfield 290, 3, [3, 5, 1], 0) := rfl
theorem i_X11_send_78 : am_i m_X11_send 78 = some (78, .ifCond .eq 8, 3, [], 0) := rfl
theorem i_X11_send_81 : am_i m_X11_send 81 = some (81, .bipush 99, 2, [], 99) := rfl
theorem i_X11_send_83 : am_i m_X11_send 83 = some (83, .goto 5, 3, [], 0) := rfl
theorem i_X11_send_86 : am_i m_X11_send 86 = some (86, .bipush 98, 2, [], 98) := rfl
theorem i_X11_send_88 : am_i m_X11_send 88 = some (88, .ireturn, 1, [], 0) := rfl
theorem b_X11_send_71 {a0 : Nat} {v1 v2 : Value} {h : am_H} (k1 : K9 h a0) (g2 : 0 ≤ (if (fZ h (a0 + 34) 5) = 0 then (98 : Int) else 99) ∧ (if (fZ h (a0 + 34) 5) = 0 then (98 : Int) else 99) ≤ 65535) : rn m_X11_send 71 [.ref a0, v1, v2] [] h = some (.inl (some (.int (mI (if (fZ h (a0 + 34) 5) = 0 then (98 : Int) else 99)))), h) := by
  refine (tq_aload_n i_X11_send_71 rfl (isA_ref _) rfl).trans ?_
  refine (tq_getfield i_X11_send_72 (K9_s k1) (gR (g_9_14 (K9_s k1)) (K9_e14 k1)) (isV_ref _) rfl).trans ?_
  refine (tq_getfield i_X11_send_75 (K3_s (K9_k14 k1)) (g_3_5 (K3_s (K9_k14 k1))) (isV_I _) rfl).trans ?_
  refine (tq_if_eq (pt := 86) i_X11_send_78 (wr_fZ _ _ _) (by decide) rfl).trans ?_
  refine Eq.trans (b := if (fZ h (a0 + 34) 5) = 0 then rn m_X11_send 88 [.ref a0, v1, v2] [.int (mI 98)] h else rn m_X11_send 88 [.ref a0, v1, v2] [.int (mI 99)] h) (ite_congr rfl (fun c1 => ?_) (fun c1 => ?_)) ?_
  · refine (tq_bipush i_X11_send_86 rfl).trans ?_
    rfl
  · refine (tq_bipush i_X11_send_81 rfl).trans ?_
    refine (tq_goto (pc' := 88) i_X11_send_83 (by decide)).trans ?_
    rfl
  refine Eq.trans ite_I ?_
  exact tq_ireturn i_X11_send_88 r_X11_send (okC (wr_ite w_98 w_99) g2)
theorem c_send (rc : RC σ h D) (wf : WfS σ c) (hc : c ≤ 1000) {lost : Int} (w : wr lost = lost) (hn : tz σ 9 < tz σ 7) (hl : 0 ≤ lost ∧ lost ≤ (if tpz σ (tz σ 9) 5 = 2 then 3 else 1)) : ∃ (h' : am_H) (p : Int → Int), rn m_X11_send 0 [.ref 2, .int (mI lost), am_J] [] h = some (.inl (some (.int (mI (if cvS σ lost = 0 then 98 else 99)))), h') ∧ pixels p ∧ (∀ s, 0 ≤ s → s < 16 → Dcd (tpd σ (tz σ 9)) (F1 σ (tz σ 9)) (F2 σ (tz σ 9)) (tsp σ) (tpz σ (tz σ 9) 5) (tpz σ (tz σ 9) 3) lost p s) ∧ RC (stS σ (cvS σ lost) (smo (tpz σ (tz σ 9) 3) (tpz σ (tz σ 9) 4) (tpz σ (tz σ 9) 5) p)) h' D ∧ Md SC0 h h' := by
  have n := WFn wf
  obtain ⟨⟨n9, n9'⟩, n10, n11, n12, n13, n14⟩ := wf.2.2.2.2.1
  have dd := rc.2.2.2.2.2.2.1
  obtain ⟨⟨d3, d4, d5, d7, d10, d11⟩, d48, d49, d50, d47⟩ := id dd
  have en : fZ h 2 8 = tz σ 7 := rc.2.2.2.1.2.2.1
  have wn : wr (tz σ 9) = tz σ 9 := wr_id (by omega) (by omega)
  obtain ⟨P, eP, pc⟩ := PA_good rc wf wn ⟨n9, hn⟩
  have pw := wf.2.2.2.1 (tz σ 9) n9 hn
  obtain ⟨pk, p1, p2, pq, ptl, psl, pkp, -, -, -, -, pW, -⟩ := id pw
  have fp := F_pix wf ⟨n9, hn⟩
  have st := b_X11_send_0 (a0 := 2) (x1 := lost) (h := h) rc.1
  simp only [Nat.reduceAdd] at st
  rw [d3, en, if_pos hn, eP, cl_v] at st
  obtain ⟨pc1, pc2, ⟨f0, f1, f2, f3, f4, f5, f6, f7⟩, pcr⟩ := id pc
  have l3 : lost ≤ 3 := by split at hl <;> omega
  have st2 := b_X11_send_36 (a0 := 2) (as0 := P) (k_47 := (tpz σ (tz σ 9) 5).toNat) (x1 := lost) (v2 := am_J) (h := h) w pc1 (fun _ => by rw [f5]; omega) (fun _ => by omega) rc.1
  have e2k : wr (1 * 2 ^ (tpz σ (tz σ 9) 5).toNat) = if tpz σ (tz σ 9) 5 = 2 then 4 else 2 := by
    rcases psl with e | e <;> rw [e]
    · rw [if_neg (by decide)]; exact wr_id (by decide) (by decide)
    · rw [if_pos rfl]; exact wr_id (by decide) (by decide)
  simp only [Nat.reduceAdd] at st2
  rw [e2k, if_neg (by omega), if_pos (by split at hl <;> (rename_i q; first | rw [if_pos q] | rw [if_neg q]) <;> omega)] at st2
  -- what is leant on
  have ag := fun p => PC_agr (p := p) pc
  obtain ⟨g1, hg1, hg1p, hg1v⟩ : ∃ g1 : Int → Int, (tpz σ (tz σ 9) 0 ≠ 105 → g1 = fun i => gZ h (36 + 13) (256 * fZ h P 1 + i)) ∧ pixels g1 ∧ hv g1 = hv (F1 σ (tz σ 9)) := by
    by_cases q : tpz σ (tz σ 9) 0 = 105
    · exact ⟨F1 σ (tz σ 9), fun g => absurd q g, fp.1, rfl⟩
    · have e : ∀ i, 0 ≤ i → i < 256 → (fun i => gZ h (36 + 13) (256 * fZ h P 1 + i)) i = F1 σ (tz σ 9) i := fun i i0 i1 => by
        show gZ h 49 (256 * fZ h P 1 + i) = _
        rw [f1, d49 _ _ (p1 q).1 (p1 q).2 i0 i1]
        unfold F1
        rw [if_neg q]
      exact ⟨_, fun _ => rfl, fun i i0 i1 => by rw [e i i0 i1]; exact fp.1 i i0 i1, hv_congr e⟩
  obtain ⟨g2, hg2, hg2p, hg2v⟩ : ∃ g2 : Int → Int, (tpz σ (tz σ 9) 0 = 98 → g2 = fun i => gZ h (36 + 13) (256 * fZ h P 2 + i)) ∧ pixels g2 ∧ hv g2 = hv (F2 σ (tz σ 9)) := by
    by_cases q : tpz σ (tz σ 9) 0 = 98
    · have e : ∀ i, 0 ≤ i → i < 256 → (fun i => gZ h (36 + 13) (256 * fZ h P 2 + i)) i = F2 σ (tz σ 9) i := fun i i0 i1 => by
        show gZ h 49 (256 * fZ h P 2 + i) = _
        rw [f2, d49 _ _ (p2 q).1 (p2 q).2 i0 i1]
        unfold F2
        rw [if_pos q]
      exact ⟨_, fun _ => rfl, fun i i0 i1 => by rw [e i i0 i1]; exact fp.2 i i0 i1, hv_congr e⟩
    · exact ⟨F2 σ (tz σ 9), fun g => absurd g q, fp.2, rfl⟩
  have cve : cvS σ lost = clnv (tpz σ (tz σ 9) 0) lost (gZ h (36 + 14) (fZ h P 1)) (gZ h (36 + 14) (fZ h P 2)) := by
    unfold cvS
    refine clnv_congr (fun q => ?_) fun q => ?_
    · rw [f1]; exact (d50 _ (p1 q).1 (p1 q).2).symm
    · rw [f2]; exact (d50 _ (p2 q).1 (p2 q).2).symm
  have e36 : fZ h 36 3 = tz σ 9 := d3
  obtain ⟨h3, p, e3, m3, pp, dc, s12, s11, ⟨t3, t4, t5, t10, t11⟩, kN, kY⟩ := receive_ok (A := 36) (P := P) (f1 := g1) (f2 := g2) (kd := tpz σ (tz σ 9) 0) (tl := tpz σ (tz σ 9) 4) (sl := tpz σ (tz σ 9) 5) (q := tpz σ (tz σ 9) 3) (lost := lost) (cv := cvS σ lost) (K9_k14 rc.1) pc1 (by omega) f0 f3 f4 f5 pk pq psl (fun s s0 s1 => pdW_agr (p := tsp σ) (agr_sy (agr_pq (ag (tsp σ)))) ⟨s0, s1⟩ (pW s s0 s1)) (fun q => ⟨by rw [f1]; exact p1 q, hg1p, hg1 q⟩) (fun q => ⟨by rw [f2]; exact p2 q, hg2p, hg2 q⟩) ⟨hl.1, l3⟩ d47 (fun i i0 i1 => by show 0 ≤ gZ h 48 i ∧ gZ h 48 i ≤ 255; rw [d48 i i0 i1]; exact wf.2.2.2.2.2.1 i i0 i1) (by rw [d3]; omega) (by rw [d7]; exact n12) (by rw [d10]; omega) (by rw [d11]; omega) cve
  rw [e3, cl_n] at st2
  have st4 := b_X11_send_71 (a0 := 2) (v1 := .int (mI lost)) (v2 := .ref P) (h := h3) (K9_sm m3.1 rc.1) (by split <;> omega)
  simp only [Nat.reduceAdd] at st4
  rw [t5] at st4
  have dc' : ∀ s, 0 ≤ s → s < 16 → Dcd (tpd σ (tz σ 9)) (F1 σ (tz σ 9)) (F2 σ (tz σ 9)) (tsp σ) (tpz σ (tz σ 9) 5) (tpz σ (tz σ 9) 3) lost p s := fun s s0 s1 => Dcd_hv hg1v hg2v (fun i i0 i1 => d48 i i0 i1) (Dcd_agr (i := 16) (ag p) ⟨s0, s1⟩ s1 (dc s s0 s1))
  refine ⟨h3, p, st.trans (st2.trans st4), pp, dc', ?_, Md_mono m3 fun a k q => by unfold SDR at q; unfold SC0; omega⟩
  refine RC_dec (σ := σ) (σ' := stS σ (cvS σ lost) (smo (tpz σ (tz σ 9) 3) (tpz σ (tz σ 9) 4) (tpz σ (tz σ 9) 5) p)) m3 (fun j hj => ?_) rfl rfl rfl rfl ⟨⟨?_, ?_, ?_, ?_, ?_, ?_⟩, fun i i0 i1 => s12 i i0 i1, fun j i j0 j1 i0 i1 => ?_, fun j j0 j1 => ?_, s11⟩ rc
  · show (if j = 9 then _ else if j = 10 then _ else if j = 11 then _ else if j = 12 then _ else if j = 13 then _ else if j = 14 then _ else tz σ j) = tz σ j
    rw [if_neg (by omega), if_neg (by omega), if_neg (by omega), if_neg (by omega), if_neg (by omega), if_neg (by omega)]
  · exact t3.trans (by rw [d3]; rfl)
  · exact t4.trans d3
  · exact t5
  · show fZ h3 36 7 = if tpz σ (tz σ 9) 6 = 0 then tz σ 12 else min (tz σ 12 + 1) 3
    by_cases q : tpz σ (tz σ 9) 6 = 0
    · rw [if_pos q, (kN (f6.trans q)).2.2, d7]
    · rw [if_neg q, (kY (fun g => q (f6.symm.trans g))).2.2.2.2, d7]
  · exact t10.trans (by rw [d10]; rfl)
  · exact t11.trans (by rw [d11]; rfl)
  · show gZ h3 49 (256 * j + i) = (if tpz σ (tz σ 9) 6 = 0 then tkp σ j else if j = 0 then _ else tkp σ (j - 1)) i
    by_cases q : tpz σ (tz σ 9) 6 = 0
    · rw [if_pos q, ← d49 j i j0 j1 i0 i1]
      exact congrFun (kN (f6.trans q)).1 _
    · rw [if_neg q]
      have kk := kY (fun g => q (f6.symm.trans g))
      by_cases j00 : j = 0
      · rw [if_pos j00, j00]
        have := kk.1 (256 * 0 + i) (by omega) (by omega)
        rw [show (256 * 0 + i : Int) = i by omega] at this ⊢
        exact this
      · rw [if_neg j00, ← d49 (j - 1) i (by omega) (by omega) i0 i1]
        have := kk.2.1 (256 * j + i) (by omega) (by omega)
        rw [show 256 * j + i - 256 = 256 * (j - 1) + i by omega] at this
        exact this
  · show gZ h3 50 j = if tpz σ (tz σ 9) 6 = 0 then tkc σ j else if j = 0 then cvS σ lost else tkc σ (j - 1)
    by_cases q : tpz σ (tz σ 9) 6 = 0
    · rw [if_pos q, ← d50 j j0 j1]
      exact congrFun (kN (f6.trans q)).2.1 _
    · rw [if_neg q]
      have kk := kY (fun g => q (f6.symm.trans g))
      by_cases j00 : j = 0
      · rw [if_pos j00, j00]
        exact kk.2.2.1
      · rw [if_neg j00, ← d50 (j - 1) (by omega) (by omega)]
        exact kk.2.2.2.1 j (by omega) (by omega)
theorem c_send_x (rc : RC σ h D) (wf : WfS σ c) {lost : Int} (w : wr lost = lost) : (¬ tz σ 9 < tz σ 7 → rn m_X11_send 0 [.ref 2, .int (mI lost), am_J] [] h = some (.inr 4, hexc h)) ∧ (tz σ 9 < tz σ 7 → ¬ (0 ≤ lost ∧ lost ≤ (if tpz σ (tz σ 9) 5 = 2 then 3 else 1)) → rn m_X11_send 0 [.ref 2, .int (mI lost), am_J] [] h = some (.inr 0, hexc h)) := by
  have n := WFn wf
  obtain ⟨⟨n9, n9'⟩, -⟩ := wf.2.2.2.2.1
  have d3 := rc.2.2.2.2.2.2.1.1.1
  have en : fZ h 2 8 = tz σ 7 := rc.2.2.2.1.2.2.1
  have st := b_X11_send_0 (a0 := 2) (x1 := lost) (h := h) rc.1
  simp only [Nat.reduceAdd] at st
  rw [d3, en] at st
  refine ⟨fun g => by rw [if_neg g] at st; exact st, fun hn hl => ?_⟩
  obtain ⟨P, eP, pc⟩ := PA_good rc wf (i := tz σ 9) (wr_id (by omega) (by omega)) ⟨n9, hn⟩
  obtain ⟨pk, p1, p2, pq, ptl, psl, -⟩ := wf.2.2.2.1 (tz σ 9) n9 hn
  have f5 := pc.2.2.1.2.2.2.2.2.1
  rw [if_pos hn, eP, cl_v] at st
  have st2 := b_X11_send_36 (a0 := 2) (as0 := P) (k_47 := (tpz σ (tz σ 9) 5).toNat) (x1 := lost) (v2 := am_J) (h := h) w pc.1 (fun _ => by rw [f5]; omega) (fun _ => by omega) rc.1
  have e2k : wr (1 * 2 ^ (tpz σ (tz σ 9) 5).toNat) = if tpz σ (tz σ 9) 5 = 2 then 4 else 2 := by
    rcases psl with e | e <;> rw [e]
    · rw [if_neg (by decide)]; exact wr_id (by decide) (by decide)
    · rw [if_pos rfl]; exact wr_id (by decide) (by decide)
  rw [e2k] at st2
  rw [st2] at st
  by_cases c0 : lost < 0
  · rw [if_pos c0] at st; exact st
  · rw [if_neg c0, if_neg] at st
    · exact st
    · by_cases q : tpz σ (tz σ 9) 5 = 2
      · rw [if_pos q] at hl ⊢; omega
      · rw [if_neg q] at hl ⊢; omega
end SD
