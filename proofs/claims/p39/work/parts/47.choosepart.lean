/-! ===== the choice of a part ===== -/
def nmo (kd : Int) : Nat := if kd = 98 then 7 else if kd = 105 then 4 else 5
def stp (tl : Int) : Int := if zand tl 4 = 0 then 2 else 1
def sns (tl : Int) : Int := if zand tl 4 = 0 then 9 else 17
theorem stp_ok (tl : Int) : isStep (stp tl) (sns tl) := by
  unfold isStep stp sns
  split
  · exact Or.inr ⟨rfl, rfl⟩
  · exact Or.inl ⟨rfl, rfl⟩
def cv1 (kd tl : Int) (c f : Int → Int) (X Y Z : Int) : Int := if kd = 105 then -1 else bestv c f X Y Z (stp tl) (sns tl)
def cv2 (kd tl : Int) (c f : Int → Int) (X Y Z : Int) : Int := if kd = 98 then bestv c f X Y Z (stp tl) (sns tl) else -1
def cmo (kd tl : Int) (c p f1 f2 : Int → Int) (X Y Z T : Int) : Int := bestm c p f1 f2 X Y Z T (cv1 kd tl c f1 X Y Z) (cv2 kd tl c f2 X Y Z) (nmo kd)
theorem mnv_2 {C V : Int → Int} {d : Int} {Q : Int → Prop} (hd : Q d) : ∀ n : Nat, (∀ k : Int, 0 ≤ k → k < n → Q (V k)) → Q (mnv C V d n).2
  | 0, _ => hd
  | n + 1, h => by
    have ih := mnv_2 (C := C) (V := V) hd n fun k k0 k1 => h k k0 (by omega)
    simp only [mnv]
    split
    · exact h n (by omega) (by omega)
    · exact ih
theorem bestv_okv {c f : Int → Int} {X Y Z st n : Int} (hs : isStep st n) : okv (bestv c f X Y Z st n) := by
  unfold bestv
  refine mnv_2 (Q := okv) ⟨by decide, by decide, by decide⟩ _ fun k k0 k1 => ?_
  have nn : (((n * n).toNat : Nat) : Int) = n * n := by rcases hs with ⟨rfl, rfl⟩ | ⟨rfl, rfl⟩ <;> decide
  exact cand_b hs k0 (by omega)
theorem bestm_b {c p f1 f2 : Int → Int} {X Y Z T v1 v2 : Int} {n : Nat} (hn : 1 ≤ n) : 0 ≤ bestm c p f1 f2 X Y Z T v1 v2 n ∧ bestm c p f1 f2 X Y Z T v1 v2 n < n := by
  unfold bestm
  exact mnv_2 (Q := fun m => 0 ≤ m ∧ m < n) ⟨by omega, by omega⟩ _ fun k k0 k1 => ⟨k0, k1⟩
def isKind (kd : Int) : Prop := kd = 105 ∨ kd = 112 ∨ kd = 98
theorem nmo_b {kd : Int} (hk : isKind kd) : (4 ≤ nmo kd ∧ nmo kd ≤ 7) ∧ (5 ≤ nmo kd → kd ≠ 105) ∧ (6 ≤ nmo kd → kd = 98) := by
  unfold nmo
  rcases hk with rfl | rfl | rfl <;> decide
theorem cmo_b {kd tl : Int} {c p f1 f2 : Int → Int} {X Y Z T : Int} (hk : isKind kd) : 0 ≤ cmo kd tl c p f1 f2 X Y Z T ∧ cmo kd tl c p f1 f2 X Y Z T < nmo kd := bestm_b (by have := nmo_b hk; omega)
/-- the pictures that are leant on stand in the builder -/
def refOk (h : am_H) (B : Nat) (kd : Int) (f1 f2 : Int → Int) : Prop := (kd ≠ 105 → isH h (B + 1) f1 ∧ pixels f1) ∧ (kd = 98 → isH h (B + 3) f2 ∧ pixels f2)
theorem refOk_md {S : Nat → Nat → Prop} {h h' : am_H} {B : Nat} {kd : Int} {f1 f2 : Int → Int} (md : Md S h h') (n2 : ¬ S (B + 2) 0) (n4 : ¬ S (B + 4) 0) (q : refOk h B kd f1 f2) : refOk h' B kd f1 f2 := ⟨fun e => ⟨isH_md md n2 (q.1 e).1, (q.1 e).2⟩, fun e => ⟨isH_md md n4 (q.2 e).1, (q.2 e).2⟩⟩
theorem modeOk_of {h : am_H} {B : Nat} {kd : Int} {p f1 f2 : Int → Int} {X Y Z T m v1 v2 : Int} (hk : isKind kd) (hm : 0 ≤ m ∧ m < nmo kd) (hp : pixels p) (bo : isBo h B p X Y Z T) (ro : refOk h B kd f1 f2) (o1 : kd ≠ 105 → okv v1) (o2 : kd = 98 → okv v2) : modeOk h B p f1 f2 X Y Z T m v1 v2 := by
  have nb := nmo_b hk
  by_cases c : m < 4
  · exact Or.inl ⟨hm.1, c, hp, bo⟩
  · refine Or.inr ⟨by omega, by omega, fun e => ?_, fun e => ?_⟩
    · have k1 := nb.2.1 (by omega)
      exact ⟨(ro.1 k1).1, (ro.1 k1).2, o1 k1⟩
    · have k1 := nb.2.2 (by omega)
      exact ⟨(ro.2 k1).1, (ro.2 k1).2, o2 k1⟩
theorem extra_ok {m v1 v2 : Int} (hm : 0 ≤ m ∧ m ≤ 6) (o1 : 4 ≤ m → m ≠ 5 → okv v1) (o2 : 4 ≤ m → m ≠ 4 → okv v2) : (((if (¬ (4 ≤ m)) then 2 * m else 0) + (if ((m = 4) ∨ (¬ (¬ m = 6))) then (max (wr ((Int.tdiv v1 100) - 8)) (-(wr ((Int.tdiv v1 100) - 8)))) + (max (wr ((Int.tmod v1 100) - 8)) (-(wr ((Int.tmod v1 100) - 8)))) else 0)) + (if ((m = 5) ∨ (¬ (¬ m = 6))) then (max (wr ((Int.tdiv v2 100) - 8)) (-(wr ((Int.tdiv v2 100) - 8)))) + (max (wr ((Int.tmod v2 100) - 8)) (-(wr ((Int.tmod v2 100) - 8)))) else 0)) = extc m v1 v2 := by
  unfold extc
  by_cases c : m < 4
  · rw [if_pos (by omega), if_neg (by omega), if_neg (by omega), if_pos c]
    omega
  · rw [if_neg (by omega), if_neg c]
    have : m = 4 ∨ m = 5 ∨ m = 6 := by omega
    rcases this with rfl | rfl | rfl
    · obtain ⟨a1, a2, a3⟩ := o1 (by decide) (by decide)
      rw [if_pos (Or.inl rfl), if_neg (by decide), if_pos rfl, length_ok (h := (0, 0, 0, fun _ => none)) a1 a2 a3]
      omega
    · obtain ⟨a1, a2, a3⟩ := o2 (by decide) (by decide)
      rw [if_neg (by decide), if_pos (Or.inl rfl), if_neg (by decide), if_pos rfl, length_ok (h := (0, 0, 0, fun _ => none)) a1 a2 a3]
      omega
    · obtain ⟨a1, a2, a3⟩ := o1 (by decide) (by decide)
      obtain ⟨b1, b2, b3⟩ := o2 (by decide) (by decide)
      rw [if_pos (by decide), if_pos (by decide), if_neg (by decide), if_neg (by decide), length_ok (h := (0, 0, 0, fun _ => none)) a1 a2 a3, length_ok (h := (0, 0, 0, fun _ => none)) b1 b2 b3]
      omega
theorem extc_b {m v1 v2 : Int} (hm : 0 ≤ m ∧ m ≤ 6) (o1 : 4 ≤ m → m ≠ 5 → okv v1) (o2 : 4 ≤ m → m ≠ 4 → okv v2) : 0 ≤ extc m v1 v2 ∧ extc m v1 v2 ≤ 32 := by
  unfold extc
  by_cases c : m < 4
  · rw [if_pos c]
    omega
  · rw [if_neg c]
    have : m = 4 ∨ m = 5 ∨ m = 6 := by omega
    rcases this with rfl | rfl | rfl
    · obtain ⟨a1, a2, a3⟩ := o1 (by decide) (by decide)
      have := vlen_b a1 a2 a3
      rw [if_pos rfl]
      omega
    · obtain ⟨a1, a2, a3⟩ := o2 (by decide) (by decide)
      have := vlen_b a1 a2 a3
      rw [if_neg (by decide), if_pos rfl]
      omega
    · obtain ⟨a1, a2, a3⟩ := o1 (by decide) (by decide)
      obtain ⟨b1, b2, b3⟩ := o2 (by decide) (by decide)
      have := vlen_b a1 a2 a3
      have := vlen_b b1 b2 b3
      rw [if_neg (by decide), if_neg (by decide)]
      omega
theorem i_X2_choosePart_0 : am_i m_X2_choosePart 0 = some (0, .aload_n 1, 1, [], 0) := rfl
theorem i_X2_choosePart_1 : am_i m_X2_choosePart 1 = some (1, .iconst 4, 1, [], 4) := rfl
theorem i_X2_choosePart_2 : am_i m_X2_choosePart 2 = some (2, .invokevirtual 105, 3, [26, 6], 0) := rfl
theorem i_X2_choosePart_5 : am_i m_X2_choosePart 5 = some (5, .ifCond .eq 7, 3, [], 0) := rfl
theorem i_X2_choosePart_8 : am_i m_X2_choosePart 8 = some (8, .iconst 1, 1, [], 1) := rfl
theorem i_X2_choosePart_9 : am_i m_X2_choosePart 9 = some (9, .goto 4, 3, [], 0) := rfl
theorem i_X2_choosePart_12 : am_i m_X2_choosePart 12 = some (12, .iconst 2, 1, [], 2) := rfl
theorem i_X2_choosePart_13 : am_i m_X2_choosePart 13 = some (13, .istore_n 3, 1, [], 0) := rfl
theorem i_X2_choosePart_14 : am_i m_X2_choosePart 14 = some (14, .aload_n 0, 1, [], 0) := rfl
theorem i_X2_choosePart_15 : am_i m_X2_choosePart 15 = some (15, .getfield 21, 3, [2, 1, 0], 0) := rfl
theorem i_X2_choosePart_18 : am_i m_X2_choosePart 18 = some (18, .aload_n 1, 1, [], 0) := rfl
theorem i_X2_choosePart_19 : am_i m_X2_choosePart 19 = some (19, .invokevirtual 25, 3, [27, 6], 0) := rfl
theorem i_X2_choosePart_22 : am_i m_X2_choosePart 22 = some (22, .ifCond .eq 19, 3, [], 0) := rfl
theorem i_X2_choosePart_25 : am_i m_X2_choosePart 25 = some (25, .aload_n 0, 1, [], 0) := rfl
theorem i_X2_choosePart_26 : am_i m_X2_choosePart 26 = some (26, .aload_n 0, 1, [], 0) := rfl
theorem i_X2_choosePart_27 : am_i m_X2_choosePart 27 = some (27, .getfield 12, 3, [2, 0, 0], 0) := rfl
theorem i_X2_choosePart_30 : am_i m_X2_choosePart 30 = some (30, .getfield 31, 3, [1, 0, 1], 0) := rfl
theorem i_X2_choosePart_33 : am_i m_X2_choosePart 33 = some (33, .aload_n 2, 1, [], 0) := rfl
theorem i_X2_choosePart_34 : am_i m_X2_choosePart 34 = some (34, .iload_n 3, 1, [], 0) := rfl
theorem i_X2_choosePart_35 : am_i m_X2_choosePart 35 = some (35, .invokevirtual 112, 3, [93, 2], 0) := rfl
theorem i_X2_choosePart_41 : am_i m_X2_choosePart 41 = some (41, .iconst (-1), 1, [], -1) := rfl
theorem i_X2_choosePart_42 : am_i m_X2_choosePart 42 = some (42, .putfield 116, 3, [5, 5, 1], 0) := rfl
theorem i_X2_choosePart_45 : am_i m_X2_choosePart 45 = some (45, .aload_n 0, 1, [], 0) := rfl
theorem i_X2_choosePart_46 : am_i m_X2_choosePart 46 = some (46, .getfield 21, 3, [2, 1, 0], 0) := rfl
theorem i_X2_choosePart_49 : am_i m_X2_choosePart 49 = some (49, .aload_n 1, 1, [], 0) := rfl
theorem i_X2_choosePart_50 : am_i m_X2_choosePart 50 = some (50, .invokevirtual 41, 3, [28, 6], 0) := rfl
theorem i_X2_choosePart_53 : am_i m_X2_choosePart 53 = some (53, .ifCond .eq 19, 3, [], 0) := rfl
theorem i_X2_choosePart_56 : am_i m_X2_choosePart 56 = some (56, .aload_n 0, 1, [], 0) := rfl
theorem i_X2_choosePart_57 : am_i m_X2_choosePart 57 = some (57, .aload_n 0, 1, [], 0) := rfl
theorem i_X2_choosePart_58 : am_i m_X2_choosePart 58 = some (58, .getfield 12, 3, [2, 0, 0], 0) := rfl
theorem i_X2_choosePart_61 : am_i m_X2_choosePart 61 = some (61, .getfield 44, 3, [1, 1, 1], 0) := rfl
theorem i_X2_choosePart_64 : am_i m_X2_choosePart 64 = some (64, .aload_n 2, 1, [], 0) := rfl
theorem i_X2_choosePart_65 : am_i m_X2_choosePart 65 = some (65, .iload_n 3, 1, [], 0) := rfl
theorem i_X2_choosePart_66 : am_i m_X2_choosePart 66 = some (66, .invokevirtual 112, 3, [93, 2], 0) := rfl
theorem i_X2_choosePart_72 : am_i m_X2_choosePart 72 = some (72, .iconst (-1), 1, [], -1) := rfl
theorem i_X2_choosePart_73 : am_i m_X2_choosePart 73 = some (73, .putfield 119, 3, [5, 6, 1], 0) := rfl
theorem i_X2_choosePart_76 : am_i m_X2_choosePart 76 = some (76, .aload_n 0, 1, [], 0) := rfl
theorem i_X2_choosePart_77 : am_i m_X2_choosePart 77 = some (77, .getfield 12, 3, [2, 0, 0], 0) := rfl
theorem i_X2_choosePart_80 : am_i m_X2_choosePart 80 = some (80, .aload_n 1, 1, [], 0) := rfl
theorem i_X2_choosePart_81 : am_i m_X2_choosePart 81 = some (81, .getfield 81, 3, [6, 15, 1], 0) := rfl
theorem i_X2_choosePart_84 : am_i m_X2_choosePart 84 = some (84, .aload_n 0, 1, [], 0) := rfl
theorem i_X2_choosePart_85 : am_i m_X2_choosePart 85 = some (85, .getfield 21, 3, [2, 1, 0], 0) := rfl
theorem i_X2_choosePart_88 : am_i m_X2_choosePart 88 = some (88, .invokevirtual 122, 3, [78, 1], 0) := rfl
theorem b_X2_choosePart_0 {a0 a1 a2 : Nat} {h : am_H} (k1 : K6 h a1) (k2 : K2 h a0) : rn m_X2_choosePart 0 [.ref a0, .ref a1, .ref a2, am_J, am_J, am_J, am_J, am_J] [] h = if (¬ ((fZ h a1 0) = 105)) then cl m_X2_choosePart 38 [.ref a0, .ref a1, .ref a2, .int (mI (if (¬ ((zand (fZ h a1 4) 4) = 0)) then 1 else 2)), am_J, am_J, am_J, am_J] [.ref (a0 + 10)] (rn m_X2_search 0 [.ref a0, .ref (a0 + 2), .ref a2, .int (mI (if (¬ ((zand (fZ h a1 4) 4) = 0)) then 1 else 2)), am_J, am_J, am_J, am_J, am_J, am_J, am_J] [] h) else if (¬ (¬ (fZ (uF 5 h (a0 + 10) 5 (.int (mI (-1)))) a1 0) = 98)) then cl m_X2_choosePart 69 [.ref a0, .ref a1, .ref a2, .int (mI (if (¬ ((zand (fZ h a1 4) 4) = 0)) then 1 else 2)), am_J, am_J, am_J, am_J] [.ref (a0 + 10)] (rn m_X2_search 0 [.ref a0, .ref (a0 + 4), .ref a2, .int (mI (if (¬ ((zand (fZ h a1 4) 4) = 0)) then 1 else 2)), am_J, am_J, am_J, am_J, am_J, am_J, am_J] [] (uF 5 h (a0 + 10) 5 (.int (mI (-1))))) else cl m_X2_choosePart 91 [.ref a0, .ref a1, .ref a2, .int (mI (if (¬ ((zand (fZ h a1 4) 4) = 0)) then 1 else 2)), am_J, am_J, am_J, am_J] [] (rn m_X1_takeBorder 0 [.ref (a0 + 1), .ref (a1 + 8), .ref (a0 + 10), am_J, am_J, am_J, am_J] [] (uF 5 (uF 5 h (a0 + 10) 5 (.int (mI (-1)))) (a0 + 10) 6 (.int (mI (-1))))) := by
  refine (tq_aload_n i_X2_choosePart_0 rfl (isA_ref _) rfl).trans ?_
  refine (tq_iconst i_X2_choosePart_1 rfl).trans ?_
  refine (c_X6_has i_X2_choosePart_2 (K6_s k1) (ltd d_X2_choosePart (by decide)) stOk_0 rfl).trans ?_
  refine (congrArg (cl _ _ _ _) (b_X6_has_0 k1)).trans ?_
  refine (cl_v _ _ _ _ _ _).trans ?_
  refine (tq_ifb_eq (pt := 12) i_X2_choosePart_5 (by decide) rfl).trans ?_
  refine Eq.trans (b := if (¬ ((zand (fZ h a1 4) 4) = 0)) then rn m_X2_choosePart 13 [.ref a0, .ref a1, .ref a2, am_J, am_J, am_J, am_J, am_J] [.int (mI 1)] h else rn m_X2_choosePart 13 [.ref a0, .ref a1, .ref a2, am_J, am_J, am_J, am_J, am_J] [.int (mI 2)] h) (ite_congr rfl (fun c1 => ?_) (fun c1 => ?_)) ?_
  · refine (tq_iconst i_X2_choosePart_8 rfl).trans ?_
    refine (tq_goto (pc' := 13) i_X2_choosePart_9 (by decide)).trans ?_
    rfl
  · refine (tq_iconst i_X2_choosePart_12 rfl).trans ?_
    rfl
  refine Eq.trans ite_I ?_
  refine (tq_istore_n (L' := [.ref a0, .ref a1, .ref a2, .int (mI (if (¬ ((zand (fZ h a1 4) 4) = 0)) then 1 else 2)), am_J, am_J, am_J, am_J]) i_X2_choosePart_13 rfl rfl).trans ?_
  refine (tq_aload_n i_X2_choosePart_14 rfl (isA_ref _) rfl).trans ?_
  refine (tq_getfield i_X2_choosePart_15 (K2_s k2) (gR (g_2_1 (K2_s k2)) (K2_e1 k2)) (isV_ref _) rfl).trans ?_
  refine (tq_aload_n i_X2_choosePart_18 rfl (isA_ref _) rfl).trans ?_
  refine (c_X6_leansOnFirst i_X2_choosePart_19 (K6_s k1) (ltd d_X2_choosePart (by decide)) (stOk_1 _) rfl).trans ?_
  refine (congrArg (cl _ _ _ _) (b_X6_leansOnFirst_0 k1)).trans ?_
  refine (cl_v _ _ _ _ _ _).trans ?_
  refine (tq_ifb_eq (pt := 41) i_X2_choosePart_22 (by decide) rfl).trans ?_
  refine ite_congr rfl (fun c2 => ?_) (fun c2 => ?_)
  · refine (tq_aload_n i_X2_choosePart_25 rfl (isA_ref _) rfl).trans ?_
    refine (tq_aload_n i_X2_choosePart_26 rfl (isA_ref _) rfl).trans ?_
    refine (tq_getfield i_X2_choosePart_27 (K2_s k2) (gR (g_2_0 (K2_s k2)) (K2_e0 k2)) (isV_ref _) rfl).trans ?_
    refine (tq_getfield i_X2_choosePart_30 (K1_s (K2_k0 k2)) (gR (g_1_0 (K1_s (K2_k0 k2))) (K1_e0 (K2_k0 k2))) (isV_ref _) rfl).trans ?_
    refine (tq_aload_n i_X2_choosePart_33 rfl (isA_ref _) rfl).trans ?_
    refine (tq_iload_n i_X2_choosePart_34 rfl rfl).trans ?_
    exact c_X2_search i_X2_choosePart_35 (K2_s k2) (ltd d_X2_choosePart (by decide)) (isA_ref _) (isA_ref _) (stOk_1 _) rfl
  · refine (tq_iconst i_X2_choosePart_41 rfl).trans ?_
    refine (tq_putfield i_X2_choosePart_42 (K5_s (K2_k1 k2)) (okf_5_5 _) rfl).trans ?_
    refine (tq_aload_n i_X2_choosePart_45 rfl (isA_ref _) rfl).trans ?_
    refine (tq_getfield i_X2_choosePart_46 ((sh_uF _ _ _ _ _ _).trans (K2_s k2)) (gR ((g_2_1 ((sh_uF _ _ _ _ _ _).trans (K2_s k2))).trans (congrArg am_rv (fA_uF_nk (K5_s (K2_k1 k2)) (okf_5_5 _) (by decide)))) (K2_e1 k2)) (isV_ref _) rfl).trans ?_
    refine (tq_aload_n i_X2_choosePart_49 rfl (isA_ref _) rfl).trans ?_
    refine (c_X6_leansOnSecond i_X2_choosePart_50 ((sh_uF _ _ _ _ _ _).trans (K6_s k1)) (ltd d_X2_choosePart (by decide)) (stOk_1 _) rfl).trans ?_
    refine (congrArg (cl _ _ _ _) (b_X6_leansOnSecond_0 (K6_sm (Sm_uF_5_5 _ _ _) k1))).trans ?_
    refine (cl_v _ _ _ _ _ _).trans ?_
    refine (tq_ifb_eq (pt := 72) i_X2_choosePart_53 (by decide) rfl).trans ?_
    refine ite_congr rfl (fun c3 => ?_) (fun c3 => ?_)
    · refine (tq_aload_n i_X2_choosePart_56 rfl (isA_ref _) rfl).trans ?_
      refine (tq_aload_n i_X2_choosePart_57 rfl (isA_ref _) rfl).trans ?_
      refine (tq_getfield i_X2_choosePart_58 ((sh_uF _ _ _ _ _ _).trans (K2_s k2)) (gR ((g_2_0 ((sh_uF _ _ _ _ _ _).trans (K2_s k2))).trans (congrArg am_rv (fA_uF_nk (K5_s (K2_k1 k2)) (okf_5_5 _) (by decide)))) (K2_e0 k2)) (isV_ref _) rfl).trans ?_
      refine (tq_getfield i_X2_choosePart_61 ((sh_uF _ _ _ _ _ _).trans (K1_s (K2_k0 k2))) (gR ((g_1_1 ((sh_uF _ _ _ _ _ _).trans (K1_s (K2_k0 k2)))).trans (congrArg am_rv (fA_uF_nk (K5_s (K2_k1 k2)) (okf_5_5 _) (by decide)))) (K1_e1 (K2_k0 k2))) (isV_ref _) rfl).trans ?_
      refine (tq_aload_n i_X2_choosePart_64 rfl (isA_ref _) rfl).trans ?_
      refine (tq_iload_n i_X2_choosePart_65 rfl rfl).trans ?_
      exact c_X2_search i_X2_choosePart_66 ((sh_uF _ _ _ _ _ _).trans (K2_s k2)) (ltd d_X2_choosePart (by decide)) (isA_ref _) (isA_ref _) (stOk_1 _) rfl
    · refine (tq_iconst i_X2_choosePart_72 rfl).trans ?_
      refine (tq_putfield i_X2_choosePart_73 ((sh_uF _ _ _ _ _ _).trans (K5_s (K2_k1 k2))) (okf_5_6 _) rfl).trans ?_
      refine (tq_aload_n i_X2_choosePart_76 rfl (isA_ref _) rfl).trans ?_
      refine (tq_getfield i_X2_choosePart_77 ((sh_uF _ _ _ _ _ _).trans ((sh_uF _ _ _ _ _ _).trans (K2_s k2))) (gR ((g_2_0 ((sh_uF _ _ _ _ _ _).trans ((sh_uF _ _ _ _ _ _).trans (K2_s k2)))).trans (congrArg am_rv ((fA_uF_nk ((sh_uF _ _ _ _ _ _).trans (K5_s (K2_k1 k2))) (okf_5_6 _) (by decide)).trans (fA_uF_nk (K5_s (K2_k1 k2)) (okf_5_5 _) (by decide))))) (K2_e0 k2)) (isV_ref _) rfl).trans ?_
      refine (tq_aload_n i_X2_choosePart_80 rfl (isA_ref _) rfl).trans ?_
      refine (tq_getfield i_X2_choosePart_81 ((sh_uF _ _ _ _ _ _).trans ((sh_uF _ _ _ _ _ _).trans (K6_s k1))) (gR ((g_6_15 ((sh_uF _ _ _ _ _ _).trans ((sh_uF _ _ _ _ _ _).trans (K6_s k1)))).trans (congrArg am_rv ((fA_uF_nk ((sh_uF _ _ _ _ _ _).trans (K5_s (K2_k1 k2))) (okf_5_6 _) (by decide)).trans (fA_uF_nk (K5_s (K2_k1 k2)) (okf_5_5 _) (by decide))))) (K6_e15 k1)) (isV_ref _) rfl).trans ?_
      refine (tq_aload_n i_X2_choosePart_84 rfl (isA_ref _) rfl).trans ?_
      refine (tq_getfield i_X2_choosePart_85 ((sh_uF _ _ _ _ _ _).trans ((sh_uF _ _ _ _ _ _).trans (K2_s k2))) (gR ((g_2_1 ((sh_uF _ _ _ _ _ _).trans ((sh_uF _ _ _ _ _ _).trans (K2_s k2)))).trans (congrArg am_rv ((fA_uF_nk ((sh_uF _ _ _ _ _ _).trans (K5_s (K2_k1 k2))) (okf_5_6 _) (by decide)).trans (fA_uF_nk (K5_s (K2_k1 k2)) (okf_5_5 _) (by decide))))) (K2_e1 k2)) (isV_ref _) rfl).trans ?_
      exact c_X1_takeBorder i_X2_choosePart_88 ((sh_uF _ _ _ _ _ _).trans ((sh_uF _ _ _ _ _ _).trans (K1_s (K2_k0 k2)))) (ltd d_X2_choosePart (by decide)) (isA_ref _) (isA_ref _) stOk_0 rfl
theorem i_X2_choosePart_38 : am_i m_X2_choosePart 38 = some (38, .goto 4, 3, [], 0) := rfl
theorem b_X2_choosePart_38 {a0 a1 a2 as1 : Nat} {x3 xs0 : Int} {v4 v5 v6 v7 : Value} {h : am_H} (k1 : K5 h as1) (k2 : K2 h a0) (k3 : K6 h a1) : rn m_X2_choosePart 38 [.ref a0, .ref a1, .ref a2, .int (mI x3), v4, v5, v6, v7] [.int (mI xs0), .ref as1] h = if (¬ (¬ (fZ (uF 5 h as1 5 (.int (mI xs0))) a1 0) = 98)) then cl m_X2_choosePart 69 [.ref a0, .ref a1, .ref a2, .int (mI x3), v4, v5, v6, v7] [.ref (a0 + 10)] (rn m_X2_search 0 [.ref a0, .ref (a0 + 4), .ref a2, .int (mI x3), am_J, am_J, am_J, am_J, am_J, am_J, am_J] [] (uF 5 h as1 5 (.int (mI xs0)))) else cl m_X2_choosePart 91 [.ref a0, .ref a1, .ref a2, .int (mI x3), v4, v5, v6, v7] [] (rn m_X1_takeBorder 0 [.ref (a0 + 1), .ref (a1 + 8), .ref (a0 + 10), am_J, am_J, am_J, am_J] [] (uF 5 (uF 5 h as1 5 (.int (mI xs0))) (a0 + 10) 6 (.int (mI (-1))))) := by
  refine (tq_goto (pc' := 42) i_X2_choosePart_38 (by decide)).trans ?_
  refine (tq_putfield i_X2_choosePart_42 (K5_s k1) (okf_5_5 _) rfl).trans ?_
  refine (tq_aload_n i_X2_choosePart_45 rfl (isA_ref _) rfl).trans ?_
  refine (tq_getfield i_X2_choosePart_46 ((sh_uF _ _ _ _ _ _).trans (K2_s k2)) (gR ((g_2_1 ((sh_uF _ _ _ _ _ _).trans (K2_s k2))).trans (congrArg am_rv (fA_uF_nk (K5_s k1) (okf_5_5 _) (by decide)))) (K2_e1 k2)) (isV_ref _) rfl).trans ?_
  refine (tq_aload_n i_X2_choosePart_49 rfl (isA_ref _) rfl).trans ?_
  refine (c_X6_leansOnSecond i_X2_choosePart_50 ((sh_uF _ _ _ _ _ _).trans (K6_s k3)) (ltd d_X2_choosePart (by decide)) (stOk_1 _) rfl).trans ?_
  refine (congrArg (cl _ _ _ _) (b_X6_leansOnSecond_0 (K6_sm (Sm_uF_5_5 _ _ _) k3))).trans ?_
  refine (cl_v _ _ _ _ _ _).trans ?_
  refine (tq_ifb_eq (pt := 72) i_X2_choosePart_53 (by decide) rfl).trans ?_
  refine ite_congr rfl (fun c1 => ?_) (fun c1 => ?_)
  · refine (tq_aload_n i_X2_choosePart_56 rfl (isA_ref _) rfl).trans ?_
    refine (tq_aload_n i_X2_choosePart_57 rfl (isA_ref _) rfl).trans ?_
    refine (tq_getfield i_X2_choosePart_58 ((sh_uF _ _ _ _ _ _).trans (K2_s k2)) (gR ((g_2_0 ((sh_uF _ _ _ _ _ _).trans (K2_s k2))).trans (congrArg am_rv (fA_uF_nk (K5_s k1) (okf_5_5 _) (by decide)))) (K2_e0 k2)) (isV_ref _) rfl).trans ?_
    refine (tq_getfield i_X2_choosePart_61 ((sh_uF _ _ _ _ _ _).trans (K1_s (K2_k0 k2))) (gR ((g_1_1 ((sh_uF _ _ _ _ _ _).trans (K1_s (K2_k0 k2)))).trans (congrArg am_rv (fA_uF_nk (K5_s k1) (okf_5_5 _) (by decide)))) (K1_e1 (K2_k0 k2))) (isV_ref _) rfl).trans ?_
    refine (tq_aload_n i_X2_choosePart_64 rfl (isA_ref _) rfl).trans ?_
    refine (tq_iload_n i_X2_choosePart_65 rfl rfl).trans ?_
    exact c_X2_search i_X2_choosePart_66 ((sh_uF _ _ _ _ _ _).trans (K2_s k2)) (ltd d_X2_choosePart (by decide)) (isA_ref _) (isA_ref _) (stOk_1 _) rfl
  · refine (tq_iconst i_X2_choosePart_72 rfl).trans ?_
    refine (tq_putfield i_X2_choosePart_73 ((sh_uF _ _ _ _ _ _).trans (K5_s (K2_k1 k2))) (okf_5_6 _) rfl).trans ?_
    refine (tq_aload_n i_X2_choosePart_76 rfl (isA_ref _) rfl).trans ?_
    refine (tq_getfield i_X2_choosePart_77 ((sh_uF _ _ _ _ _ _).trans ((sh_uF _ _ _ _ _ _).trans (K2_s k2))) (gR ((g_2_0 ((sh_uF _ _ _ _ _ _).trans ((sh_uF _ _ _ _ _ _).trans (K2_s k2)))).trans (congrArg am_rv ((fA_uF_nk ((sh_uF _ _ _ _ _ _).trans (K5_s (K2_k1 k2))) (okf_5_6 _) (by decide)).trans (fA_uF_nk (K5_s k1) (okf_5_5 _) (by decide))))) (K2_e0 k2)) (isV_ref _) rfl).trans ?_
    refine (tq_aload_n i_X2_choosePart_80 rfl (isA_ref _) rfl).trans ?_
    refine (tq_getfield i_X2_choosePart_81 ((sh_uF _ _ _ _ _ _).trans ((sh_uF _ _ _ _ _ _).trans (K6_s k3))) (gR ((g_6_15 ((sh_uF _ _ _ _ _ _).trans ((sh_uF _ _ _ _ _ _).trans (K6_s k3)))).trans (congrArg am_rv ((fA_uF_nk ((sh_uF _ _ _ _ _ _).trans (K5_s (K2_k1 k2))) (okf_5_6 _) (by decide)).trans (fA_uF_nk (K5_s k1) (okf_5_5 _) (by decide))))) (K6_e15 k3)) (isV_ref _) rfl).trans ?_
    refine (tq_aload_n i_X2_choosePart_84 rfl (isA_ref _) rfl).trans ?_
    refine (tq_getfield i_X2_choosePart_85 ((sh_uF _ _ _ _ _ _).trans ((sh_uF _ _ _ _ _ _).trans (K2_s k2))) (gR ((g_2_1 ((sh_uF _ _ _ _ _ _).trans ((sh_uF _ _ _ _ _ _).trans (K2_s k2)))).trans (congrArg am_rv ((fA_uF_nk ((sh_uF _ _ _ _ _ _).trans (K5_s (K2_k1 k2))) (okf_5_6 _) (by decide)).trans (fA_uF_nk (K5_s k1) (okf_5_5 _) (by decide))))) (K2_e1 k2)) (isV_ref _) rfl).trans ?_
    exact c_X1_takeBorder i_X2_choosePart_88 ((sh_uF _ _ _ _ _ _).trans ((sh_uF _ _ _ _ _ _).trans (K1_s (K2_k0 k2)))) (ltd d_X2_choosePart (by decide)) (isA_ref _) (isA_ref _) stOk_0 rfl
theorem i_X2_choosePart_69 : am_i m_X2_choosePart 69 = some (69, .goto 4, 3, [], 0) := rfl
theorem b_X2_choosePart_69 {a0 a1 a2 as1 : Nat} {v3 v4 v5 v6 v7 : Value} {xs0 : Int} {h : am_H} (k1 : K5 h as1) (k2 : K2 h a0) (k3 : K6 h a1) : rn m_X2_choosePart 69 [.ref a0, .ref a1, .ref a2, v3, v4, v5, v6, v7] [.int (mI xs0), .ref as1] h = cl m_X2_choosePart 91 [.ref a0, .ref a1, .ref a2, v3, v4, v5, v6, v7] [] (rn m_X1_takeBorder 0 [.ref (a0 + 1), .ref (a1 + 8), .ref (a0 + 10), am_J, am_J, am_J, am_J] [] (uF 5 h as1 6 (.int (mI xs0)))) := by
  refine (tq_goto (pc' := 73) i_X2_choosePart_69 (by decide)).trans ?_
  refine (tq_putfield i_X2_choosePart_73 (K5_s k1) (okf_5_6 _) rfl).trans ?_
  refine (tq_aload_n i_X2_choosePart_76 rfl (isA_ref _) rfl).trans ?_
  refine (tq_getfield i_X2_choosePart_77 ((sh_uF _ _ _ _ _ _).trans (K2_s k2)) (gR ((g_2_0 ((sh_uF _ _ _ _ _ _).trans (K2_s k2))).trans (congrArg am_rv (fA_uF_nk (K5_s k1) (okf_5_6 _) (by decide)))) (K2_e0 k2)) (isV_ref _) rfl).trans ?_
  refine (tq_aload_n i_X2_choosePart_80 rfl (isA_ref _) rfl).trans ?_
  refine (tq_getfield i_X2_choosePart_81 ((sh_uF _ _ _ _ _ _).trans (K6_s k3)) (gR ((g_6_15 ((sh_uF _ _ _ _ _ _).trans (K6_s k3))).trans (congrArg am_rv (fA_uF_nk (K5_s k1) (okf_5_6 _) (by decide)))) (K6_e15 k3)) (isV_ref _) rfl).trans ?_
  refine (tq_aload_n i_X2_choosePart_84 rfl (isA_ref _) rfl).trans ?_
  refine (tq_getfield i_X2_choosePart_85 ((sh_uF _ _ _ _ _ _).trans (K2_s k2)) (gR ((g_2_1 ((sh_uF _ _ _ _ _ _).trans (K2_s k2))).trans (congrArg am_rv (fA_uF_nk (K5_s k1) (okf_5_6 _) (by decide)))) (K2_e1 k2)) (isV_ref _) rfl).trans ?_
  exact c_X1_takeBorder i_X2_choosePart_88 ((sh_uF _ _ _ _ _ _).trans (K1_s (K2_k0 k2))) (ltd d_X2_choosePart (by decide)) (isA_ref _) (isA_ref _) stOk_0 rfl
theorem i_X2_choosePart_91 : am_i m_X2_choosePart 91 = some (91, .iconst 0, 1, [], 0) := rfl
theorem i_X2_choosePart_92 : am_i m_X2_choosePart 92 = some (92, .istore 4, 2, [], 0) := rfl
theorem i_X2_choosePart_94 : am_i m_X2_choosePart 94 = some (94, .ldc 126, 2, [], 1000000) := rfl
theorem i_X2_choosePart_96 : am_i m_X2_choosePart 96 = some (96, .istore 5, 2, [], 0) := rfl
theorem i_X2_choosePart_98 : am_i m_X2_choosePart 98 = some (98, .iconst 0, 1, [], 0) := rfl
theorem i_X2_choosePart_99 : am_i m_X2_choosePart 99 = some (99, .istore 6, 2, [], 0) := rfl
theorem b_X2_choosePart_91 {a0 a1 a2 : Nat} {v3 v4 v5 v6 v7 : Value} {h : am_H} : rn m_X2_choosePart 91 [.ref a0, .ref a1, .ref a2, v3, v4, v5, v6, v7] [] h = rn m_X2_choosePart 101 [.ref a0, .ref a1, .ref a2, (am_k1 v3), .int (mI 0), .int (mI 1000000), .int (mI 0), v7] [] h := by
  refine (tq_iconst i_X2_choosePart_91 rfl).trans ?_
  refine (tq_istore (L' := [.ref a0, .ref a1, .ref a2, (am_k1 v3), .int (mI 0), v5, v6, v7]) i_X2_choosePart_92 rfl rfl).trans ?_
  refine (tq_ldc i_X2_choosePart_94 rfl).trans ?_
  refine (tq_istore (L' := [.ref a0, .ref a1, .ref a2, (am_k1 v3), .int (mI 0), .int (mI 1000000), v6, v7]) i_X2_choosePart_96 rfl rfl).trans ?_
  refine (tq_iconst i_X2_choosePart_98 rfl).trans ?_
  refine (tq_istore (L' := [.ref a0, .ref a1, .ref a2, (am_k1 v3), .int (mI 0), .int (mI 1000000), .int (mI 0), v7]) i_X2_choosePart_99 rfl rfl).trans ?_
  rfl
theorem i_X2_choosePart_101 : am_i m_X2_choosePart 101 = some (101, .iload 6, 2, [], 0) := rfl
theorem i_X2_choosePart_103 : am_i m_X2_choosePart 103 = some (103, .aload_n 1, 1, [], 0) := rfl
theorem i_X2_choosePart_104 : am_i m_X2_choosePart 104 = some (104, .invokevirtual 127, 3, [68, 6], 0) := rfl
theorem i_X2_choosePart_107 : am_i m_X2_choosePart 107 = some (107, .if_icmp .ge 66, 3, [], 0) := rfl
theorem i_X2_choosePart_110 : am_i m_X2_choosePart 110 = some (110, .aload_n 0, 1, [], 0) := rfl
theorem i_X2_choosePart_111 : am_i m_X2_choosePart 111 = some (111, .getfield 21, 3, [2, 1, 0], 0) := rfl
theorem i_X2_choosePart_114 : am_i m_X2_choosePart 114 = some (114, .iload 6, 2, [], 0) := rfl
theorem i_X2_choosePart_116 : am_i m_X2_choosePart 116 = some (116, .putfield 131, 3, [5, 4, 1], 0) := rfl
theorem i_X2_choosePart_119 : am_i m_X2_choosePart 119 = some (119, .aload_n 0, 1, [], 0) := rfl
theorem i_X2_choosePart_120 : am_i m_X2_choosePart 120 = some (120, .getfield 12, 3, [2, 0, 0], 0) := rfl
theorem i_X2_choosePart_123 : am_i m_X2_choosePart 123 = some (123, .aload_n 0, 1, [], 0) := rfl
theorem i_X2_choosePart_124 : am_i m_X2_choosePart 124 = some (124, .getfield 21, 3, [2, 1, 0], 0) := rfl
theorem i_X2_choosePart_127 : am_i m_X2_choosePart 127 = some (127, .invokevirtual 134, 3, [89, 1], 0) := rfl
theorem i_X2_choosePart_173 : am_i m_X2_choosePart 173 = some (173, .aload_n 0, 1, [], 0) := rfl
theorem i_X2_choosePart_174 : am_i m_X2_choosePart 174 = some (174, .getfield 21, 3, [2, 1, 0], 0) := rfl
theorem i_X2_choosePart_177 : am_i m_X2_choosePart 177 = some (177, .iload 4, 2, [], 0) := rfl
theorem i_X2_choosePart_179 : am_i m_X2_choosePart 179 = some (179, .putfield 131, 3, [5, 4, 1], 0) := rfl
theorem i_X2_choosePart_182 : am_i m_X2_choosePart 182 = some (182, .aload_n 0, 1, [], 0) := rfl
theorem i_X2_choosePart_183 : am_i m_X2_choosePart 183 = some (183, .getfield 12, 3, [2, 0, 0], 0) := rfl
theorem i_X2_choosePart_186 : am_i m_X2_choosePart 186 = some (186, .aload_n 0, 1, [], 0) := rfl
theorem i_X2_choosePart_187 : am_i m_X2_choosePart 187 = some (187, .getfield 21, 3, [2, 1, 0], 0) := rfl
theorem i_X2_choosePart_190 : am_i m_X2_choosePart 190 = some (190, .invokevirtual 134, 3, [89, 1], 0) := rfl
theorem b_X2_choosePart_101 {a0 a1 a2 : Nat} {v3 v7 : Value} {x4 x5 x6 x6' : Int} {h : am_H} (w6 : wr x6 = x6') (k1 : K6 h a1) (k2 : K2 h a0) : rn m_X2_choosePart 101 [.ref a0, .ref a1, .ref a2, v3, .int (mI x4), .int (mI x5), .int (mI x6), v7] [] h = if (wr (if (¬ (¬ (fZ h a1 0) = 98)) then 7 else (if (¬ ((fZ h a1 0) = 105)) then 5 else 4))) ≤ x6' then cl m_X2_choosePart 193 [.ref a0, .ref a1, .ref a2, v3, .int (mI x4), .int (mI x5), .int (mI x6), v7] [] (rn m_X1_guessPart 0 [.ref (a0 + 1), .ref (a0 + 10), am_J, am_J, am_J] [] (uF 5 h (a0 + 10) 4 (.int (mI x4)))) else cl m_X2_choosePart 130 [.ref a0, .ref a1, .ref a2, v3, .int (mI x4), .int (mI x5), .int (mI x6), v7] [] (rn m_X1_guessPart 0 [.ref (a0 + 1), .ref (a0 + 10), am_J, am_J, am_J] [] (uF 5 h (a0 + 10) 4 (.int (mI x6)))) := by
  refine (tq_iload i_X2_choosePart_101 rfl rfl).trans ?_
  refine (tq_aload_n i_X2_choosePart_103 rfl (isA_ref _) rfl).trans ?_
  refine (c_X6_modeCount i_X2_choosePart_104 (K6_s k1) (ltd d_X2_choosePart (by decide)) (stOk_1 _) rfl).trans ?_
  refine (congrArg (cl _ _ _ _) (b_X6_modeCount_0 k1)).trans ?_
  refine (cl_v _ _ _ _ _ _).trans ?_
  refine (tq_icmp_ge (pt := 173) i_X2_choosePart_107 w6 rfl (by decide) rfl).trans ?_
  refine ite_congr rfl (fun c1 => ?_) (fun c1 => ?_)
  · refine (tq_aload_n i_X2_choosePart_173 rfl (isA_ref _) rfl).trans ?_
    refine (tq_getfield i_X2_choosePart_174 (K2_s k2) (gR (g_2_1 (K2_s k2)) (K2_e1 k2)) (isV_ref _) rfl).trans ?_
    refine (tq_iload i_X2_choosePart_177 rfl rfl).trans ?_
    refine (tq_putfield i_X2_choosePart_179 (K5_s (K2_k1 k2)) (okf_5_4 _) rfl).trans ?_
    refine (tq_aload_n i_X2_choosePart_182 rfl (isA_ref _) rfl).trans ?_
    refine (tq_getfield i_X2_choosePart_183 ((sh_uF _ _ _ _ _ _).trans (K2_s k2)) (gR ((g_2_0 ((sh_uF _ _ _ _ _ _).trans (K2_s k2))).trans (congrArg am_rv (fA_uF_nk (K5_s (K2_k1 k2)) (okf_5_4 _) (by decide)))) (K2_e0 k2)) (isV_ref _) rfl).trans ?_
    refine (tq_aload_n i_X2_choosePart_186 rfl (isA_ref _) rfl).trans ?_
    refine (tq_getfield i_X2_choosePart_187 ((sh_uF _ _ _ _ _ _).trans (K2_s k2)) (gR ((g_2_1 ((sh_uF _ _ _ _ _ _).trans (K2_s k2))).trans (congrArg am_rv (fA_uF_nk (K5_s (K2_k1 k2)) (okf_5_4 _) (by decide)))) (K2_e1 k2)) (isV_ref _) rfl).trans ?_
    exact c_X1_guessPart i_X2_choosePart_190 ((sh_uF _ _ _ _ _ _).trans (K1_s (K2_k0 k2))) (ltd d_X2_choosePart (by decide)) (isA_ref _) stOk_0 rfl
  · refine (tq_aload_n i_X2_choosePart_110 rfl (isA_ref _) rfl).trans ?_
    refine (tq_getfield i_X2_choosePart_111 (K2_s k2) (gR (g_2_1 (K2_s k2)) (K2_e1 k2)) (isV_ref _) rfl).trans ?_
    refine (tq_iload i_X2_choosePart_114 rfl rfl).trans ?_
    refine (tq_putfield i_X2_choosePart_116 (K5_s (K2_k1 k2)) (okf_5_4 _) rfl).trans ?_
    refine (tq_aload_n i_X2_choosePart_119 rfl (isA_ref _) rfl).trans ?_
    refine (tq_getfield i_X2_choosePart_120 ((sh_uF _ _ _ _ _ _).trans (K2_s k2)) (gR ((g_2_0 ((sh_uF _ _ _ _ _ _).trans (K2_s k2))).trans (congrArg am_rv (fA_uF_nk (K5_s (K2_k1 k2)) (okf_5_4 _) (by decide)))) (K2_e0 k2)) (isV_ref _) rfl).trans ?_
    refine (tq_aload_n i_X2_choosePart_123 rfl (isA_ref _) rfl).trans ?_
    refine (tq_getfield i_X2_choosePart_124 ((sh_uF _ _ _ _ _ _).trans (K2_s k2)) (gR ((g_2_1 ((sh_uF _ _ _ _ _ _).trans (K2_s k2))).trans (congrArg am_rv (fA_uF_nk (K5_s (K2_k1 k2)) (okf_5_4 _) (by decide)))) (K2_e1 k2)) (isV_ref _) rfl).trans ?_
    exact c_X1_guessPart i_X2_choosePart_127 ((sh_uF _ _ _ _ _ _).trans (K1_s (K2_k0 k2))) (ltd d_X2_choosePart (by decide)) (isA_ref _) stOk_0 rfl
theorem i_X2_choosePart_130 : am_i m_X2_choosePart 130 = some (130, .aload_n 0, 1, [], 0) := rfl
theorem i_X2_choosePart_131 : am_i m_X2_choosePart 131 = some (131, .getfield 12, 3, [2, 0, 0], 0) := rfl
theorem i_X2_choosePart_134 : am_i m_X2_choosePart 134 = some (134, .aload_n 2, 1, [], 0) := rfl
theorem i_X2_choosePart_135 : am_i m_X2_choosePart 135 = some (135, .aload_n 0, 1, [], 0) := rfl
theorem i_X2_choosePart_136 : am_i m_X2_choosePart 136 = some (136, .getfield 21, 3, [2, 1, 0], 0) := rfl
theorem i_X2_choosePart_139 : am_i m_X2_choosePart 139 = some (139, .invokevirtual 138, 3, [51, 1], 0) := rfl
theorem b_X2_choosePart_130 {a0 a1 a2 : Nat} {v3 v7 : Value} {x4 x5 x6 : Int} {h : am_H} (k1 : K2 h a0) : rn m_X2_choosePart 130 [.ref a0, .ref a1, .ref a2, v3, .int (mI x4), .int (mI x5), .int (mI x6), v7] [] h = cl m_X2_choosePart 142 [.ref a0, .ref a1, .ref a2, v3, .int (mI x4), .int (mI x5), .int (mI x6), v7] [] (rn m_X1_guessError 0 [.ref (a0 + 1), .ref a2, .ref (a0 + 10), am_J, am_J, am_J, am_J] [] h) := by
  refine (tq_aload_n i_X2_choosePart_130 rfl (isA_ref _) rfl).trans ?_
  refine (tq_getfield i_X2_choosePart_131 (K2_s k1) (gR (g_2_0 (K2_s k1)) (K2_e0 k1)) (isV_ref _) rfl).trans ?_
  refine (tq_aload_n i_X2_choosePart_134 rfl (isA_ref _) rfl).trans ?_
  refine (tq_aload_n i_X2_choosePart_135 rfl (isA_ref _) rfl).trans ?_
  refine (tq_getfield i_X2_choosePart_136 (K2_s k1) (gR (g_2_1 (K2_s k1)) (K2_e1 k1)) (isV_ref _) rfl).trans ?_
  exact c_X1_guessError i_X2_choosePart_139 (K1_s (K2_k0 k1)) (ltd d_X2_choosePart (by decide)) (isA_ref _) (isA_ref _) stOk_0 rfl
theorem i_X2_choosePart_142 : am_i m_X2_choosePart 142 = some (142, .aload_n 0, 1, [], 0) := rfl
theorem i_X2_choosePart_143 : am_i m_X2_choosePart 143 = some (143, .getfield 21, 3, [2, 1, 0], 0) := rfl
theorem i_X2_choosePart_146 : am_i m_X2_choosePart 146 = some (146, .invokevirtual 142, 3, [82, 5], 0) := rfl
theorem i_X2_choosePart_149 : am_i m_X2_choosePart 149 = some (149, .iadd, 1, [], 0) := rfl
theorem i_X2_choosePart_150 : am_i m_X2_choosePart 150 = some (150, .istore 7, 2, [], 0) := rfl
theorem i_X2_choosePart_152 : am_i m_X2_choosePart 152 = some (152, .iload 7, 2, [], 0) := rfl
theorem i_X2_choosePart_154 : am_i m_X2_choosePart 154 = some (154, .iload 5, 2, [], 0) := rfl
theorem i_X2_choosePart_156 : am_i m_X2_choosePart 156 = some (156, .if_icmp .ge 11, 3, [], 0) := rfl
theorem i_X2_choosePart_159 : am_i m_X2_choosePart 159 = some (159, .iload 7, 2, [], 0) := rfl
theorem i_X2_choosePart_161 : am_i m_X2_choosePart 161 = some (161, .istore 5, 2, [], 0) := rfl
theorem i_X2_choosePart_163 : am_i m_X2_choosePart 163 = some (163, .iload 6, 2, [], 0) := rfl
theorem i_X2_choosePart_165 : am_i m_X2_choosePart 165 = some (165, .istore 4, 2, [], 0) := rfl
theorem i_X2_choosePart_167 : am_i m_X2_choosePart 167 = some (167, .iinc 6 1, 3, [], 0) := rfl
theorem i_X2_choosePart_170 : am_i m_X2_choosePart 170 = some (170, .goto (-69), 3, [], 0) := rfl
theorem b_X2_choosePart_142 {a0 a1 a2 : Nat} {v3 v7 : Value} {x4 x5 x6 xs0 x5' : Int} {h : am_H} (w5 : wr x5 = x5') (k1 : K2 h a0) : rn m_X2_choosePart 142 [.ref a0, .ref a1, .ref a2, v3, .int (mI x4), .int (mI x5), .int (mI x6), v7] [.int (mI xs0)] h = if x5' ≤ (wr (xs0 + (((if (¬ (4 ≤ (fZ h (a0 + 10) 4))) then 2 * (fZ h (a0 + 10) 4) else 0) + (if (((fZ h (a0 + 10) 4) = 4) ∨ (¬ (¬ (fZ h (a0 + 10) 4) = 6))) then (max (wr ((Int.tdiv (fZ h (a0 + 10) 5) 100) - 8)) (-(wr ((Int.tdiv (fZ h (a0 + 10) 5) 100) - 8)))) + (max (wr ((Int.tmod (fZ h (a0 + 10) 5) 100) - 8)) (-(wr ((Int.tmod (fZ h (a0 + 10) 5) 100) - 8)))) else 0)) + (if (((fZ h (a0 + 10) 4) = 5) ∨ (¬ (¬ (fZ h (a0 + 10) 4) = 6))) then (max (wr ((Int.tdiv (fZ h (a0 + 10) 6) 100) - 8)) (-(wr ((Int.tdiv (fZ h (a0 + 10) 6) 100) - 8)))) + (max (wr ((Int.tmod (fZ h (a0 + 10) 6) 100) - 8)) (-(wr ((Int.tmod (fZ h (a0 + 10) 6) 100) - 8)))) else 0)))) then rn m_X2_choosePart 101 [.ref a0, .ref a1, .ref a2, v3, .int (mI x4), .int (mI x5), .int (mI (x6 + 1)), .int (mI (xs0 + (((if (¬ (4 ≤ (fZ h (a0 + 10) 4))) then 2 * (fZ h (a0 + 10) 4) else 0) + (if (((fZ h (a0 + 10) 4) = 4) ∨ (¬ (¬ (fZ h (a0 + 10) 4) = 6))) then (max (wr ((Int.tdiv (fZ h (a0 + 10) 5) 100) - 8)) (-(wr ((Int.tdiv (fZ h (a0 + 10) 5) 100) - 8)))) + (max (wr ((Int.tmod (fZ h (a0 + 10) 5) 100) - 8)) (-(wr ((Int.tmod (fZ h (a0 + 10) 5) 100) - 8)))) else 0)) + (if (((fZ h (a0 + 10) 4) = 5) ∨ (¬ (¬ (fZ h (a0 + 10) 4) = 6))) then (max (wr ((Int.tdiv (fZ h (a0 + 10) 6) 100) - 8)) (-(wr ((Int.tdiv (fZ h (a0 + 10) 6) 100) - 8)))) + (max (wr ((Int.tmod (fZ h (a0 + 10) 6) 100) - 8)) (-(wr ((Int.tmod (fZ h (a0 + 10) 6) 100) - 8)))) else 0))))] [] h else rn m_X2_choosePart 101 [.ref a0, .ref a1, .ref a2, (am_k1 v3), .int (mI x6), .int (mI (xs0 + (((if (¬ (4 ≤ (fZ h (a0 + 10) 4))) then 2 * (fZ h (a0 + 10) 4) else 0) + (if (((fZ h (a0 + 10) 4) = 4) ∨ (¬ (¬ (fZ h (a0 + 10) 4) = 6))) then (max (wr ((Int.tdiv (fZ h (a0 + 10) 5) 100) - 8)) (-(wr ((Int.tdiv (fZ h (a0 + 10) 5) 100) - 8)))) + (max (wr ((Int.tmod (fZ h (a0 + 10) 5) 100) - 8)) (-(wr ((Int.tmod (fZ h (a0 + 10) 5) 100) - 8)))) else 0)) + (if (((fZ h (a0 + 10) 4) = 5) ∨ (¬ (¬ (fZ h (a0 + 10) 4) = 6))) then (max (wr ((Int.tdiv (fZ h (a0 + 10) 6) 100) - 8)) (-(wr ((Int.tdiv (fZ h (a0 + 10) 6) 100) - 8)))) + (max (wr ((Int.tmod (fZ h (a0 + 10) 6) 100) - 8)) (-(wr ((Int.tmod (fZ h (a0 + 10) 6) 100) - 8)))) else 0)))), .int (mI (x6 + 1)), .int (mI (xs0 + (((if (¬ (4 ≤ (fZ h (a0 + 10) 4))) then 2 * (fZ h (a0 + 10) 4) else 0) + (if (((fZ h (a0 + 10) 4) = 4) ∨ (¬ (¬ (fZ h (a0 + 10) 4) = 6))) then (max (wr ((Int.tdiv (fZ h (a0 + 10) 5) 100) - 8)) (-(wr ((Int.tdiv (fZ h (a0 + 10) 5) 100) - 8)))) + (max (wr ((Int.tmod (fZ h (a0 + 10) 5) 100) - 8)) (-(wr ((Int.tmod (fZ h (a0 + 10) 5) 100) - 8)))) else 0)) + (if (((fZ h (a0 + 10) 4) = 5) ∨ (¬ (¬ (fZ h (a0 + 10) 4) = 6))) then (max (wr ((Int.tdiv (fZ h (a0 + 10) 6) 100) - 8)) (-(wr ((Int.tdiv (fZ h (a0 + 10) 6) 100) - 8)))) + (max (wr ((Int.tmod (fZ h (a0 + 10) 6) 100) - 8)) (-(wr ((Int.tmod (fZ h (a0 + 10) 6) 100) - 8)))) else 0))))] [] h := by
  refine (tq_aload_n i_X2_choosePart_142 rfl (isA_ref _) rfl).trans ?_
  refine (tq_getfield i_X2_choosePart_143 (K2_s k1) (gR (g_2_1 (K2_s k1)) (K2_e1 k1)) (isV_ref _) rfl).trans ?_
  refine (c_X5_extraCost i_X2_choosePart_146 (K5_s (K2_k1 k1)) (ltd d_X2_choosePart (by decide)) (stOk_1 _) rfl).trans ?_
  refine (congrArg (cl _ _ _ _) (b_X5_extraCost_0 (K2_k1 k1))).trans ?_
  refine (cl_v _ _ _ _ _ _).trans ?_
  refine (tq_iadd i_X2_choosePart_149 rfl).trans ?_
  refine (tq_istore (L' := [.ref a0, .ref a1, .ref a2, v3, .int (mI x4), .int (mI x5), .int (mI x6), .int (mI (xs0 + (((if (¬ (4 ≤ (fZ h (a0 + 10) 4))) then 2 * (fZ h (a0 + 10) 4) else 0) + (if (((fZ h (a0 + 10) 4) = 4) ∨ (¬ (¬ (fZ h (a0 + 10) 4) = 6))) then (max (wr ((Int.tdiv (fZ h (a0 + 10) 5) 100) - 8)) (-(wr ((Int.tdiv (fZ h (a0 + 10) 5) 100) - 8)))) + (max (wr ((Int.tmod (fZ h (a0 + 10) 5) 100) - 8)) (-(wr ((Int.tmod (fZ h (a0 + 10) 5) 100) - 8)))) else 0)) + (if (((fZ h (a0 + 10) 4) = 5) ∨ (¬ (¬ (fZ h (a0 + 10) 4) = 6))) then (max (wr ((Int.tdiv (fZ h (a0 + 10) 6) 100) - 8)) (-(wr ((Int.tdiv (fZ h (a0 + 10) 6) 100) - 8)))) + (max (wr ((Int.tmod (fZ h (a0 + 10) 6) 100) - 8)) (-(wr ((Int.tmod (fZ h (a0 + 10) 6) 100) - 8)))) else 0))))]) i_X2_choosePart_150 rfl rfl).trans ?_
  refine (tq_iload i_X2_choosePart_152 rfl rfl).trans ?_
  refine (tq_iload i_X2_choosePart_154 rfl rfl).trans ?_
  refine (tq_icmp_ge (pt := 167) i_X2_choosePart_156 rfl w5 (by decide) rfl).trans ?_
  refine ite_congr rfl (fun c1 => ?_) (fun c1 => ?_)
  · refine (tq_iinc (L' := [.ref a0, .ref a1, .ref a2, v3, .int (mI x4), .int (mI x5), .int (mI (x6 + 1)), .int (mI (xs0 + (((if (¬ (4 ≤ (fZ h (a0 + 10) 4))) then 2 * (fZ h (a0 + 10) 4) else 0) + (if (((fZ h (a0 + 10) 4) = 4) ∨ (¬ (¬ (fZ h (a0 + 10) 4) = 6))) then (max (wr ((Int.tdiv (fZ h (a0 + 10) 5) 100) - 8)) (-(wr ((Int.tdiv (fZ h (a0 + 10) 5) 100) - 8)))) + (max (wr ((Int.tmod (fZ h (a0 + 10) 5) 100) - 8)) (-(wr ((Int.tmod (fZ h (a0 + 10) 5) 100) - 8)))) else 0)) + (if (((fZ h (a0 + 10) 4) = 5) ∨ (¬ (¬ (fZ h (a0 + 10) 4) = 6))) then (max (wr ((Int.tdiv (fZ h (a0 + 10) 6) 100) - 8)) (-(wr ((Int.tdiv (fZ h (a0 + 10) 6) 100) - 8)))) + (max (wr ((Int.tmod (fZ h (a0 + 10) 6) 100) - 8)) (-(wr ((Int.tmod (fZ h (a0 + 10) 6) 100) - 8)))) else 0))))]) i_X2_choosePart_167 rfl rfl rfl).trans ?_
    refine (tq_goto (pc' := 101) i_X2_choosePart_170 (by decide)).trans ?_
    rfl
  · refine (tq_iload i_X2_choosePart_159 rfl rfl).trans ?_
    refine (tq_istore (L' := [.ref a0, .ref a1, .ref a2, v3, .int (mI x4), .int (mI (xs0 + (((if (¬ (4 ≤ (fZ h (a0 + 10) 4))) then 2 * (fZ h (a0 + 10) 4) else 0) + (if (((fZ h (a0 + 10) 4) = 4) ∨ (¬ (¬ (fZ h (a0 + 10) 4) = 6))) then (max (wr ((Int.tdiv (fZ h (a0 + 10) 5) 100) - 8)) (-(wr ((Int.tdiv (fZ h (a0 + 10) 5) 100) - 8)))) + (max (wr ((Int.tmod (fZ h (a0 + 10) 5) 100) - 8)) (-(wr ((Int.tmod (fZ h (a0 + 10) 5) 100) - 8)))) else 0)) + (if (((fZ h (a0 + 10) 4) = 5) ∨ (¬ (¬ (fZ h (a0 + 10) 4) = 6))) then (max (wr ((Int.tdiv (fZ h (a0 + 10) 6) 100) - 8)) (-(wr ((Int.tdiv (fZ h (a0 + 10) 6) 100) - 8)))) + (max (wr ((Int.tmod (fZ h (a0 + 10) 6) 100) - 8)) (-(wr ((Int.tmod (fZ h (a0 + 10) 6) 100) - 8)))) else 0)))), .int (mI x6), .int (mI (xs0 + (((if (¬ (4 ≤ (fZ h (a0 + 10) 4))) then 2 * (fZ h (a0 + 10) 4) else 0) + (if (((fZ h (a0 + 10) 4) = 4) ∨ (¬ (¬ (fZ h (a0 + 10) 4) = 6))) then (max (wr ((Int.tdiv (fZ h (a0 + 10) 5) 100) - 8)) (-(wr ((Int.tdiv (fZ h (a0 + 10) 5) 100) - 8)))) + (max (wr ((Int.tmod (fZ h (a0 + 10) 5) 100) - 8)) (-(wr ((Int.tmod (fZ h (a0 + 10) 5) 100) - 8)))) else 0)) + (if (((fZ h (a0 + 10) 4) = 5) ∨ (¬ (¬ (fZ h (a0 + 10) 4) = 6))) then (max (wr ((Int.tdiv (fZ h (a0 + 10) 6) 100) - 8)) (-(wr ((Int.tdiv (fZ h (a0 + 10) 6) 100) - 8)))) + (max (wr ((Int.tmod (fZ h (a0 + 10) 6) 100) - 8)) (-(wr ((Int.tmod (fZ h (a0 + 10) 6) 100) - 8)))) else 0))))]) i_X2_choosePart_161 rfl rfl).trans ?_
    refine (tq_iload i_X2_choosePart_163 rfl rfl).trans ?_
    refine (tq_istore (L' := [.ref a0, .ref a1, .ref a2, (am_k1 v3), .int (mI x6), .int (mI (xs0 + (((if (¬ (4 ≤ (fZ h (a0 + 10) 4))) then 2 * (fZ h (a0 + 10) 4) else 0) + (if (((fZ h (a0 + 10) 4) = 4) ∨ (¬ (¬ (fZ h (a0 + 10) 4) = 6))) then (max (wr ((Int.tdiv (fZ h (a0 + 10) 5) 100) - 8)) (-(wr ((Int.tdiv (fZ h (a0 + 10) 5) 100) - 8)))) + (max (wr ((Int.tmod (fZ h (a0 + 10) 5) 100) - 8)) (-(wr ((Int.tmod (fZ h (a0 + 10) 5) 100) - 8)))) else 0)) + (if (((fZ h (a0 + 10) 4) = 5) ∨ (¬ (¬ (fZ h (a0 + 10) 4) = 6))) then (max (wr ((Int.tdiv (fZ h (a0 + 10) 6) 100) - 8)) (-(wr ((Int.tdiv (fZ h (a0 + 10) 6) 100) - 8)))) + (max (wr ((Int.tmod (fZ h (a0 + 10) 6) 100) - 8)) (-(wr ((Int.tmod (fZ h (a0 + 10) 6) 100) - 8)))) else 0)))), .int (mI x6), .int (mI (xs0 + (((if (¬ (4 ≤ (fZ h (a0 + 10) 4))) then 2 * (fZ h (a0 + 10) 4) else 0) + (if (((fZ h (a0 + 10) 4) = 4) ∨ (¬ (¬ (fZ h (a0 + 10) 4) = 6))) then (max (wr ((Int.tdiv (fZ h (a0 + 10) 5) 100) - 8)) (-(wr ((Int.tdiv (fZ h (a0 + 10) 5) 100) - 8)))) + (max (wr ((Int.tmod (fZ h (a0 + 10) 5) 100) - 8)) (-(wr ((Int.tmod (fZ h (a0 + 10) 5) 100) - 8)))) else 0)) + (if (((fZ h (a0 + 10) 4) = 5) ∨ (¬ (¬ (fZ h (a0 + 10) 4) = 6))) then (max (wr ((Int.tdiv (fZ h (a0 + 10) 6) 100) - 8)) (-(wr ((Int.tdiv (fZ h (a0 + 10) 6) 100) - 8)))) + (max (wr ((Int.tmod (fZ h (a0 + 10) 6) 100) - 8)) (-(wr ((Int.tmod (fZ h (a0 + 10) 6) 100) - 8)))) else 0))))]) i_X2_choosePart_165 rfl rfl).trans ?_
    refine (tq_iinc (L' := [.ref a0, .ref a1, .ref a2, (am_k1 v3), .int (mI x6), .int (mI (xs0 + (((if (¬ (4 ≤ (fZ h (a0 + 10) 4))) then 2 * (fZ h (a0 + 10) 4) else 0) + (if (((fZ h (a0 + 10) 4) = 4) ∨ (¬ (¬ (fZ h (a0 + 10) 4) = 6))) then (max (wr ((Int.tdiv (fZ h (a0 + 10) 5) 100) - 8)) (-(wr ((Int.tdiv (fZ h (a0 + 10) 5) 100) - 8)))) + (max (wr ((Int.tmod (fZ h (a0 + 10) 5) 100) - 8)) (-(wr ((Int.tmod (fZ h (a0 + 10) 5) 100) - 8)))) else 0)) + (if (((fZ h (a0 + 10) 4) = 5) ∨ (¬ (¬ (fZ h (a0 + 10) 4) = 6))) then (max (wr ((Int.tdiv (fZ h (a0 + 10) 6) 100) - 8)) (-(wr ((Int.tdiv (fZ h (a0 + 10) 6) 100) - 8)))) + (max (wr ((Int.tmod (fZ h (a0 + 10) 6) 100) - 8)) (-(wr ((Int.tmod (fZ h (a0 + 10) 6) 100) - 8)))) else 0)))), .int (mI (x6 + 1)), .int (mI (xs0 + (((if (¬ (4 ≤ (fZ h (a0 + 10) 4))) then 2 * (fZ h (a0 + 10) 4) else 0) + (if (((fZ h (a0 + 10) 4) = 4) ∨ (¬ (¬ (fZ h (a0 + 10) 4) = 6))) then (max (wr ((Int.tdiv (fZ h (a0 + 10) 5) 100) - 8)) (-(wr ((Int.tdiv (fZ h (a0 + 10) 5) 100) - 8)))) + (max (wr ((Int.tmod (fZ h (a0 + 10) 5) 100) - 8)) (-(wr ((Int.tmod (fZ h (a0 + 10) 5) 100) - 8)))) else 0)) + (if (((fZ h (a0 + 10) 4) = 5) ∨ (¬ (¬ (fZ h (a0 + 10) 4) = 6))) then (max (wr ((Int.tdiv (fZ h (a0 + 10) 6) 100) - 8)) (-(wr ((Int.tdiv (fZ h (a0 + 10) 6) 100) - 8)))) + (max (wr ((Int.tmod (fZ h (a0 + 10) 6) 100) - 8)) (-(wr ((Int.tmod (fZ h (a0 + 10) 6) 100) - 8)))) else 0))))]) i_X2_choosePart_167 rfl rfl rfl).trans ?_
    refine (tq_goto (pc' := 101) i_X2_choosePart_170 (by decide)).trans ?_
    rfl
theorem i_X2_choosePart_193 : am_i m_X2_choosePart 193 = some (193, .aload_n 1, 1, [], 0) := rfl
theorem i_X2_choosePart_194 : am_i m_X2_choosePart 194 = some (194, .aload_n 0, 1, [], 0) := rfl
theorem i_X2_choosePart_195 : am_i m_X2_choosePart 195 = some (195, .getfield 21, 3, [2, 1, 0], 0) := rfl
theorem i_X2_choosePart_198 : am_i m_X2_choosePart 198 = some (198, .invokevirtual 145, 3, [69, 6], 0) := rfl
theorem b_X2_choosePart_193 {a0 a1 : Nat} {v2 v3 v4 v5 v6 v7 : Value} {h : am_H} (k1 : K2 h a0) (k2 : K6 h a1) : rn m_X2_choosePart 193 [.ref a0, .ref a1, v2, v3, v4, v5, v6, v7] [] h = cl m_X2_choosePart 201 [.ref a0, .ref a1, v2, v3, v4, v5, v6, v7] [] (rn m_X6_note 0 [.ref a1, .ref (a0 + 10), am_J, am_J, am_J] [] h) := by
  refine (tq_aload_n i_X2_choosePart_193 rfl (isA_ref _) rfl).trans ?_
  refine (tq_aload_n i_X2_choosePart_194 rfl (isA_ref _) rfl).trans ?_
  refine (tq_getfield i_X2_choosePart_195 (K2_s k1) (gR (g_2_1 (K2_s k1)) (K2_e1 k1)) (isV_ref _) rfl).trans ?_
  exact c_X6_note i_X2_choosePart_198 (K6_s k2) (ltd d_X2_choosePart (by decide)) (isA_ref _) stOk_0 rfl
theorem i_X2_choosePart_201 : am_i m_X2_choosePart 201 = some (201, .return_, 1, [], 0) := rfl
theorem b_X2_choosePart_201 {v0 v1 v2 v3 v4 v5 v6 v7 : Value} {h : am_H} : rn m_X2_choosePart 201 [v0, v1, v2, v3, v4, v5, v6, v7] [] h = some (.inl none, h) := by
  exact tq_return i_X2_choosePart_201 r_X2_choosePart
theorem fZ_uF_k {c : Nat} {h : am_H} {a k b j : Nat} {v : Value} (n : j ≠ k) : fZ (uF c h a k v) b j = fZ h b j := by
  unfold fZ
  rw [gV_uF_nj _ _ _ _ _ (fun q => n q.2)]
theorem stp_eq (tl : Int) : (if (¬ (zand tl 4 = 0)) then (1 : Int) else 2) = stp tl := by
  unfold stp
  by_cases c : zand tl 4 = 0
  · rw [if_neg (fun q => q c), if_pos c]
  · rw [if_pos c, if_neg c]
theorem wr_okv {v : Int} (h : okv v) : wr v = v := by
  have := okv_b h
  exact wr_id (by omega) (by omega)
theorem cp_start {h : am_H} {C D a : Nat} {f1 f2 : Int → Int} {X Y Z T kd tl : Int} (kC : K2 h C) (kD : K6 h D) (s : sh h a = (1, 0)) (n1 : gn h a = 256) (hDC : D + 8 < C ∨ C + 10 < D) (hc : pixels (gZ h a)) (aC : a < C ∨ C + 10 < a) (pa : partAt h (C + 10) X Y Z T) (ip : isPart X Y Z T) (e0 : fZ h D 0 = kd) (e4 : fZ h D 4 = tl) (hk : isKind kd) (ro : refOk h (C + 1) kd f1 f2) : ∃ h1, rn m_X2_choosePart 0 [.ref C, .ref D, .ref a, am_J, am_J, am_J, am_J, am_J] [] h = cl m_X2_choosePart 91 [.ref C, .ref D, .ref a, .int (mI (stp tl)), am_J, am_J, am_J, am_J] [] (rn m_X1_takeBorder 0 [.ref (C + 1), .ref (D + 8), .ref (C + 10), am_J, am_J, am_J, am_J] [] h1) ∧ Md (fun c k => c = C + 10 ∧ (k = 5 ∨ k = 6)) h h1 ∧ fZ h1 (C + 10) 5 = cv1 kd tl (gZ h a) f1 X Y Z ∧ fZ h1 (C + 10) 6 = cv2 kd tl (gZ h a) f2 X Y Z := by
  have kP : K5 h (C + 10) := K2_k1 kC
  have kB : K1 h (C + 1) := K2_k0 kC
  have DP : D ≠ C + 10 := by omega
  have m5 : ∀ (g : am_H) v, Md (fun c k => c = C + 10 ∧ (k = 5 ∨ k = 6)) g (uF 5 g (C + 10) 5 v) := fun g v => Md_mono (Md_uF (Sm_uF_5_5 _ _ _)) fun c k e => ⟨e.1, Or.inl e.2⟩
  have m6 : ∀ (g : am_H) v, Md (fun c k => c = C + 10 ∧ (k = 5 ∨ k = 6)) g (uF 5 g (C + 10) 6 v) := fun g v => Md_mono (Md_uF (Sm_uF_5_6 _ _ _)) fun c k e => ⟨e.1, Or.inr e.2⟩
  have st := b_X2_choosePart_0 (a0 := C) (a1 := D) (a2 := a) (h := h) kD kC
  rw [fZ_uF_k (by decide), e0, e4, stp_eq] at st
  have w1 : wr (-1) = -1 := wr_id (by omega) (by omega)
  rcases hk with rfl | rfl | rfl
  · rw [if_neg (by decide), if_neg (by decide)] at st
    refine ⟨_, st, Md_tr (m5 _ _) (m6 _ _), ?_, ?_⟩
    · rw [fZ_uF_k (by decide), fZ_uF_eq kP (okf_5_5 _)]
      exact w1
    · rw [fZ_uF_eq ((sh_uF _ _ _ _ _ _).trans kP) (okf_5_6 _)]
      exact w1
  · rw [if_pos (by decide)] at st
    have r1 := ro.1 (by decide)
    have o1 := bestv_okv (c := gZ h a) (f := f1) (X := X) (Y := Y) (Z := Z) (stp_ok tl)
    rw [search_ok (e := C + 2) kC (K1_k0 kB) s n1 r1.1 r1.2 hc pa ip (stp_ok tl), cl_v] at st
    have st2 := b_X2_choosePart_38 (a0 := C) (a1 := D) (a2 := a) (as1 := C + 10) (x3 := stp tl) (xs0 := bestv (gZ h a) f1 X Y Z (stp tl) (sns tl)) (v4 := am_J) (v5 := am_J) (v6 := am_J) (v7 := am_J) (h := h) kP kC kD
    rw [fZ_uF_k (by decide), e0, if_neg (by decide)] at st2
    refine ⟨_, st.trans st2, Md_tr (m5 _ _) (m6 _ _), ?_, ?_⟩
    · rw [fZ_uF_k (by decide), fZ_uF_eq kP (okf_5_5 _)]
      exact wr_okv o1
    · rw [fZ_uF_eq ((sh_uF _ _ _ _ _ _).trans kP) (okf_5_6 _)]
      exact w1
  · rw [if_pos (by decide)] at st
    have r1 := ro.1 (by decide)
    have r2 := ro.2 rfl
    have o1 := bestv_okv (c := gZ h a) (f := f1) (X := X) (Y := Y) (Z := Z) (stp_ok tl)
    have o2 := bestv_okv (c := gZ h a) (f := f2) (X := X) (Y := Y) (Z := Z) (stp_ok tl)
    rw [search_ok (e := C + 2) kC (K1_k0 kB) s n1 r1.1 r1.2 hc pa ip (stp_ok tl), cl_v] at st
    have st2 := b_X2_choosePart_38 (a0 := C) (a1 := D) (a2 := a) (as1 := C + 10) (x3 := stp tl) (xs0 := bestv (gZ h a) f1 X Y Z (stp tl) (sns tl)) (v4 := am_J) (v5 := am_J) (v6 := am_J) (v7 := am_J) (h := h) kP kC kD
    rw [fZ_uF_k (by decide), e0, if_pos (by decide)] at st2
    have md5 := m5 h (.int (mI (bestv (gZ h a) f1 X Y Z (stp tl) (sns tl))))
    have ea : gZ (uF 5 h (C + 10) 5 (.int (mI (bestv (gZ h a) f1 X Y Z (stp tl) (sns tl))))) a = gZ h a := md_Z md5 (by omega)
    have se := search_ok (h := uF 5 h (C + 10) 5 (.int (mI (bestv (gZ h a) f1 X Y Z (stp tl) (sns tl))))) (e := C + 4) (K2_sm md5.1 kC) (K1_k1 (K1_sm md5.1 kB)) ((md_sh md5 _).trans s) ((md_gn md5 _).trans n1) (isH_md md5 (by omega) r2.1) r2.2 (by rw [ea]; exact hc) (partAt_md md5 (by intro k hk; omega) pa) ip (stp_ok tl)
    rw [ea] at se
    rw [se, cl_v] at st2
    have st3 := b_X2_choosePart_69 (a0 := C) (a1 := D) (a2 := a) (as1 := C + 10) (v3 := .int (mI (stp tl))) (xs0 := bestv (gZ h a) f2 X Y Z (stp tl) (sns tl)) (v4 := am_J) (v5 := am_J) (v6 := am_J) (v7 := am_J) (K5_sm md5.1 kP) (K2_sm md5.1 kC) (K6_sm md5.1 kD)
    refine ⟨_, st.trans (st2.trans st3), Md_tr (m5 _ _) (m6 _ _), ?_, ?_⟩
    · rw [fZ_uF_k (by decide), fZ_uF_eq kP (okf_5_5 _)]
      exact wr_okv o1
    · rw [fZ_uF_eq ((sh_uF _ _ _ _ _ _).trans kP) (okf_5_6 _)]
      exact wr_okv o2
