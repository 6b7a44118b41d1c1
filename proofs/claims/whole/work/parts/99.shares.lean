/-! ===== quotients that are numbers ===== -/
def NNd (f : FP.Core.Fmt) : FP.Core.Datum → Prop
  | .nan => False
  | .inf _ => True
  | .fin _ c q => c < 2 ^ f.p ∧ q ≤ f.qmax
theorem bound_nn {f : FP.Core.Fmt} {s : Bool} {c : Nat} {q : Int} (h : c < 2 ^ f.p) : NNd f (FP.Core.bound f s c q) := by
  unfold FP.Core.bound
  by_cases e : q ≤ f.qmax
  · rw [if_pos e]; exact ⟨h, e⟩
  · rw [if_neg e]; exact trivial
theorem rr_nn {f : FP.Core.Fmt} (h1 : f.tails < 2 ^ f.p) (h2 : f.qmin ≤ f.qmax) (s : Bool) (a b : Nat) (e : Int) : NNd f (FP.Core.roundRatio f s a b e) := by
  unfold FP.Core.roundRatio
  by_cases c : a = 0
  · rw [if_pos c]; exact ⟨Nat.two_pow_pos _, h2⟩
  · rw [if_neg c]
    unfold FP.Core.roundAt FP.Core.settle
    split
    · rename_i q; exact bound_nn q
    · exact bound_nn h1
theorem quo_nn {f : FP.Core.Fmt} (h1 : f.tails < 2 ^ f.p) (h2 : f.qmin ≤ f.qmax) {a b : FP.Core.Datum} (ha : a ≠ .nan) {t : Bool} {d : Nat} {r : Int} (hb : b = .fin t d r) (hd : d ≠ 0) : NNd f (FP.Core.quotient f a b) := by
  subst hb
  cases a with
  | nan => exact absurd rfl ha
  | inf s => exact trivial
  | fin s c q =>
    have e : FP.Core.quotient f (.fin s c q) (.fin t d r) = FP.Core.roundRatio f (s != t) c d (q - r) := if_neg hd
    rw [e]
    exact rr_nn h1 h2 _ _ _ _
theorem int_nn {f : FP.Core.Fmt} (h1 : f.tails < 2 ^ f.p) (h2 : f.qmin ≤ f.qmax) (i : Int) : NNd f (FP.Core.round f (FP.Core.ofInt i)) := rr_nn h1 h2 _ _ _ _
def nzd : FP.Core.Datum → Bool
  | .fin _ c _ => c != 0
  | _ => false
theorem nzd_fin {d : FP.Core.Datum} (h : nzd d = true) : ∃ t c r, d = .fin t c r ∧ c ≠ 0 := by
  cases d with
  | nan => cases h
  | inf s => cases h
  | fin t c r => exact ⟨t, c, r, rfl, by unfold nzd at h; simpa using h⟩
theorem enc64 {d : FP.Core.Datum} (n : NNd FP.Core.b64 d) : ∃ s r : Nat, s ≤ 1 ∧ FP.Core.encode FP.Core.b64 d = s * 9223372036854775808 + r ∧ r ≤ 9218868437227405312 := by
  have a : ∀ (s : Bool) (e t : Nat), FP.Core.assemble FP.Core.b64 s e t = s.toNat * 9223372036854775808 + (e * 4503599627370496 + t) := fun s e t => by
    show (s.toNat * 2048 + e) * 4503599627370496 + t = _
    omega
  have s1 : ∀ s : Bool, s.toNat ≤ 1 := fun s => by cases s <;> decide
  cases d with
  | nan => exact n.elim
  | inf s => exact ⟨s.toNat, _, s1 s, a s 2047 0, by decide⟩
  | fin s c q =>
    obtain ⟨n1, n2⟩ := n
    have n1' : c < 9007199254740992 := n1
    have n2' : q ≤ 971 := n2
    unfold FP.Core.encode
    by_cases e : c < FP.Core.Fmt.tails FP.Core.b64
    · have e' : c < 4503599627370496 := e
      simp only [if_pos e]
      exact ⟨s.toNat, _, s1 s, a s 0 c, by omega⟩
    · have e' : ¬ c < 4503599627370496 := e
      simp only [if_neg e]
      have eq : FP.Core.Fmt.qmin FP.Core.b64 = -1074 := by decide
      have et : FP.Core.Fmt.tails FP.Core.b64 = 4503599627370496 := by decide
      rw [eq, et]
      exact ⟨s.toNat, _, s1 s, a s ((q - -1074).toNat + 1) (c - 4503599627370496), by omega⟩
theorem enc32 {d : FP.Core.Datum} (n : NNd FP.Core.b32 d) : ∃ s r : Nat, s ≤ 1 ∧ FP.Core.encode FP.Core.b32 d = s * 2147483648 + r ∧ r ≤ 2139095040 := by
  have a : ∀ (s : Bool) (e t : Nat), FP.Core.assemble FP.Core.b32 s e t = s.toNat * 2147483648 + (e * 8388608 + t) := fun s e t => by
    show (s.toNat * 256 + e) * 8388608 + t = _
    omega
  have s1 : ∀ s : Bool, s.toNat ≤ 1 := fun s => by cases s <;> decide
  cases d with
  | nan => exact n.elim
  | inf s => exact ⟨s.toNat, _, s1 s, a s 255 0, by decide⟩
  | fin s c q =>
    obtain ⟨n1, n2⟩ := n
    have n1' : c < 16777216 := n1
    have n2' : q ≤ 104 := n2
    unfold FP.Core.encode
    by_cases e : c < FP.Core.Fmt.tails FP.Core.b32
    · have e' : c < 8388608 := e
      simp only [if_pos e]
      exact ⟨s.toNat, _, s1 s, a s 0 c, by omega⟩
    · have e' : ¬ c < 8388608 := e
      simp only [if_neg e]
      have eq : FP.Core.Fmt.qmin FP.Core.b32 = -149 := by decide
      have et : FP.Core.Fmt.tails FP.Core.b32 = 8388608 := by decide
      rw [eq, et]
      exact ⟨s.toNat, _, s1 s, a s ((q - -149).toNat + 1) (c - 8388608), by omega⟩
theorem g64 {d : FP.Core.Datum} (n : NNd FP.Core.b64 d) : decide ((UInt64.ofNat (FP.Core.encode FP.Core.b64 d)) &&& 0x7fffffffffffffff ≤ 0x7ff0000000000000) = true := by
  obtain ⟨s, r, s1, e, r1⟩ := enc64 n
  refine decide_eq_true (UInt64.le_iff_toNat_le.mpr ?_)
  rw [UInt64.toNat_and, e, UInt64.toNat_ofNat', show (0x7fffffffffffffff : UInt64).toNat = 2 ^ 63 - 1 by decide, Nat.and_two_pow_sub_one_eq_mod, show (0x7ff0000000000000 : UInt64).toNat = 9218868437227405312 by decide]
  omega
theorem g32 {d : FP.Core.Datum} (n : NNd FP.Core.b32 d) : decide ((UInt32.ofNat (FP.Core.encode FP.Core.b32 d)) &&& 0x7fffffff ≤ 0x7f800000) = true := by
  obtain ⟨s, r, s1, e, r1⟩ := enc32 n
  refine decide_eq_true (UInt32.le_iff_toNat_le.mpr ?_)
  rw [UInt32.toNat_and, e, UInt32.toNat_ofNat', show (0x7fffffff : UInt32).toNat = 2 ^ 31 - 1 by decide, Nat.and_two_pow_sub_one_eq_mod, show (0x7f800000 : UInt32).toNat = 2139095040 by decide]
  omega
theorem d64 {d : FP.Core.Datum} (n : NNd FP.Core.b64 d) : FP.Core.decode FP.Core.b64 (UInt64.ofNat (FP.Core.encode FP.Core.b64 d)).toNat ≠ .nan := by
  obtain ⟨s, r, s1, e, r1⟩ := enc64 n
  rw [UInt64.toNat_ofNat', e]
  have hx : ∀ x : Nat, x = s * 9223372036854775808 + r → FP.Core.decode FP.Core.b64 x ≠ .nan := by
    intro x hx
    unfold FP.Core.decode
    by_cases c : FP.Core.fieldE FP.Core.b64 x = FP.Core.Fmt.exps FP.Core.b64 - 1
    · have c' : x / 4503599627370496 % 2048 = 2047 := c
      have z : FP.Core.fieldT FP.Core.b64 x = 0 := by
        show x % 4503599627370496 = 0
        omega
      rw [if_pos c, if_pos z]
      intro q; cases q
    · rw [if_neg c]
      split <;> (intro q; cases q)
  exact hx _ (Nat.mod_eq_of_lt (by omega))
theorem d32 {d : FP.Core.Datum} (n : NNd FP.Core.b32 d) : FP.Core.decode FP.Core.b32 (UInt32.ofNat (FP.Core.encode FP.Core.b32 d)).toNat ≠ .nan := by
  obtain ⟨s, r, s1, e, r1⟩ := enc32 n
  rw [UInt32.toNat_ofNat', e]
  have hx : ∀ x : Nat, x = s * 2147483648 + r → FP.Core.decode FP.Core.b32 x ≠ .nan := by
    intro x hx
    unfold FP.Core.decode
    by_cases c : FP.Core.fieldE FP.Core.b32 x = FP.Core.Fmt.exps FP.Core.b32 - 1
    · have c' : x / 8388608 % 256 = 255 := c
      have z : FP.Core.fieldT FP.Core.b32 x = 0 := by
        show x % 8388608 = 0
        omega
      rw [if_pos c, if_pos z]
      intro q; cases q
    · rw [if_neg c]
      split <;> (intro q; cases q)
  exact hx _ (Nat.mod_eq_of_lt (by omega))
theorem nz64 : ∀ n : Nat, n < 13 → n = 0 ∨ nzd (FP.Core.decode FP.Core.b64 (FP.i2d (mI (n : Int))).toNat) = true := by decide +kernel
theorem nz32 : ∀ n : Nat, n < 1001 → n = 0 ∨ nzd (FP.Core.decode FP.Core.b32 (FP.i2f (mI (n : Int))).toNat) = true := by decide +kernel
theorem div64 {x n : Int} (hn : 0 < n ∧ n ≤ 12) : decide (FP.ddiv (FP.i2d (mI x)) (FP.i2d (mI n)) &&& 0x7fffffffffffffff ≤ 0x7ff0000000000000) = true := by
  have z := nz64 n.toNat (by omega)
  rw [show ((n.toNat : Nat) : Int) = n by omega] at z
  obtain ⟨t, d, r, e, hd⟩ := nzd_fin (z.resolve_left (by omega))
  exact g64 (quo_nn (by decide) (by decide) (d64 (int_nn (by decide) (by decide) _)) e hd)
theorem div32 {x n : Int} (hn : 0 < n ∧ n ≤ 1000) : decide (FP.fdiv (FP.i2f (mI x)) (FP.i2f (mI n)) &&& 0x7fffffff ≤ 0x7f800000) = true := by
  have z := nz32 n.toNat (by omega)
  rw [show ((n.toNat : Nat) : Int) = n by omega] at z
  obtain ⟨t, d, r, e, hd⟩ := nzd_fin (z.resolve_left (by omega))
  exact g32 (quo_nn (by decide) (by decide) (d32 (int_nn (by decide) (by decide) _)) e hd)
/-! ===== the shares: class and model ===== -/
section SHR
variable {σ : St} {h : am_H} {D : Nat} {c : Int}
def tbt (σ : St) : Nat → Int := fun n => sm n (fun i => bts σ i)
theorem i_X11_meanBits_0 : am_i m_X11_meanBits 0 = some (0, .aload_n 0, 1, [], 0) := rfl
theorem i_X11_meanBits_1 : am_i m_X11_meanBits 1 = some (1, .getfield 43, 3, [9, 8, 0], 0) := rfl
theorem i_X11_meanBits_4 : am_i m_X11_meanBits 4 = some (4, .ifCond .ne 14, 3, [], 0) := rfl
theorem i_X11_meanBits_7 : am_i m_X11_meanBits 7 = some (7, .new 305, 3, [5, 0], 0) := rfl
theorem i_X11_meanBits_18 : am_i m_X11_meanBits 18 = some (18, .iconst 0, 1, [], 0) := rfl
theorem i_X11_meanBits_19 : am_i m_X11_meanBits 19 = some (19, .istore_n 1, 1, [], 0) := rfl
theorem i_X11_meanBits_20 : am_i m_X11_meanBits 20 = some (20, .iconst 0, 1, [], 0) := rfl
theorem i_X11_meanBits_21 : am_i m_X11_meanBits 21 = some (21, .istore_n 2, 1, [], 0) := rfl
theorem b_X11_meanBits_0 {a0 : Nat} {h : am_H} (k1 : K9 h a0) : rn m_X11_meanBits 0 [.ref a0, am_J, am_J] [] h = if ¬ (fZ h a0 8) = 0 then rn m_X11_meanBits 22 [.ref a0, .int (mI 0), .int (mI 0)] [] h else some (.inr 5, hexc h) := by
  refine (tq_aload_n i_X11_meanBits_0 rfl (isA_ref _) rfl).trans ?_
  refine (tq_getfield i_X11_meanBits_1 (K9_s k1) (g_9_8 (K9_s k1)) (isV_I _) rfl).trans ?_
  refine (tq_if_ne (pt := 18) i_X11_meanBits_4 (wr_fZ _ _ _) (by decide) rfl).trans ?_
  refine ite_congr rfl (fun c1 => ?_) (fun c1 => ?_)
  · refine (tq_iconst i_X11_meanBits_18 rfl).trans ?_
    refine (tq_istore_n (L' := [.ref a0, .int (mI 0), am_J]) i_X11_meanBits_19 rfl rfl).trans ?_
    refine (tq_iconst i_X11_meanBits_20 rfl).trans ?_
    refine (tq_istore_n (L' := [.ref a0, .int (mI 0), .int (mI 0)]) i_X11_meanBits_21 rfl rfl).trans ?_
    rfl
  · exact tq_newx i_X11_meanBits_7
theorem i_X11_meanBits_22 : am_i m_X11_meanBits 22 = some (22, .iload_n 2, 1, [], 0) := rfl
theorem i_X11_meanBits_23 : am_i m_X11_meanBits 23 = some (23, .aload_n 0, 1, [], 0) := rfl
theorem i_X11_meanBits_24 : am_i m_X11_meanBits 24 = some (24, .getfield 43, 3, [9, 8, 0], 0) := rfl
theorem i_X11_meanBits_27 : am_i m_X11_meanBits 27 = some (27, .if_icmp .ge 20, 3, [], 0) := rfl
theorem i_X11_meanBits_30 : am_i m_X11_meanBits 30 = some (30, .iload_n 1, 1, [], 0) := rfl
theorem i_X11_meanBits_31 : am_i m_X11_meanBits 31 = some (31, .aload_n 0, 1, [], 0) := rfl
theorem i_X11_meanBits_32 : am_i m_X11_meanBits 32 = some (32, .iload_n 2, 1, [], 0) := rfl
theorem i_X11_meanBits_33 : am_i m_X11_meanBits 33 = some (33, .invokevirtual 223, 3, [195, 9], 0) := rfl
theorem i_X11_meanBits_47 : am_i m_X11_meanBits 47 = some (47, .iload_n 1, 1, [], 0) := rfl
theorem i_X11_meanBits_48 : am_i m_X11_meanBits 48 = some (48, .i2d, 1, [], 0) := rfl
theorem i_X11_meanBits_49 : am_i m_X11_meanBits 49 = some (49, .aload_n 0, 1, [], 0) := rfl
theorem i_X11_meanBits_50 : am_i m_X11_meanBits 50 = some (50, .getfield 43, 3, [9, 8, 0], 0) := rfl
theorem i_X11_meanBits_53 : am_i m_X11_meanBits 53 = some (53, .i2d, 1, [], 0) := rfl
theorem i_X11_meanBits_54 : am_i m_X11_meanBits 54 = some (54, .ddiv, 1, [], 0) := rfl
theorem i_X11_meanBits_55 : am_i m_X11_meanBits 55 = some (55, .dreturn, 1, [], 0) := rfl
theorem b_X11_meanBits_22 {a0 : Nat} {x1 x2 x2' : Int} {h : am_H} (w2 : wr x2 = x2') (k1 : K9 h a0) (g2 : ((fZ h a0 8) ≤ x2') → (decide (FP.ddiv (FP.i2d (mI x1)) (FP.i2d (mI (fZ h a0 8))) &&& 0x7fffffffffffffff ≤ 0x7ff0000000000000) = true)) : rn m_X11_meanBits 22 [.ref a0, .int (mI x1), .int (mI x2)] [] h = if (fZ h a0 8) ≤ x2' then some (.inl (some (.double (FP.ddiv (FP.i2d (mI x1)) (FP.i2d (mI (fZ h a0 8)))))), h) else cl m_X11_meanBits 36 [.ref a0, .int (mI x1), .int (mI x2)] [.int (mI x1)] (rn m_X11_pictureAt 0 [.ref a0, .int (mI x2), am_J] [] h) := by
  refine (tq_iload_n i_X11_meanBits_22 rfl rfl).trans ?_
  refine (tq_aload_n i_X11_meanBits_23 rfl (isA_ref _) rfl).trans ?_
  refine (tq_getfield i_X11_meanBits_24 (K9_s k1) (g_9_8 (K9_s k1)) (isV_I _) rfl).trans ?_
  refine (tq_icmp_ge (pt := 47) i_X11_meanBits_27 w2 (wr_fZ _ _ _) (by decide) rfl).trans ?_
  refine ite_congr rfl (fun c1 => ?_) (fun c1 => ?_)
  · refine (tq_iload_n i_X11_meanBits_47 rfl rfl).trans ?_
    refine (tq_i2d i_X11_meanBits_48 rfl).trans ?_
    refine (tq_aload_n i_X11_meanBits_49 rfl (isA_ref _) rfl).trans ?_
    refine (tq_getfield i_X11_meanBits_50 (K9_s k1) (g_9_8 (K9_s k1)) (isV_I _) rfl).trans ?_
    refine (tq_i2d i_X11_meanBits_53 rfl).trans ?_
    refine (tq_ddiv i_X11_meanBits_54 (g2 c1) rfl).trans ?_
    exact tq_dreturn i_X11_meanBits_55 r_X11_meanBits
  · refine (tq_iload_n i_X11_meanBits_30 rfl rfl).trans ?_
    refine (tq_aload_n i_X11_meanBits_31 rfl (isA_ref _) rfl).trans ?_
    refine (tq_iload_n i_X11_meanBits_32 rfl rfl).trans ?_
    exact c_X11_pictureAt i_X11_meanBits_33 (K9_s k1) (ltd d_X11_meanBits (by decide)) (stOk_1 _) rfl
theorem i_X11_meanBits_36 : am_i m_X11_meanBits 36 = some (36, .invokevirtual 308, 3, [48, 6], 0) := rfl
theorem b_X11_meanBits_36 {a0 as0 : Nat} {v1 : Value} {x2 xs1 : Int} {h : am_H} (k1 : K6 h as0) : rn m_X11_meanBits 36 [.ref a0, v1, .int (mI x2)] [.ref as0, .int (mI xs1)] h = cl m_X11_meanBits 39 [.ref a0, v1, .int (mI x2)] [.int (mI xs1)] (rn m_X6_bits 0 [.ref as0] [] h) := by
  exact c_X6_bits i_X11_meanBits_36 (K6_s k1) (ltd d_X11_meanBits (by decide)) (stOk_1 _) rfl
theorem i_X11_meanBits_39 : am_i m_X11_meanBits 39 = some (39, .iadd, 1, [], 0) := rfl
theorem i_X11_meanBits_40 : am_i m_X11_meanBits 40 = some (40, .istore_n 1, 1, [], 0) := rfl
theorem i_X11_meanBits_41 : am_i m_X11_meanBits 41 = some (41, .iinc 2 1, 3, [], 0) := rfl
theorem i_X11_meanBits_44 : am_i m_X11_meanBits 44 = some (44, .goto (-22), 3, [], 0) := rfl
theorem b_X11_meanBits_39 {a0 : Nat} {v1 : Value} {x2 xs0 xs1 : Int} {h : am_H} : rn m_X11_meanBits 39 [.ref a0, v1, .int (mI x2)] [.int (mI xs0), .int (mI xs1)] h = rn m_X11_meanBits 22 [.ref a0, .int (mI (xs1 + xs0)), .int (mI (x2 + 1))] [] h := by
  refine (tq_iadd i_X11_meanBits_39 rfl).trans ?_
  refine (tq_istore_n (L' := [.ref a0, .int (mI (xs1 + xs0)), .int (mI x2)]) i_X11_meanBits_40 rfl rfl).trans ?_
  refine (tq_iinc (L' := [.ref a0, .int (mI (xs1 + xs0)), .int (mI (x2 + 1))]) i_X11_meanBits_41 rfl rfl rfl).trans ?_
  refine (tq_goto (pc' := 22) i_X11_meanBits_44 (by decide)).trans ?_
  rfl
theorem q_meanBits (rc : RC σ h D) (wf : WfS σ c) : (tz σ 7 ≠ 0 → rn m_X11_meanBits 0 [.ref 2, am_J, am_J] [] h = some (.inl (some (.double (FP.ddiv (FP.i2d (mI (tbt σ (tz σ 7).toNat))) (FP.i2d (mI (tz σ 7)))))), h)) ∧ (tz σ 7 = 0 → rn m_X11_meanBits 0 [.ref 2, am_J, am_J] [] h = some (.inr 5, hexc h)) := by
  have n := WFn wf
  have en : fZ h 2 8 = tz σ 7 := rc.2.2.2.1.2.2.1
  have st := b_X11_meanBits_0 (a0 := 2) (h := h) rc.1
  rw [en] at st
  refine ⟨fun g => ?_, fun g => by rw [if_neg (fun q => q g)] at st; exact st⟩
  rw [if_pos g] at st
  rw [st]
  refine lp (m := m_X11_meanBits) (pc := 22) (L := fun i (x : Int) => [.ref 2, .int (mI x), .int (mI i)]) (N := tz σ 7) (P := fun q => q = some (.inl (some (.double (FP.ddiv (FP.i2d (mI (tbt σ (tz σ 7).toNat))) (FP.i2d (mI (tz σ 7)))))), h)) (fun i x h' => 0 ≤ i ∧ h' = h ∧ x = tbt σ i.toNat) ?_ ?_ 0 0 h (by omega) ⟨by omega, rfl, rfl⟩
  · intro i x h' hi ⟨i0, e1, ex⟩
    subst e1
    have wi : wr i = i := wr_id (by omega) (by omega)
    have st2 := b_X11_meanBits_22 (a0 := 2) (x1 := x) (h := h') wi rc.1 (fun q => absurd q (by rw [en]; omega))
    obtain ⟨Q, eq, qc⟩ := PA_good rc wf wi ⟨i0, hi⟩
    obtain ⟨-, -, -, -, -, -, -, -, z8, z9, -⟩ := wf.2.2.2.1 i i0 hi
    rw [en, if_neg (by omega), eq, cl_v, b_X11_meanBits_36 qc.1, X6bits_ok qc z8 z9, cl_v, b_X11_meanBits_39] at st2
    refine ⟨_, h', st2, by omega, rfl, ?_⟩
    unfold tbt at *
    rw [sm_succ i0, ← ex]
    rfl
  · intro x h' ⟨i0, e1, ex⟩
    subst e1
    have st2 := b_X11_meanBits_22 (a0 := 2) (x1 := x) (x2 := tz σ 7) (h := h') (wr_id (by omega) (by omega)) rc.1 (fun _ => by rw [en]; exact div64 (by omega))
    rw [en, if_pos (by omega)] at st2
    rw [← ex]
    exact st2
theorem i_X11_cleanShare_0 : am_i m_X11_cleanShare 0 = some (0, .aload_n 0, 1, [], 0) := rfl
theorem i_X11_cleanShare_1 : am_i m_X11_cleanShare 1 = some (1, .getfield 74, 3, [9, 14, 0], 0) := rfl
theorem i_X11_cleanShare_4 : am_i m_X11_cleanShare 4 = some (4, .getfield 309, 3, [3, 10, 1], 0) := rfl
theorem i_X11_cleanShare_7 : am_i m_X11_cleanShare 7 = some (7, .ifCond .ne 14, 3, [], 0) := rfl
theorem i_X11_cleanShare_10 : am_i m_X11_cleanShare 10 = some (10, .new 305, 3, [5, 0], 0) := rfl
theorem i_X11_cleanShare_21 : am_i m_X11_cleanShare 21 = some (21, .aload_n 0, 1, [], 0) := rfl
theorem i_X11_cleanShare_22 : am_i m_X11_cleanShare 22 = some (22, .getfield 74, 3, [9, 14, 0], 0) := rfl
theorem i_X11_cleanShare_25 : am_i m_X11_cleanShare 25 = some (25, .getfield 314, 3, [3, 11, 1], 0) := rfl
theorem i_X11_cleanShare_28 : am_i m_X11_cleanShare 28 = some (28, .i2f, 1, [], 0) := rfl
theorem i_X11_cleanShare_29 : am_i m_X11_cleanShare 29 = some (29, .aload_n 0, 1, [], 0) := rfl
theorem i_X11_cleanShare_30 : am_i m_X11_cleanShare 30 = some (30, .getfield 74, 3, [9, 14, 0], 0) := rfl
theorem i_X11_cleanShare_33 : am_i m_X11_cleanShare 33 = some (33, .getfield 309, 3, [3, 10, 1], 0) := rfl
theorem i_X11_cleanShare_36 : am_i m_X11_cleanShare 36 = some (36, .i2f, 1, [], 0) := rfl
theorem i_X11_cleanShare_37 : am_i m_X11_cleanShare 37 = some (37, .fdiv, 1, [], 0) := rfl
theorem i_X11_cleanShare_38 : am_i m_X11_cleanShare 38 = some (38, .freturn, 1, [], 0) := rfl
theorem b_X11_cleanShare_0 {a0 : Nat} {h : am_H} (k1 : K9 h a0) (g2 : (¬ (fZ h (a0 + 34) 10) = 0) → (decide (FP.fdiv (FP.i2f (mI (fZ h (a0 + 34) 11))) (FP.i2f (mI (fZ h (a0 + 34) 10))) &&& 0x7fffffff ≤ 0x7f800000) = true)) : rn m_X11_cleanShare 0 [.ref a0] [] h = if ¬ (fZ h (a0 + 34) 10) = 0 then some (.inl (some (.float (FP.fdiv (FP.i2f (mI (fZ h (a0 + 34) 11))) (FP.i2f (mI (fZ h (a0 + 34) 10)))))), h) else some (.inr 5, hexc h) := by
  refine (tq_aload_n i_X11_cleanShare_0 rfl (isA_ref _) rfl).trans ?_
  refine (tq_getfield i_X11_cleanShare_1 (K9_s k1) (gR (g_9_14 (K9_s k1)) (K9_e14 k1)) (isV_ref _) rfl).trans ?_
  refine (tq_getfield i_X11_cleanShare_4 (K3_s (K9_k14 k1)) (g_3_10 (K3_s (K9_k14 k1))) (isV_I _) rfl).trans ?_
  refine (tq_if_ne (pt := 21) i_X11_cleanShare_7 (wr_fZ _ _ _) (by decide) rfl).trans ?_
  refine ite_congr rfl (fun c1 => ?_) (fun c1 => ?_)
  · refine (tq_aload_n i_X11_cleanShare_21 rfl (isA_ref _) rfl).trans ?_
    refine (tq_getfield i_X11_cleanShare_22 (K9_s k1) (gR (g_9_14 (K9_s k1)) (K9_e14 k1)) (isV_ref _) rfl).trans ?_
    refine (tq_getfield i_X11_cleanShare_25 (K3_s (K9_k14 k1)) (g_3_11 (K3_s (K9_k14 k1))) (isV_I _) rfl).trans ?_
    refine (tq_i2f i_X11_cleanShare_28 rfl).trans ?_
    refine (tq_aload_n i_X11_cleanShare_29 rfl (isA_ref _) rfl).trans ?_
    refine (tq_getfield i_X11_cleanShare_30 (K9_s k1) (gR (g_9_14 (K9_s k1)) (K9_e14 k1)) (isV_ref _) rfl).trans ?_
    refine (tq_getfield i_X11_cleanShare_33 (K3_s (K9_k14 k1)) (g_3_10 (K3_s (K9_k14 k1))) (isV_I _) rfl).trans ?_
    refine (tq_i2f i_X11_cleanShare_36 rfl).trans ?_
    refine (tq_fdiv i_X11_cleanShare_37 (g2 c1) rfl).trans ?_
    exact tq_freturn i_X11_cleanShare_38 r_X11_cleanShare
  · exact tq_newx i_X11_cleanShare_10
theorem q_cleanShare (rc : RC σ h D) (wf : WfS σ c) (hc : c ≤ 1000) : (tz σ 13 ≠ 0 → rn m_X11_cleanShare 0 [.ref 2] [] h = some (.inl (some (.float (FP.fdiv (FP.i2f (mI (tz σ 14))) (FP.i2f (mI (tz σ 13)))))), h)) ∧ (tz σ 13 = 0 → rn m_X11_cleanShare 0 [.ref 2] [] h = some (.inr 5, hexc h)) := by
  have d := rc.2.2.2.2.2.2.1.1
  have e13 : fZ h 36 10 = tz σ 13 := d.2.2.2.2.1
  have e14 : fZ h 36 11 = tz σ 14 := d.2.2.2.2.2
  have w13 := wf.2.2.2.2.1.2.2.2.2.1
  have st := b_X11_cleanShare_0 (a0 := 2) (h := h) rc.1 (fun q => by
    simp only [Nat.reduceAdd] at q ⊢
    rw [e13] at q ⊢
    exact div32 (by omega))
  simp only [Nat.reduceAdd] at st
  rw [e13, e14] at st
  refine ⟨fun g => by rw [if_pos g] at st; exact st, fun g => by rw [if_neg (fun q => q g)] at st; exact st⟩
theorem i_X12_meanBits_0 : am_i m_X12_meanBits 0 = some (0, .aload_n 0, 1, [], 0) := rfl
theorem i_X12_meanBits_1 : am_i m_X12_meanBits 1 = some (1, .aload_n 0, 1, [], 0) := rfl
theorem i_X12_meanBits_2 : am_i m_X12_meanBits 2 = some (2, .getfield 305, 3, [10, 9, 0], 0) := rfl
theorem i_X12_meanBits_5 : am_i m_X12_meanBits 5 = some (5, .ifCond .ne 7, 3, [], 0) := rfl
theorem i_X12_meanBits_8 : am_i m_X12_meanBits 8 = some (8, .iconst 1, 1, [], 1) := rfl
theorem i_X12_meanBits_9 : am_i m_X12_meanBits 9 = some (9, .goto 4, 3, [], 0) := rfl
theorem i_X12_meanBits_12 : am_i m_X12_meanBits 12 = some (12, .iconst 0, 1, [], 0) := rfl
theorem i_X12_meanBits_13 : am_i m_X12_meanBits 13 = some (13, .putfield 110, 3, [10, 0, 0], 0) := rfl
theorem i_X12_meanBits_16 : am_i m_X12_meanBits 16 = some (16, .iconst 0, 1, [], 0) := rfl
theorem i_X12_meanBits_17 : am_i m_X12_meanBits 17 = some (17, .istore_n 1, 1, [], 0) := rfl
theorem i_X12_meanBits_18 : am_i m_X12_meanBits 18 = some (18, .iconst 0, 1, [], 0) := rfl
theorem i_X12_meanBits_19 : am_i m_X12_meanBits 19 = some (19, .istore_n 2, 1, [], 0) := rfl
theorem b_X12_meanBits_0 {a0 : Nat} {h : am_H} (k1 : K10 h a0) : rn m_X12_meanBits 0 [.ref a0, am_J, am_J] [] h = rn m_X12_meanBits 20 [.ref a0, .int (mI 0), .int (mI 0)] [] (uF 10 h a0 0 (.int (mI (bZ (¬ (¬ (fZ h a0 9) = 0)))))) := by
  refine (tq_aload_n i_X12_meanBits_0 rfl (isA_ref _) rfl).trans ?_
  refine (tq_aload_n i_X12_meanBits_1 rfl (isA_ref _) rfl).trans ?_
  refine (tq_getfield i_X12_meanBits_2 (K10_s k1) (g_10_9 (K10_s k1)) (isV_I _) rfl).trans ?_
  refine (tq_if_ne (pt := 12) i_X12_meanBits_5 (wr_fZ _ _ _) (by decide) rfl).trans ?_
  refine Eq.trans (b := if ¬ (fZ h a0 9) = 0 then rn m_X12_meanBits 13 [.ref a0, am_J, am_J] [.int (mI 0), .ref a0] h else rn m_X12_meanBits 13 [.ref a0, am_J, am_J] [.int (mI 1), .ref a0] h) (ite_congr rfl (fun c1 => ?_) (fun c1 => ?_)) ?_
  · refine (tq_iconst i_X12_meanBits_12 rfl).trans ?_
    rfl
  · refine (tq_iconst i_X12_meanBits_8 rfl).trans ?_
    refine (tq_goto (pc' := 13) i_X12_meanBits_9 (by decide)).trans ?_
    rfl
  refine Eq.trans ite_b01 ?_
  refine (tq_putfield i_X12_meanBits_13 (K10_s k1) (okf_10_0 _) rfl).trans ?_
  refine (tq_iconst i_X12_meanBits_16 rfl).trans ?_
  refine (tq_istore_n (L' := [.ref a0, .int (mI 0), am_J]) i_X12_meanBits_17 rfl rfl).trans ?_
  refine (tq_iconst i_X12_meanBits_18 rfl).trans ?_
  refine (tq_istore_n (L' := [.ref a0, .int (mI 0), .int (mI 0)]) i_X12_meanBits_19 rfl rfl).trans ?_
  rfl
theorem i_X12_meanBits_20 : am_i m_X12_meanBits 20 = some (20, .iload_n 2, 1, [], 0) := rfl
theorem i_X12_meanBits_21 : am_i m_X12_meanBits 21 = some (21, .aload_n 0, 1, [], 0) := rfl
theorem i_X12_meanBits_22 : am_i m_X12_meanBits 22 = some (22, .getfield 305, 3, [10, 9, 0], 0) := rfl
theorem i_X12_meanBits_25 : am_i m_X12_meanBits 25 = some (25, .if_icmp .ge 18, 3, [], 0) := rfl
theorem i_X12_meanBits_28 : am_i m_X12_meanBits 28 = some (28, .iload_n 1, 1, [], 0) := rfl
theorem i_X12_meanBits_29 : am_i m_X12_meanBits 29 = some (29, .aload_n 0, 1, [], 0) := rfl
theorem i_X12_meanBits_30 : am_i m_X12_meanBits 30 = some (30, .getfield 62, 3, [10, 17, 0], 0) := rfl
theorem i_X12_meanBits_33 : am_i m_X12_meanBits 33 = some (33, .iload_n 2, 1, [], 0) := rfl
theorem i_X12_meanBits_34 : am_i m_X12_meanBits 34 = some (34, .iaload, 1, [], 0) := rfl
theorem i_X12_meanBits_35 : am_i m_X12_meanBits 35 = some (35, .iadd, 1, [], 0) := rfl
theorem i_X12_meanBits_36 : am_i m_X12_meanBits 36 = some (36, .istore_n 1, 1, [], 0) := rfl
theorem i_X12_meanBits_37 : am_i m_X12_meanBits 37 = some (37, .iinc 2 1, 3, [], 0) := rfl
theorem i_X12_meanBits_40 : am_i m_X12_meanBits 40 = some (40, .goto (-20), 3, [], 0) := rfl
theorem i_X12_meanBits_43 : am_i m_X12_meanBits 43 = some (43, .aload_n 0, 1, [], 0) := rfl
theorem i_X12_meanBits_44 : am_i m_X12_meanBits 44 = some (44, .getfield 110, 3, [10, 0, 0], 0) := rfl
theorem i_X12_meanBits_47 : am_i m_X12_meanBits 47 = some (47, .ifCond .ne 14, 3, [], 0) := rfl
theorem i_X12_meanBits_50 : am_i m_X12_meanBits 50 = some (50, .iload_n 1, 1, [], 0) := rfl
theorem i_X12_meanBits_51 : am_i m_X12_meanBits 51 = some (51, .i2d, 1, [], 0) := rfl
theorem i_X12_meanBits_52 : am_i m_X12_meanBits 52 = some (52, .aload_n 0, 1, [], 0) := rfl
theorem i_X12_meanBits_53 : am_i m_X12_meanBits 53 = some (53, .getfield 305, 3, [10, 9, 0], 0) := rfl
theorem i_X12_meanBits_56 : am_i m_X12_meanBits 56 = some (56, .i2d, 1, [], 0) := rfl
theorem i_X12_meanBits_57 : am_i m_X12_meanBits 57 = some (57, .ddiv, 1, [], 0) := rfl
theorem i_X12_meanBits_58 : am_i m_X12_meanBits 58 = some (58, .goto 4, 3, [], 0) := rfl
theorem i_X12_meanBits_61 : am_i m_X12_meanBits 61 = some (61, .dconst 0, 1, [], 0) := rfl
theorem i_X12_meanBits_62 : am_i m_X12_meanBits 62 = some (62, .dreturn, 1, [], 0) := rfl
theorem b_X12_meanBits_20 {a0 : Nat} {x1 x2 x2' : Int} {h : am_H} (w2 : wr x2 = x2') (k1 : K10 h a0) (g2 : ((fZ h a0 9) ≤ x2') → (¬ (¬ (fZ h a0 0) = 0)) → (decide (FP.ddiv (FP.i2d (mI x1)) (FP.i2d (mI (fZ h a0 9))) &&& 0x7fffffffffffffff ≤ 0x7ff0000000000000) = true)) (g3 : (¬ ((fZ h a0 9) ≤ x2')) → (0 ≤ x2' ∧ x2' < (12 : Int))) : rn m_X12_meanBits 20 [.ref a0, .int (mI x1), .int (mI x2)] [] h = if (fZ h a0 9) ≤ x2' then if ¬ (fZ h a0 0) = 0 then some (.inl (some (.double FP.dconst0)), h) else some (.inl (some (.double (FP.ddiv (FP.i2d (mI x1)) (FP.i2d (mI (fZ h a0 9)))))), h) else rn m_X12_meanBits 20 [.ref a0, .int (mI (x1 + (gZ h (a0 + 9) x2'))), .int (mI (x2 + 1))] [] h := by
  refine (tq_iload_n i_X12_meanBits_20 rfl rfl).trans ?_
  refine (tq_aload_n i_X12_meanBits_21 rfl (isA_ref _) rfl).trans ?_
  refine (tq_getfield i_X12_meanBits_22 (K10_s k1) (g_10_9 (K10_s k1)) (isV_I _) rfl).trans ?_
  refine (tq_icmp_ge (pt := 43) i_X12_meanBits_25 w2 (wr_fZ _ _ _) (by decide) rfl).trans ?_
  refine ite_congr rfl (fun c1 => ?_) (fun c1 => ?_)
  · refine (tq_aload_n i_X12_meanBits_43 rfl (isA_ref _) rfl).trans ?_
    refine (tq_getfield i_X12_meanBits_44 (K10_s k1) (g_10_0 (K10_s k1)) (isV_I _) rfl).trans ?_
    refine (tq_if_ne (pt := 61) i_X12_meanBits_47 (wr_fZ _ _ _) (by decide) rfl).trans ?_
    refine ite_congr rfl (fun c2 => ?_) (fun c2 => ?_)
    · refine (tq_dconst i_X12_meanBits_61 rfl).trans ?_
      exact tq_dreturn i_X12_meanBits_62 r_X12_meanBits
    · refine (tq_iload_n i_X12_meanBits_50 rfl rfl).trans ?_
      refine (tq_i2d i_X12_meanBits_51 rfl).trans ?_
      refine (tq_aload_n i_X12_meanBits_52 rfl (isA_ref _) rfl).trans ?_
      refine (tq_getfield i_X12_meanBits_53 (K10_s k1) (g_10_9 (K10_s k1)) (isV_I _) rfl).trans ?_
      refine (tq_i2d i_X12_meanBits_56 rfl).trans ?_
      refine (tq_ddiv i_X12_meanBits_57 (g2 c1 c2) rfl).trans ?_
      refine (tq_goto (pc' := 62) i_X12_meanBits_58 (by decide)).trans ?_
      exact tq_dreturn i_X12_meanBits_62 r_X12_meanBits
  · refine (tq_iload_n i_X12_meanBits_28 rfl rfl).trans ?_
    refine (tq_aload_n i_X12_meanBits_29 rfl (isA_ref _) rfl).trans ?_
    refine (tq_getfield i_X12_meanBits_30 (K10_s k1) (gR (g_10_17 (K10_s k1)) (K10_e17 k1)) (isV_ref _) rfl).trans ?_
    refine (tq_iload_n i_X12_meanBits_33 rfl rfl).trans ?_
    refine (tq_iaload i_X12_meanBits_34 (K10_s17 k1) (by decide) w2 (g3 c1).1 (lt_gn (K10_n17 k1) (g3 c1).2) rfl).trans ?_
    refine (tq_iadd i_X12_meanBits_35 rfl).trans ?_
    refine (tq_istore_n (L' := [.ref a0, .int (mI (x1 + (gZ h (a0 + 9) x2'))), .int (mI x2)]) i_X12_meanBits_36 rfl rfl).trans ?_
    refine (tq_iinc (L' := [.ref a0, .int (mI (x1 + (gZ h (a0 + 9) x2'))), .int (mI (x2 + 1))]) i_X12_meanBits_37 rfl rfl rfl).trans ?_
    refine (tq_goto (pc' := 20) i_X12_meanBits_40 (by decide)).trans ?_
    rfl
theorem m_meanBits (rm : RM σ h D) (wf : WfS σ c) : (tz σ 7 ≠ 0 → MRs σ h D (rn m_X12_meanBits 0 [.ref 51, am_J, am_J] [] h) (.double (FP.ddiv (FP.i2d (mI (tbt σ (tz σ 7).toNat))) (FP.i2d (mI (tz σ 7))))) 0 0 0) ∧ (tz σ 7 = 0 → MRs σ h D (rn m_X12_meanBits 0 [.ref 51, am_J, am_J] [] h) (.double FP.dconst0) 1 0 0) := by
  have n := WFn wf
  have en : fZ h 51 9 = tz σ 7 := rm.2.2.2.1.2.2.1
  have st := b_X12_meanBits_0 (a0 := 51) (h := h) rm.1
  rw [en, bZ_congr (q := tz σ 7 = 0) (by omega)] at st
  obtain ⟨t1, t2, t3, tm⟩ := thr_ok (z := bZ (tz σ 7 = 0)) rm (wr_bZ _)
  generalize uF 10 h 51 0 (.int (mI (bZ (tz σ 7 = 0)))) = h1 at *
  have en1 : fZ h1 51 9 = tz σ 7 := t1.2.2.2.1.2.2.1
  have eb : ∀ i, 0 ≤ i → i < tz σ 7 → gZ h1 60 i = bts σ i := fun i i0 i1 => (t1.2.2.2.2.2.1 i i0 i1).1.2.2.2.2.2.2.2.1
  have main := lp (m := m_X12_meanBits) (pc := 20) (L := fun i (x : Int) => [.ref 51, .int (mI x), .int (mI i)]) (N := tz σ 7) (P := fun q => q = if ¬ (¬ (bZ (tz σ 7 = 0)) = 0) then some (.inl (some (.double (FP.ddiv (FP.i2d (mI (tbt σ (tz σ 7).toNat))) (FP.i2d (mI (tz σ 7)))))), h1) else some (.inl (some (.double FP.dconst0)), h1)) (fun i x h' => 0 ≤ i ∧ h' = h1 ∧ x = tbt σ i.toNat) ?_ ?_ 0 0 h1 (by omega) ⟨by omega, rfl, rfl⟩
  · rw [main] at st
    refine ⟨fun g => ?_, fun g => ?_⟩
    · rw [bZ_f g] at st t2
      rw [if_pos (by decide)] at st
      exact ⟨h1, st, t1, t2, t3⟩
    · rw [bZ_t g] at st t2
      rw [if_neg (by decide)] at st
      exact ⟨h1, st, t1, t2, t3⟩
  · intro i x h' hi ⟨i0, e1, ex⟩
    subst e1
    have st2 := b_X12_meanBits_20 (a0 := 51) (x1 := x) (h := h') (wr_id (z := i) (by omega) (by omega)) t1.1 (fun q => absurd q (by rw [en1]; omega)) (fun _ => by omega)
    simp only [Nat.reduceAdd] at st2
    rw [en1, if_neg (by omega), eb i i0 hi] at st2
    refine ⟨_, h', st2, by omega, rfl, ?_⟩
    unfold tbt at *
    rw [sm_succ i0, ← ex]
  · intro x h' ⟨i0, e1, ex⟩
    subst e1
    have st2 := b_X12_meanBits_20 (a0 := 51) (x1 := x) (x2 := tz σ 7) (h := h') (wr_id (by omega) (by omega)) t1.1 (fun _ g => by
      rw [t2] at g
      rw [en1]
      refine div64 ⟨?_, n.2⟩
      by_cases q : tz σ 7 = 0
      · rw [bZ_t q] at g; exact absurd (by decide) g
      · omega) (fun q => absurd q (by rw [en1]; omega))
    rw [en1, if_pos (by omega), t2] at st2
    rw [← ex, st2]
    by_cases q : tz σ 7 = 0
    · rw [bZ_t q, if_pos (by decide), if_neg (by decide)]
    · rw [bZ_f q, if_neg (by decide), if_pos (by decide)]
theorem i_X12_cleanShare_0 : am_i m_X12_cleanShare 0 = some (0, .aload_n 0, 1, [], 0) := rfl
theorem i_X12_cleanShare_1 : am_i m_X12_cleanShare 1 = some (1, .aload_n 0, 1, [], 0) := rfl
theorem i_X12_cleanShare_2 : am_i m_X12_cleanShare 2 = some (2, .getfield 368, 3, [10, 46, 0], 0) := rfl
theorem i_X12_cleanShare_5 : am_i m_X12_cleanShare 5 = some (5, .ifCond .ne 7, 3, [], 0) := rfl
theorem i_X12_cleanShare_8 : am_i m_X12_cleanShare 8 = some (8, .iconst 1, 1, [], 1) := rfl
theorem i_X12_cleanShare_9 : am_i m_X12_cleanShare 9 = some (9, .goto 4, 3, [], 0) := rfl
theorem i_X12_cleanShare_12 : am_i m_X12_cleanShare 12 = some (12, .iconst 0, 1, [], 0) := rfl
theorem i_X12_cleanShare_13 : am_i m_X12_cleanShare 13 = some (13, .putfield 110, 3, [10, 0, 0], 0) := rfl
theorem i_X12_cleanShare_16 : am_i m_X12_cleanShare 16 = some (16, .aload_n 0, 1, [], 0) := rfl
theorem i_X12_cleanShare_17 : am_i m_X12_cleanShare 17 = some (17, .getfield 110, 3, [10, 0, 0], 0) := rfl
theorem i_X12_cleanShare_20 : am_i m_X12_cleanShare 20 = some (20, .ifCond .ne 17, 3, [], 0) := rfl
theorem i_X12_cleanShare_23 : am_i m_X12_cleanShare 23 = some (23, .aload_n 0, 1, [], 0) := rfl
theorem i_X12_cleanShare_24 : am_i m_X12_cleanShare 24 = some (24, .getfield 371, 3, [10, 47, 0], 0) := rfl
theorem i_X12_cleanShare_27 : am_i m_X12_cleanShare 27 = some (27, .i2f, 1, [], 0) := rfl
theorem i_X12_cleanShare_28 : am_i m_X12_cleanShare 28 = some (28, .aload_n 0, 1, [], 0) := rfl
theorem i_X12_cleanShare_29 : am_i m_X12_cleanShare 29 = some (29, .getfield 368, 3, [10, 46, 0], 0) := rfl
theorem i_X12_cleanShare_32 : am_i m_X12_cleanShare 32 = some (32, .i2f, 1, [], 0) := rfl
theorem i_X12_cleanShare_33 : am_i m_X12_cleanShare 33 = some (33, .fdiv, 1, [], 0) := rfl
theorem i_X12_cleanShare_34 : am_i m_X12_cleanShare 34 = some (34, .goto 4, 3, [], 0) := rfl
theorem i_X12_cleanShare_37 : am_i m_X12_cleanShare 37 = some (37, .fconst 0, 1, [], 0) := rfl
theorem i_X12_cleanShare_38 : am_i m_X12_cleanShare 38 = some (38, .freturn, 1, [], 0) := rfl
theorem b_X12_cleanShare_0 {a0 : Nat} {h : am_H} (k1 : K10 h a0) (g2 : (¬ ((¬ (¬ (fZ h a0 46) = 0)))) → (decide (FP.fdiv (FP.i2f (mI (fZ h a0 47))) (FP.i2f (mI (fZ h a0 46))) &&& 0x7fffffff ≤ 0x7f800000) = true)) : rn m_X12_cleanShare 0 [.ref a0] [] h = if (¬ (¬ (fZ h a0 46) = 0)) then some (.inl (some (.float FP.fconst0)), uF 10 h a0 0 (.int (mI (bZ (¬ (¬ (fZ h a0 46) = 0)))))) else some (.inl (some (.float (FP.fdiv (FP.i2f (mI (fZ h a0 47))) (FP.i2f (mI (fZ h a0 46)))))), uF 10 h a0 0 (.int (mI (bZ (¬ (¬ (fZ h a0 46) = 0)))))) := by
  refine (tq_aload_n i_X12_cleanShare_0 rfl (isA_ref _) rfl).trans ?_
  refine (tq_aload_n i_X12_cleanShare_1 rfl (isA_ref _) rfl).trans ?_
  refine (tq_getfield i_X12_cleanShare_2 (K10_s k1) (g_10_46 (K10_s k1)) (isV_I _) rfl).trans ?_
  refine (tq_if_ne (pt := 12) i_X12_cleanShare_5 (wr_fZ _ _ _) (by decide) rfl).trans ?_
  refine Eq.trans (b := if ¬ (fZ h a0 46) = 0 then rn m_X12_cleanShare 13 [.ref a0] [.int (mI 0), .ref a0] h else rn m_X12_cleanShare 13 [.ref a0] [.int (mI 1), .ref a0] h) (ite_congr rfl (fun c1 => ?_) (fun c1 => ?_)) ?_
  · refine (tq_iconst i_X12_cleanShare_12 rfl).trans ?_
    rfl
  · refine (tq_iconst i_X12_cleanShare_8 rfl).trans ?_
    refine (tq_goto (pc' := 13) i_X12_cleanShare_9 (by decide)).trans ?_
    rfl
  refine Eq.trans ite_b01 ?_
  refine (tq_putfield i_X12_cleanShare_13 (K10_s k1) (okf_10_0 _) rfl).trans ?_
  refine (tq_aload_n i_X12_cleanShare_16 rfl (isA_ref _) rfl).trans ?_
  refine (tq_getfield i_X12_cleanShare_17 ((sh_uF _ _ _ _ _ _).trans (K10_s k1)) (gV_uF_eq (K10_s k1) (okf_10_0 _)) (isV_I _) rfl).trans ?_
  refine (tq_ifb_ne (pt := 37) i_X12_cleanShare_20 (by decide) rfl).trans ?_
  refine ite_congr rfl (fun c2 => ?_) (fun c2 => ?_)
  · refine (tq_fconst i_X12_cleanShare_37 rfl).trans ?_
    exact tq_freturn i_X12_cleanShare_38 r_X12_cleanShare
  · refine (tq_aload_n i_X12_cleanShare_23 rfl (isA_ref _) rfl).trans ?_
    refine (tq_getfield i_X12_cleanShare_24 ((sh_uF _ _ _ _ _ _).trans (K10_s k1)) ((g_10_47 ((sh_uF _ _ _ _ _ _).trans (K10_s k1))).trans (congrArg (fun z => Value.int (mI z)) (fZ_uF_nk (K10_s k1) (okf_10_0 _) (by decide)))) (isV_I _) rfl).trans ?_
    refine (tq_i2f i_X12_cleanShare_27 rfl).trans ?_
    refine (tq_aload_n i_X12_cleanShare_28 rfl (isA_ref _) rfl).trans ?_
    refine (tq_getfield i_X12_cleanShare_29 ((sh_uF _ _ _ _ _ _).trans (K10_s k1)) ((g_10_46 ((sh_uF _ _ _ _ _ _).trans (K10_s k1))).trans (congrArg (fun z => Value.int (mI z)) (fZ_uF_nk (K10_s k1) (okf_10_0 _) (by decide)))) (isV_I _) rfl).trans ?_
    refine (tq_i2f i_X12_cleanShare_32 rfl).trans ?_
    refine (tq_fdiv i_X12_cleanShare_33 (g2 c2) rfl).trans ?_
    refine (tq_goto (pc' := 38) i_X12_cleanShare_34 (by decide)).trans ?_
    exact tq_freturn i_X12_cleanShare_38 r_X12_cleanShare
theorem m_cleanShare (rm : RM σ h D) (wf : WfS σ c) (hc : c ≤ 1000) : (tz σ 13 ≠ 0 → MRs σ h D (rn m_X12_cleanShare 0 [.ref 51] [] h) (.float (FP.fdiv (FP.i2f (mI (tz σ 14))) (FP.i2f (mI (tz σ 13))))) 0 0 0) ∧ (tz σ 13 = 0 → MRs σ h D (rn m_X12_cleanShare 0 [.ref 51] [] h) (.float FP.fconst0) 1 0 0) := by
  have d := rm.2.2.2.2.2.2.1
  have e13 : fZ h 51 46 = tz σ 13 := d.2.2.2.1
  have e14 : fZ h 51 47 = tz σ 14 := d.2.2.2.2
  have w13 := wf.2.2.2.2.1.2.2.2.2.1
  have st := b_X12_cleanShare_0 (a0 := 51) (h := h) rm.1 (fun q => by
    rw [e13] at q ⊢
    exact div32 (by omega))
  rw [e13, e14, bZ_congr (q := tz σ 13 = 0) (by omega)] at st
  refine ⟨fun g => ?_, fun g => ?_⟩
  · rw [if_neg (fun q => q g), bZ_f g] at st
    exact MRs_thr rm (wr_id (by decide) (by decide)) st
  · rw [if_pos (fun q => q g), bZ_t g] at st
    exact MRs_thr rm (wr_id (by decide) (by decide)) st
end SHR
