/-! ===== what the cases want besides ===== -/
theorem ord_self {d : FP.Core.Datum} (h : d ≠ .nan) : FP.Core.order d d = some .eq := by
  have e : ∀ x : Int, compare x x = Ordering.eq := fun x => by
    show compareOfLessAndEq x x = _
    unfold compareOfLessAndEq
    rw [if_neg (Int.lt_irrefl x), if_pos rfl]
  cases d with
  | nan => exact absurd rfl h
  | inf s => exact congrArg some (e _)
  | fin s c q => exact congrArg some (e _)
theorem dcmp_self {d : UInt64} (h : FP.Core.decode FP.Core.b64 d.toNat ≠ .nan) : wr ((Op.cmpValue (FP.dcmp d d) .l).toInt) = 0 := by
  have e : FP.dcmp d d = some .eq := ord_self h
  rw [e]
  exact wr_0
theorem divn64 {x n : Int} (hn : 0 < n ∧ n ≤ 12) : FP.Core.decode FP.Core.b64 (FP.ddiv (FP.i2d (mI x)) (FP.i2d (mI n))).toNat ≠ .nan := by
  have z := nz64 n.toNat (by omega)
  rw [show ((n.toNat : Nat) : Int) = n by omega] at z
  obtain ⟨t, d, r, e, hd⟩ := nzd_fin (z.resolve_left (by omega))
  exact d64 (quo_nn (by decide) (by decide) (d64 (int_nn (by decide) (by decide) _)) e hd)
theorem f2d_n {x : UInt32} (h : FP.Core.decode FP.Core.b32 x.toNat ≠ .nan) : FP.Core.decode FP.Core.b64 (FP.f2d x).toNat ≠ .nan := by
  have n : FP.Core.fIsNaN x = false := by
    unfold FP.Core.fIsNaN FP.Core.isNaN
    exact decide_eq_false h
  have e : FP.f2d x = FP.Core.f2d x := by
    unfold FP.f2d
    rw [n]
    rfl
  rw [e]
  exact d64 (rnd_nn h)
section LM
variable {σ σ' : St} {h h' : am_H} {D n : Nat} {xs : Int → Int} {c i : Int}
theorem hs0 {k : Nat} {a b : Int} (e : a = b) (hk : k ≤ 13810) : (k : Int) ≤ 13810 + 4700 * (a - b) := by omega
theorem hs2 {k : Nat} {a b : Int} (e : a = b + 1) (hk : k ≤ 18510) : (k : Int) ≤ 13810 + 4700 * (a - b) := by omega
theorem er_w (wf : WfS σ c) {x : Int} (q : 0 ≤ x ∧ x < tz σ 7) : wl (tpz σ x 7) = tpz σ x 7 := by
  have p := (wf.2.2.2.1 x q.1 q.2).2.2.2.2.2.2.2.1
  exact wl_id (by omega) (by omega)
theorem px_fl {f : Int → Int} {x y w v b : Int} (p : pixels f) (q : isF x y w v b) : pixels (flT f x y w v b 256) := fun k k0 k1 => by
  unfold flT
  split
  · exact q.2.2
  · exact p k k0 k1
theorem px_sl {f : Int → Int} {x a b : Int} (p : pixels f) : pixels (slT f x a b 256) := fun k k0 k1 => by
  unfold slT
  split
  · exact ⟨Int.emod_nonneg _ (by decide), Int.le_of_lt_add_one (Int.emod_lt_of_pos _ (by decide))⟩
  · exact p k k0 k1
theorem px_gr {f : Int → Int} {s z : Int} (p : pixels f) : pixels (grT f s z 256) := fun k k0 k1 => by
  unfold grT
  split
  · exact ⟨clampv_0 _, clampv_255 _⟩
  · exact p k k0 k1
theorem px_mv {f : Int → Int} {a b : Int} (p : pixels f) : pixels (mvT f a b) := fun k k0 k1 => by
  unfold mvT
  split
  · exact p _ (by omega) (by omega)
  · exact p k k0 k1
theorem cvS_01 (σ : St) (x : Int) : cvS σ x = 0 ∨ cvS σ x = 1 := clnv_01 _ _ _ _
theorem SKD_l (D : Nat) (a k : Nat) (q : SKD D a k) : SCl D a k := by
  unfold SKD at q
  unfold SCl
  omega
theorem c_code_full (rc : RC σ h D) (wf : WfS σ c) {kd a b : Int} (wk : wr kd = kd) (wa : wr a = a) (wb : wr b = b) (rq : isRq σ kd a b) (h7 : ¬ tz σ 7 < 12) : rn m_X11_code 0 [.ref 2, .int (mI kd), .int (mI a), .int (mI b), am_J] [] h = some (.inr 2, hexc h) := by
  have st := (c_code_x rc wf wk wa wb).2.2 rq
  rw [b_X11_code_66 rc.1, rc.2.2.2.1.2.2.1, if_neg h7] at st
  exact st
theorem code_pw (wf : WfS σ c) {kd a b : Int} {pd : Nat → Int → Int} {p u l : Int → Int} (rq : isRq σ kd a b) (pp : pixels p) (cod : ∀ s, 0 ≤ s → s < 16 → Cod (tc σ) (CF1 σ kd a) (CF2 σ kd b) kd (tz σ 1) (tz σ 2) (tz σ 0) pd p s) : PW (zK σ kd a b (erK (smo (tz σ 0) (tz σ 1) (tz σ 2) p) (tc σ) 256) (ln0 pd kd (tz σ 1) (tz σ 2) : Nat) (ln1 pd kd (tz σ 1) (tz σ 2) : Nat)) (dK pd (smo (tz σ 0) (tz σ 1) (tz σ 2) p) u l) := by
  have cpx := CF_pix wf rq.2.1 rq.2.2
  have w0 := wf.1.1
  have hb3 : ∀ s, 0 ≤ s → s < 16 → pdB pd s := fun s s0 s1 => Cod_pdB rq.1 wf.2.2.1 pp (fun _ => cpx.1) (fun _ => cpx.2) w0 ⟨s0, s1⟩ (cod s s0 s1)
  exact PW_k wf rq pp cod (ln_b hb3)
/-- a call of the class that puts its answer nowhere -/
theorem LC_dir {mL mM pc pc1 : Nat} {aL aM : List Value} {v : Int} (j : JI σ c h D n xs) (F : Fr (SCl D) 0 0 h h') (rc : RC σ' h' D) (px : pixels (gZ h' (D + 8))) (wf : WfS σ' (c + 1)) (m : RM σ h' D → MRs σ' h' D (rn mM 0 aM [] h') (.int (mI v)) 0 0 0)
    (B1 : ∀ v6 v7 v8, rn m_L_law pc (LL i v6 v7 v8) [] h = cl m_L_law pc1 (LL i v6 v7 v8) [] (rn mL 0 aL [] h))
    (W : rn mL 0 aL [] h = some (.inl (some (.int (mI (wr v)))), h'))
    (BM : ∀ h2 x, SR h' n xs → K10 h' 51 → wr x = x → rn mM 0 aM [] h' = some (.inl (some (.int (mI x))), h2) → ∀ v6 v7 v8, ∃ a b e, rn m_L_law pc1 (LL i v6 v7 v8) [.int (mI x)] h' = rn m_L_law 2383 (LL i a b e) [] h2) (e7 : tz σ' 7 = tz σ 7) : LC σ c h D n xs i pc :=
  LC_all (h' := h') (g := h') (D' := D) (X := .int (mI (wr v))) (V := .int (mI (wr v))) (k := 0) j F (Or.inl rfl) rc px wf (Md_nil _ _) (fun rm _ => by rw [mI_wr]; exact m rm) B1 (fun _ => W) (fun h2 _ sr k10 e _ _ _ _ _ => BM h2 (wr v) sr k10 (wr_wr v) e) (by decide) (hs0 e7 (by decide))
end LM
