/-! ===== the law's cases: what each of them does ===== -/
abbrev LL (i : Int) (a b e : Value) : List Value := [.ref 1, .ref 2, .ref 51, .ref 74, .ref 75, .int (mI i), a, b, e]
theorem tail_ite {α : Type} {A B : α} {P R : Prop} {x : Int} [Decidable P] [Decidable R] (hp : P) (hr : x = 0 → R) : (if P then if ¬ x = 0 then A else if R then A else B else B) = A := by
  rw [if_pos hp]
  by_cases q : x = 0
  · rw [if_neg (fun w => w q), if_pos (hr q)]
  · rw [if_pos q]
theorem tail_dbl {α : Type} {A B : α} {P R R2 R3 : Prop} {x : Int} [Decidable P] [Decidable R] [Decidable R2] [Decidable R3] (hp : P) (hr : x = 0 → R) : (if P then if ¬ x = 0 then A else if R then A else if R2 then B else if ¬ R3 then A else B else B) = A := by
  rw [if_pos hp]
  by_cases q : x = 0
  · rw [if_neg (fun w => w q), if_pos (hr q)]
  · rw [if_pos q]
theorem Md_nil (S : Nat → Nat → Prop) (h : am_H) : Md S h h := ⟨⟨fun _ => rfl, fun _ => rfl, fun _ _ _ _ _ => rfl, rfl, rfl, rfl⟩, fun _ => ⟨fun _ => ⟨rfl, rfl, rfl, rfl⟩, fun _ _ => rfl⟩⟩
theorem mI_of {v : Int} {o : Option am_Rs} {h : am_H} (e : o = some (.inl (some (.int (mI v))), h)) : o = some (.inl (some (.int (mI (wr v)))), h) := by rw [mI_wr]; exact e
theorem SC0_l {D : Nat} {h h' : am_H} (m : Md SC0 h h') : Md (SCl D) h h' := Md_mono m fun _ _ q => Or.inl q
theorem cv_l {D : Nat} {h h' : am_H} (m : Md (fun a _ => a = 3 ∨ a = 4) h h') : Md (SCl D) h h' := Md_mono m fun a _ q => Or.inl (by omega)
section LX
variable {σ σ' : St} {h h' g : am_H} {D D' n : Nat} {xs : Int → Int} {c c' i : Int}
/-- one call: where it ends, what it leaves, what it costs -/
def LC (σ : St) (c : Int) (h : am_H) (D n : Nat) (xs : Int → Int) (i : Int) (pc : Nat) : Prop := ∀ v6 v7 v8 : Value, ∃ (σ' : St) (D' : Nat) (h' : am_H) (a b e : Value) (cc ss : Nat), rn m_L_law pc (LL i v6 v7 v8) [] h = rn m_L_law 2383 (LL i a b e) [] h' ∧ JI σ' (c + 1) h' D' n xs ∧ Fr (fun _ _ => True) cc ss h h' ∧ cc ≤ 150 ∧ (ss : Int) ≤ 13810 + 4700 * (tz σ' 7 - tz σ 7)
theorem px_l (m : Md SC0 h h') (rc : RC σ h D) (px : pixels (gZ h (D + 8))) : pixels (gZ h' (D + 8)) := by
  obtain ⟨a1, a2, al⟩ := RC_al rc
  rw [md_Z m (by unfold SC0; omega)]
  exact px
theorem J_all {cc ss c2 s2 : Nat} {k : Int} {V : Value} {r : Option am_Rs} (j : JI σ c h D n xs) (F : Fr (SCl D) cc ss h h') (hD : D' = D ∨ hnx h ≤ D') (rc : RC σ' h' D') (px : pixels (gZ h' (D' + 8))) (wf : WfS σ' c') (mg : Md (fun a _ => a = 74 ∨ a = 75) h' g) (m : RM σ g D' → D' + 8 < hnx g ∧ 75 < hnx g → MRs σ' g D' r V k c2 s2) : OUT h' ∧ SR g n xs ∧ K10 g 51 ∧ ∃ h2, r = some (.inl (some V), h2) ∧ JI σ' c' h2 D' n xs ∧ fZ h2 51 0 = k ∧ gJ h2 74 0 = gJ g 74 0 ∧ gDD h2 75 = gDD g 75 ∧ Fr (fun _ _ => True) (cc + c2) (ss + s2) h h2 := by
  obtain ⟨r1, r2, r3, r4, r5, r6⟩ := j
  obtain ⟨a1, a2, al⟩ := RC_al r1
  obtain ⟨t1, t2, t3⟩ := J_class F a1.1 hD (by omega) r2 r5 r6
  obtain ⟨u1, u2, u3, u4, u5⟩ := J_out mg rc t1 t2 t3 px
  obtain ⟨b1, b2, b3⟩ := RC_al u1
  obtain ⟨h2, e, q1, q2, q3⟩ := m u2 ⟨b2, b1.2⟩
  obtain ⟨y1, y2, y3, y4, y5, y6⟩ := J_model q3 u1 u3 u4 u5
  exact ⟨t2, u4, u2.1, h2, e, ⟨y1, q1, wf, y4, y2, y3⟩, q2, y5, y6, Fr_mono (Fr_tr (U := fun _ _ => True) F (Fr_tr (U := fun _ _ => True) (md_fr mg) q3 (fun _ _ _ _ => trivial) (fun _ _ _ _ => trivial)) (fun _ _ _ _ => trivial) (fun _ _ _ _ => trivial)) (fun _ _ _ q => q) (by omega) (by omega)⟩
theorem LC_all {mL mM pc pc1 : Nat} {aL aM : List Value} {cc ss c2 s2 : Nat} {k : Int} {X V : Value} (j : JI σ c h D n xs) (F : Fr (SCl D) cc ss h h') (hD : D' = D ∨ hnx h ≤ D') (rc : RC σ' h' D') (px : pixels (gZ h' (D' + 8))) (wf : WfS σ' (c + 1)) (mg : Md (fun a _ => a = 74 ∨ a = 75) h' g) (m : RM σ g D' → D' + 8 < hnx g ∧ 75 < hnx g → MRs σ' g D' (rn mM 0 aM [] g) V k c2 s2)
    (B1 : ∀ v6 v7 v8, rn m_L_law pc (LL i v6 v7 v8) [] h = cl m_L_law pc1 (LL i v6 v7 v8) [] (rn mL 0 aL [] h))
    (W : OUT h' → rn mL 0 aL [] h = some (.inl (some X), g))
    (B2 : ∀ h2, OUT h' → SR g n xs → K10 g 51 → rn mM 0 aM [] g = some (.inl (some V), h2) → K10 h2 51 → OUT h2 → fZ h2 51 0 = k → gJ h2 74 0 = gJ g 74 0 → gDD h2 75 = gDD g 75 → ∀ v6 v7 v8, ∃ a b e, rn m_L_law pc1 (LL i v6 v7 v8) [X] g = rn m_L_law 2383 (LL i a b e) [] h2)
    (hc : cc + c2 ≤ 150) (hs : ((ss + s2 : Nat) : Int) ≤ 13810 + 4700 * (tz σ' 7 - tz σ 7)) : LC σ c h D n xs i pc := by
  intro v6 v7 v8
  obtain ⟨o, sr, k10, h2, e, j2, f, q1, q2, F2⟩ := J_all j F hD rc px wf mg m
  obtain ⟨a, b, e', st⟩ := B2 h2 o sr k10 e j2.2.1.1 j2.2.2.2.2.1 f q1 q2 v6 v7 v8
  refine ⟨σ', D', h2, a, b, e', _, _, ?_, j2, F2, hc, hs⟩
  rw [B1 v6 v7 v8, W o, cl_v]
  exact st
/-- an answer that is an int -/
theorem LC_int {mL mM pc pc1 : Nat} {aL aM : List Value} {cc ss c2 s2 : Nat} {v : Int} (j : JI σ c h D n xs) (F : Fr (SCl D) cc ss h h') (hD : D' = D ∨ hnx h ≤ D') (rc : RC σ' h' D') (px : pixels (gZ h' (D' + 8))) (wf : WfS σ' (c + 1)) (m : RM σ (uJ h' 74 0 (wr v)) D' → D' + 8 < hnx (uJ h' 74 0 (wr v)) ∧ 75 < hnx (uJ h' 74 0 (wr v)) → MRs σ' (uJ h' 74 0 (wr v)) D' (rn mM 0 aM [] (uJ h' 74 0 (wr v))) (.int (mI v)) 0 c2 s2)
    (B1 : ∀ v6 v7 v8, rn m_L_law pc (LL i v6 v7 v8) [] h = cl m_L_law pc1 (LL i v6 v7 v8) [] (rn mL 0 aL [] h))
    (W : OUT h' → rn mL 0 aL [] h = some (.inl (some (.int (mI 0))), uJ h' 74 0 (wr v)))
    (BM : ∀ g h2 x z, SR g n xs → K10 g 51 → wr x = x → wr z = z → rn mM 0 aM [] g = some (.inl (some (.int (mI z))), h2) → K10 h2 51 → OUT h2 → fZ h2 51 0 = x → (x = 0 → gJ h2 74 0 = z) → ∀ v6 v7 v8, ∃ a b e, rn m_L_law pc1 (LL i v6 v7 v8) [.int (mI x)] g = rn m_L_law 2383 (LL i a b e) [] h2)
    (hc : cc + c2 ≤ 150) (hs : ((ss + s2 : Nat) : Int) ≤ 13810 + 4700 * (tz σ' 7 - tz σ 7)) : LC σ c h D n xs i pc :=
  LC_all (g := uJ h' 74 0 (wr v)) (V := .int (mI (wr v))) (X := .int (mI 0)) (k := 0) j F hD rc px wf (Md_mono (Md_uJ _ _ _ _) fun _ _ q => Or.inl q) (fun rm q => by rw [mI_wr]; exact m rm q) B1 W (fun h2 o sr k10 e k2 o2 f q1 _ v6 v7 v8 => BM _ h2 0 (wr v) sr k10 wr_0 (wr_wr v) e k2 o2 f (fun _ => q1.trans ((gJ_uJ_eq _ (by rw [o.1.1]) rfl).trans (wl_of_wr (wr_wr v)))) v6 v7 v8) hc hs
/-- an answer that is an int, of a call that changes nothing -/
theorem LC_q {mL mM pc pc1 : Nat} {aL aM : List Value} {c2 s2 : Nat} {v : Int} (j : JI σ c h D n xs) (m : RM σ (uJ h 74 0 (wr v)) D → MRs σ (uJ h 74 0 (wr v)) D (rn mM 0 aM [] (uJ h 74 0 (wr v))) (.int (mI v)) 0 c2 s2)
    (B1 : ∀ v6 v7 v8, rn m_L_law pc (LL i v6 v7 v8) [] h = cl m_L_law pc1 (LL i v6 v7 v8) [] (rn mL 0 aL [] h))
    (W : OUT h → rn mL 0 aL [] h = some (.inl (some (.int (mI 0))), uJ h 74 0 (wr v)))
    (BM : ∀ g h2 x z, SR g n xs → K10 g 51 → wr x = x → wr z = z → rn mM 0 aM [] g = some (.inl (some (.int (mI z))), h2) → K10 h2 51 → OUT h2 → fZ h2 51 0 = x → (x = 0 → gJ h2 74 0 = z) → ∀ v6 v7 v8, ∃ a b e, rn m_L_law pc1 (LL i v6 v7 v8) [.int (mI x)] g = rn m_L_law 2383 (LL i a b e) [] h2)
    (hc : c2 ≤ 150) (hs : s2 ≤ 13810) : LC σ c h D n xs i pc :=
  LC_int (D' := D) j (md_fr (Md_nil _ _)) (Or.inl rfl) j.1 j.2.2.2.1 (WfS_le j.2.2.1 (by omega)) (fun rm _ => m rm) B1 W BM (by omega) (by omega)
/-- the class throws, the model has the number -/
theorem LC_exc {mL mM pc pc1 : Nat} {aL aM : List Value} {cc ss c2 s2 : Nat} {k z : Int} (j : JI σ c h D n xs) (F : Fr (SCl D) cc ss h g) (rc : RC σ g D) (px : pixels (gZ g (D + 8))) (wk : wr k = k) (k0 : k ≠ 0) (wz : wr z = z) (m : RM σ g D → D + 8 < hnx g ∧ 75 < hnx g → MRs σ g D (rn mM 0 aM [] g) (.int (mI z)) k c2 s2)
    (B1 : ∀ v6 v7 v8, rn m_L_law pc (LL i v6 v7 v8) [] h = cl m_L_law pc1 (LL i v6 v7 v8) [] (rn mL 0 aL [] h))
    (W : rn mL 0 aL [] h = some (.inl (some (.int (mI k))), g))
    (BM : ∀ g h2 x z, SR g n xs → K10 g 51 → wr x = x → wr z = z → rn mM 0 aM [] g = some (.inl (some (.int (mI z))), h2) → K10 h2 51 → OUT h2 → fZ h2 51 0 = x → (x = 0 → gJ h2 74 0 = z) → ∀ v6 v7 v8, ∃ a b e, rn m_L_law pc1 (LL i v6 v7 v8) [.int (mI x)] g = rn m_L_law 2383 (LL i a b e) [] h2)
    (hc : cc + c2 ≤ 150) (hs : ss + s2 ≤ 13810) : LC σ c h D n xs i pc :=
  LC_all (D' := D) (V := .int (mI z)) (X := .int (mI k)) j F (Or.inl rfl) rc px (WfS_le j.2.2.1 (by omega)) (Md_nil _ _) m B1 (fun _ => W) (fun h2 _ sr k10 e k2 o2 f _ _ v6 v7 v8 => BM _ h2 k z sr k10 wk wz e k2 o2 f (fun q => absurd q k0) v6 v7 v8) hc (by omega)
/-- the same where nothing else has happened -/
theorem LC_x {mL mM pc pc1 : Nat} {aL aM : List Value} {c2 s2 : Nat} {k z : Int} (j : JI σ c h D n xs) (wk : wr k = k) (k0 : k ≠ 0) (wz : wr z = z) (m : RM σ (hexc h) D → MRs σ (hexc h) D (rn mM 0 aM [] (hexc h)) (.int (mI z)) k c2 s2)
    (B1 : ∀ v6 v7 v8, rn m_L_law pc (LL i v6 v7 v8) [] h = cl m_L_law pc1 (LL i v6 v7 v8) [] (rn mL 0 aL [] h))
    (W : rn mL 0 aL [] h = some (.inl (some (.int (mI k))), hexc h))
    (BM : ∀ g h2 x z, SR g n xs → K10 g 51 → wr x = x → wr z = z → rn mM 0 aM [] g = some (.inl (some (.int (mI z))), h2) → K10 h2 51 → OUT h2 → fZ h2 51 0 = x → (x = 0 → gJ h2 74 0 = z) → ∀ v6 v7 v8, ∃ a b e, rn m_L_law pc1 (LL i v6 v7 v8) [.int (mI x)] g = rn m_L_law 2383 (LL i a b e) [] h2)
    (hc : c2 ≤ 140) (hs : s2 ≤ 13800) : LC σ c h D n xs i pc :=
  LC_exc j (J_exc j).1 (J_exc j).2.1 (J_exc j).2.2 wk k0 wz (fun rm _ => m rm) B1 W BM (by omega) (by omega)
end LX
