/-! ===== what the class and the model both are ===== -/
/-- scalars, canvas, kept numbers, pictures' scalars, pictures' rows, what is shown, what the decoder keeps, whether clean -/
abbrev St : Type := (Nat → Int) × ((Int → Int) × ((Int → Int) × ((Int → Nat → Int) × ((Int → Nat → Int → Int) × ((Int → Int) × ((Int → Int → Int) × (Int → Int)))))))
def tz (σ : St) : Nat → Int := σ.1
def tc (σ : St) : Int → Int := σ.2.1
def tk (σ : St) : Int → Int := σ.2.2.1
def tpz (σ : St) : Int → Nat → Int := σ.2.2.2.1
def tpd (σ : St) : Int → Nat → Int → Int := σ.2.2.2.2.1
def tsp (σ : St) : Int → Int := σ.2.2.2.2.2.1
def tkp (σ : St) : Int → Int → Int := σ.2.2.2.2.2.2.1
def tkc (σ : St) : Int → Int := σ.2.2.2.2.2.2.2
def dyn (h : am_H) (D a : Nat) : Prop := 51 < a ∧ a < hnx h ∧ (a < D ∨ D + 8 < a)
/-- a cell of a picture of the class: the first one is made with it -/
def dyC (h : am_H) (D a : Nat) : Prop := (51 < a ∨ (7 ≤ a ∧ a ≤ 15)) ∧ a < hnx h ∧ (a < D ∨ D + 8 < a)
def isRow (h : am_H) (D a : Nat) (n : Int) (f : Int → Int) : Prop := dyn h D a ∧ (sh h a = (1, 0) ∧ (gn h a : Int) = n) ∧ ∀ i, 0 ≤ i → i < n → gZ h a i = f i
/-- a picture of the class -/
def PC (h : am_H) (D P : Nat) (z : Nat → Int) (d : Nat → Int → Int) : Prop := K6 h P ∧ ((51 < P ∨ P = 7) ∧ P + 8 < hnx h ∧ (P + 8 < D ∨ D + 8 < P)) ∧ (fZ h P 0 = z 0 ∧ fZ h P 1 = z 1 ∧ fZ h P 2 = z 2 ∧ fZ h P 3 = z 3 ∧ fZ h P 4 = z 4 ∧ fZ h P 5 = z 5 ∧ fZ h P 6 = z 6 ∧ fJ h P 7 = z 7) ∧ (∃ U, fA h P 8 = some U ∧ isRow h D U (z 8) (d 6)) ∧ (∃ U, fA h P 9 = some U ∧ isRow h D U (z 9) (d 7)) ∧ (∀ s, 0 ≤ s → s < 16 → gZ h (P + 3) s = d 0 s ∧ gZ h (P + 4) s = d 1 s ∧ gZ h (P + 5) s = d 2 s ∧ gZ h (P + 6) s = d 3 s) ∧ ∀ i, 0 ≤ i → i < 256 → gZ h (P + 7) i = d 4 i ∧ gZ h (P + 8) i = d 5 i
def RCs (σ : St) (h : am_H) : Prop := (fZ h 2 2 = tz σ 0 ∧ fZ h 2 3 = tz σ 1 ∧ fZ h 2 4 = tz σ 2 ∧ fZ h 2 5 = tz σ 3) ∧ (fZ h 5 0 = tz σ 4 ∧ fZ h 5 1 = tz σ 5 ∧ fZ h 5 2 = tz σ 6) ∧ fZ h 2 8 = tz σ 7 ∧ fZ h 2 11 = tz σ 8
def RCk (σ : St) (h : am_H) : Prop := ∀ j, 0 ≤ j → j < tz σ 8 → gZ h 16 j = tk σ j
def RCp (σ : St) (h : am_H) (D : Nat) : Prop := ∀ i, 0 ≤ i → i < tz σ 7 → ∃ P, gA h 6 i = some P ∧ PC h D P (tpz σ i) (tpd σ i)
def RCd (σ : St) (h : am_H) : Prop := (fZ h 36 3 = tz σ 9 ∧ fZ h 36 4 = tz σ 10 ∧ fZ h 36 5 = tz σ 11 ∧ fZ h 36 7 = tz σ 12 ∧ fZ h 36 10 = tz σ 13 ∧ fZ h 36 11 = tz σ 14) ∧ (∀ i, 0 ≤ i → i < 256 → gZ h 48 i = tsp σ i) ∧ (∀ j i, 0 ≤ j → j < 3 → 0 ≤ i → i < 256 → gZ h 49 (256 * j + i) = tkp σ j i) ∧ (∀ j, 0 ≤ j → j < 3 → gZ h 50 j = tkc σ j) ∧ pixels (gZ h 47)
/-- the class -/
def RC (σ : St) (h : am_H) (D : Nat) : Prop := K9 h 2 ∧ (fA h 2 9 = some D ∧ K6 h D ∧ ((51 < D ∨ D = 7) ∧ 51 < hnx h) ∧ D + 8 < hnx h) ∧ gZ h 3 = tc σ ∧ RCs σ h ∧ RCk σ h ∧ RCp σ h D ∧ RCd σ h ∧ RW h
/-- what a picture's numbers are -/
def PW (z : Nat → Int) (d : Nat → Int → Int) : Prop := isKind (z 0) ∧ (z 0 ≠ 105 → 0 ≤ z 1 ∧ z 1 < 3) ∧ (z 0 = 98 → 0 ≤ z 2 ∧ z 2 < 3) ∧ (1 ≤ z 3 ∧ z 3 ≤ 40) ∧ (0 ≤ z 4 ∧ z 4 ≤ 7) ∧ (z 5 = 1 ∨ z 5 = 2) ∧ (z 6 = 0 ∨ z 6 = 1) ∧ (0 ≤ z 7 ∧ z 7 ≤ 1000000000) ∧ (0 ≤ z 8 ∧ z 8 ≤ 4096) ∧ (0 ≤ z 9 ∧ z 9 ≤ 4096) ∧ pixels (d 5) ∧ (∀ s, 0 ≤ s → s < 16 → pdW d (z 0) (z 3) s) ∧ ∀ s, 0 ≤ s → s < 16 → (¬ (d 1 s = 4 ∨ d 1 s = 6) → d 2 s = -1) ∧ (¬ (d 1 s = 5 ∨ d 1 s = 6) → d 3 s = -1)
/-- what the numbers are, after so many calls -/
def WfS (σ : St) (c : Int) : Prop := ((1 ≤ tz σ 0 ∧ tz σ 0 ≤ 40) ∧ (0 ≤ tz σ 1 ∧ tz σ 1 ≤ 7) ∧ (tz σ 2 = 1 ∨ tz σ 2 = 2) ∧ (tz σ 3 = 0 ∨ tz σ 3 = 1) ∧ (0 ≤ tz σ 4 ∧ tz σ 4 ≤ 99999) ∧ (0 ≤ tz σ 5 ∧ tz σ 5 ≤ 99999) ∧ (0 ≤ tz σ 6 ∧ tz σ 6 ≤ 99999)) ∧ ((0 ≤ tz σ 7 ∧ tz σ 7 ≤ 12) ∧ (0 ≤ tz σ 8 ∧ tz σ 8 ≤ 3) ∧ ∀ j, 0 ≤ j → j < tz σ 8 → 0 ≤ tk σ j ∧ tk σ j < tz σ 7) ∧ pixels (tc σ) ∧ (∀ i, 0 ≤ i → i < tz σ 7 → PW (tpz σ i) (tpd σ i)) ∧ ((0 ≤ tz σ 9 ∧ tz σ 9 ≤ tz σ 7) ∧ (tz σ 10 = -1 ∨ (0 ≤ tz σ 10 ∧ tz σ 10 < tz σ 7)) ∧ (tz σ 11 = 0 ∨ tz σ 11 = 1) ∧ (0 ≤ tz σ 12 ∧ tz σ 12 ≤ 3) ∧ (0 ≤ tz σ 13 ∧ tz σ 13 ≤ c) ∧ (0 ≤ tz σ 14 ∧ tz σ 14 ≤ tz σ 13)) ∧ pixels (tsp σ) ∧ (∀ j, 0 ≤ j → j < 3 → pixels (tkp σ j) ∧ (tkc σ j = 0 ∨ tkc σ j = 1)) ∧ (∀ j, tz σ 12 ≤ j → j < 3 → 0 ≤ j → (∀ i, 0 ≤ i → i < 256 → tkp σ j i = 128) ∧ tkc σ j = 0) ∧ (tz σ 10 = -1 → ∀ i, 0 ≤ i → i < 256 → tsp σ i = 128)
/-- what the class's calls change, what the model's do -/
def SCl (D : Nat) : Nat → Nat → Prop := fun a _ => ((2 ≤ a ∧ a ≤ 6) ∨ (16 ≤ a ∧ a ≤ 50)) ∨ (D ≤ a ∧ a ≤ D + 8)
section ST
variable {S : Nat → Nat → Prop} {c s D D' : Nat} {h h' : am_H} {σ : St}
theorem isRow_fr {a : Nat} {n : Int} {f : Int → Int} (F : Fr S c s h h') (nS : ¬ S a 0) (hD : ∀ x, dyn h D x → dyn h' D' x) (r : isRow h D a n f) : isRow h' D' a n f :=
  ⟨hD a r.1, ⟨(F.1.sh1 r.1.2.1).trans r.2.1.1, by rw [F.1.gn1 r.1.2.1]; exact r.2.1.2⟩, fun i i0 i1 => (F.1.gZ1 i r.1.2.1 nS).trans (r.2.2 i i0 i1)⟩
theorem dyn_fr (F : Fr S c s h h') : ∀ x, dyn h D x → dyn h' D x := fun x q => ⟨q.1, Nat.lt_of_lt_of_le q.2.1 F.1.nx, q.2.2⟩
theorem dyn_new (F : Fr S c s h h') (hD : hnx h ≤ D') : ∀ x, dyn h D x → dyn h' D' x := fun x q => ⟨q.1, Nat.lt_of_lt_of_le q.2.1 F.1.nx, Or.inl (Nat.lt_of_lt_of_le q.2.1 hD)⟩
theorem PC_fr {P : Nat} {z : Nat → Int} {d : Nat → Int → Int} (F : Fr S c s h h') (hD : ∀ x, dyn h D x → dyn h' D' x) (hP : P + 8 < D' ∨ D' + 8 < P) (nS : ∀ a k, dyC h D a → ¬ S a k) (p : PC h D P z d) : PC h' D' P z d := by
  obtain ⟨p1, ⟨p2, p3, p4⟩, ⟨f0, f1, f2, f3, f4, f5, f6, f7⟩, ⟨U, u1, u2⟩, ⟨V, v1, v2⟩, g1, g2⟩ := p
  have nx := F.1.nx
  have nP : ∀ a k, P ≤ a → a ≤ P + 8 → ¬ S a k := fun a k a0 a1 => nS a k ⟨by omega, by omega, by omega⟩
  refine ⟨K6_fr F (by omega) p1, ⟨p2, by omega, hP⟩, ⟨?_, ?_, ?_, ?_, ?_, ?_, ?_, ?_⟩, ⟨U, ?_, isRow_fr F (nS _ _ ⟨Or.inl u2.1.1, u2.1.2⟩) hD u2⟩, ⟨V, ?_, isRow_fr F (nS _ _ ⟨Or.inl v2.1.1, v2.1.2⟩) hD v2⟩, fun s s0 s1 => ?_, fun i i0 i1 => ?_⟩
  · rw [F.1.fZ1 (by omega) (nP _ _ (by omega) (by omega))]; exact f0
  · rw [F.1.fZ1 (by omega) (nP _ _ (by omega) (by omega))]; exact f1
  · rw [F.1.fZ1 (by omega) (nP _ _ (by omega) (by omega))]; exact f2
  · rw [F.1.fZ1 (by omega) (nP _ _ (by omega) (by omega))]; exact f3
  · rw [F.1.fZ1 (by omega) (nP _ _ (by omega) (by omega))]; exact f4
  · rw [F.1.fZ1 (by omega) (nP _ _ (by omega) (by omega))]; exact f5
  · rw [F.1.fZ1 (by omega) (nP _ _ (by omega) (by omega))]; exact f6
  · rw [F.1.fJ1 (by omega) (nP _ _ (by omega) (by omega))]; exact f7
  · rw [F.1.fA1 (by omega) (nP _ _ (by omega) (by omega))]; exact u1
  · rw [F.1.fA1 (by omega) (nP _ _ (by omega) (by omega))]; exact v1
  · rw [F.1.gZ1 _ (by omega) (nP _ _ (by omega) (by omega)), F.1.gZ1 _ (by omega) (nP _ _ (by omega) (by omega)), F.1.gZ1 _ (by omega) (nP _ _ (by omega) (by omega)), F.1.gZ1 _ (by omega) (nP _ _ (by omega) (by omega))]
    exact g1 s s0 s1
  · rw [F.1.gZ1 _ (by omega) (nP _ _ (by omega) (by omega)), F.1.gZ1 _ (by omega) (nP _ _ (by omega) (by omega))]
    exact g2 i i0 i1
theorem RCs_fr (F : Fr S c s h h') (al : 51 < hnx h) (n2 : ∀ k, k ≤ 11 → ¬ S 2 k) (n5 : ∀ k, k ≤ 2 → ¬ S 5 k) (r : RCs σ h) : RCs σ h' := by
  obtain ⟨⟨a1, a2, a3, a4⟩, ⟨b1, b2, b3⟩, c1, d1⟩ := r
  have e := fun k (hk : k ≤ 11) => F.1.fZ1 (a := 2) (k := k) (by omega) (n2 k hk)
  have g := fun k (hk : k ≤ 2) => F.1.fZ1 (a := 5) (k := k) (by omega) (n5 k hk)
  exact ⟨⟨(e _ (by decide)).trans a1, (e _ (by decide)).trans a2, (e _ (by decide)).trans a3, (e _ (by decide)).trans a4⟩, ⟨(g _ (by decide)).trans b1, (g _ (by decide)).trans b2, (g _ (by decide)).trans b3⟩, (e _ (by decide)).trans c1, (e _ (by decide)).trans d1⟩
theorem RCk_fr (F : Fr S c s h h') (al : 51 < hnx h) (n : ¬ S 16 0) (r : RCk σ h) : RCk σ h' := fun j j0 j1 => (F.1.gZ1 _ (by omega) n).trans (r j j0 j1)
theorem RW_fr (F : Fr S c s h h') (al : 51 < hnx h) (n : ¬ S 0 0) (r : RW h) : RW h' := ⟨(F.1.gn1 (by omega)).trans r.1, (F.1.sh1 (by omega)).trans r.2.1, fun k k0 k1 => (F.1.gZ1 _ (by omega) n).trans (r.2.2 k k0 k1)⟩
theorem RCp_fr (F : Fr S c s h h') (al : 51 < hnx h) (n6 : ¬ S 6 0) (nd : ∀ a k, dyC h D a → ¬ S a k) (r : RCp σ h D) : RCp σ h' D := fun i i0 i1 => by
  obtain ⟨P, p1, p2⟩ := r i i0 i1
  exact ⟨P, by rw [F.1.gA1 (by omega) n6]; exact p1, PC_fr F (dyn_fr F) p2.2.1.2.2 nd p2⟩
theorem RCd_fr (F : Fr S c s h h') (al : 51 < hnx h) (nS : ∀ a k, 36 ≤ a → a ≤ 50 → ¬ S a k) (r : RCd σ h) : RCd σ h' := by
  obtain ⟨⟨a1, a2, a3, a4, a5, a6⟩, b1, b2, b3, b4⟩ := r
  have e := fun k => F.1.fZ1 (a := 36) (k := k) (by omega) (nS 36 k (by decide) (by decide))
  have g := fun a (h0 : 36 ≤ a) (ha : a ≤ 50) i => F.1.gZ1 (a := a) i (by omega) (nS a 0 h0 ha)
  exact ⟨⟨(e _).trans a1, (e _).trans a2, (e _).trans a3, (e _).trans a4, (e _).trans a5, (e _).trans a6⟩, fun i i0 i1 => (g 48 (by decide) (by decide) i).trans (b1 i i0 i1), fun j i j0 j1 i0 i1 => (g 49 (by decide) (by decide) _).trans (b2 j i j0 j1 i0 i1), fun j j0 j1 => (g 50 (by decide) (by decide) j).trans (b3 j j0 j1), fun i i0 i1 => by rw [g 47 (by decide) (by decide) i]; exact b4 i i0 i1⟩
theorem RCD_fr (F : Fr S c s h h') (al : 51 < hnx h) (n9 : ¬ S 2 9) (r : fA h 2 9 = some D ∧ K6 h D ∧ ((51 < D ∨ D = 7) ∧ 51 < hnx h) ∧ D + 8 < hnx h) : fA h' 2 9 = some D ∧ K6 h' D ∧ ((51 < D ∨ D = 7) ∧ 51 < hnx h') ∧ D + 8 < hnx h' := by
  have nx := F.1.nx
  exact ⟨(F.1.fA1 (by omega) n9).trans r.1, K6_fr F r.2.2.2 r.2.1, ⟨r.2.2.1.1, by omega⟩, by omega⟩
/-- what the model and the law do leaves the class -/
theorem RC_fr (F : Fr S c s h h') (al : 51 < hnx h) (hS : ∀ a k, S a k → 51 ≤ a ∧ a ≤ 51) (r : RC σ h D) : RC σ h' D := by
  obtain ⟨r1, r2, r6, r7, r8, r9, r10, rw⟩ := r
  have n50 : ∀ a k, a ≤ 50 → ¬ S a k := fun a k ha q => by have := hS a k q; omega
  have nd : ∀ a k, (51 < a ∨ (7 ≤ a ∧ a ≤ 15)) → ¬ S a k := fun a k ha q => by have := hS a k q; omega
  exact ⟨K9_fr F (by omega) r1, RCD_fr F al (n50 _ _ (by decide)) r2, (frZ F (by omega) (n50 _ _ (by decide))).trans r6, RCs_fr F al (fun k _ => n50 _ k (by decide)) (fun k _ => n50 _ k (by decide)) r7, RCk_fr F al (n50 _ _ (by decide)) r8, RCp_fr F al (n50 _ _ (by decide)) (fun a k q => nd a k q.1) r9, RCd_fr F al (fun a k _ ha => n50 a k ha) r10, RW_fr F al (n50 _ _ (by decide)) rw⟩
end ST
/-! ===== outcomes of calls ===== -/
/-- a call of the class that makes nothing: it answers, or throws and changes nothing -/
def CR (σ σ' : St) (h : am_H) (D : Nat) (r : Option am_Rs) (v : Value) (e : Option Nat) : Prop := (e = none ∧ ∃ h', r = some (.inl (some v), h') ∧ RC σ' h' D ∧ Md (SCl D) h h') ∨ (∃ x, e = some x ∧ r = some (.inr x, hexc h) ∧ σ' = σ)
theorem RC_exc {σ : St} {h : am_H} {D : Nat} (al : 51 < hnx h) (r : RC σ h D) : RC σ (hexc h) D := RC_fr (Fr_exc h) al (fun _ _ q => q.elim) r
