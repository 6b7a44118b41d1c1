/-! ===== static layouts, frames without allocation, loops ===== -/
def vr (c k : Nat) : Bool := (c == 6 && k == 8) || (c == 6 && k == 9) || (c == 7 && k == 2) || (c == 9 && k == 9) || (c == 10 && k == 27) || (c == 10 && k == 28) || (c == 10 && k == 29) || (c == 10 && k == 30) || (c == 10 && k == 31) || (c == 10 && k == 32) || (c == 10 && k == 41)
def Sm (h h' : am_H) : Prop := (∀ a, sh h' a = sh h a) ∧ (∀ a, gn h' a = gn h a) ∧ (∀ a c k, sh h a = (5, c) → vr c k = false → fA h' a k = fA h a k) ∧ hnx h' = hnx h ∧ hcl h' = hcl h ∧ hsl h' = hsl h
section SMS
variable {h h' h'' : am_H}
theorem Sm_rf (h : am_H) : Sm h h := ⟨fun _ => rfl, fun _ => rfl, fun _ _ _ _ _ => rfl, rfl, rfl, rfl⟩
theorem Sm_tr2 (m : Sm h h') (m' : Sm h' h'') : Sm h h'' := ⟨fun a => (m'.1 a).trans (m.1 a), fun a => (m'.2.1 a).trans (m.2.1 a), fun a c k s v => (m'.2.2.1 a c k ((m.1 a).trans s) v).trans (m.2.2.1 a c k s v), m'.2.2.2.1.trans m.2.2.2.1, m'.2.2.2.2.1.trans m.2.2.2.2.1, m'.2.2.2.2.2.trans m.2.2.2.2.2⟩
theorem Sm_tr (m' : Sm h' h'') (m : Sm h h') : Sm h h'' := Sm_tr2 m m'
theorem Sm_uI (h : am_H) (a : Nat) (f : Int → Int32) : Sm h (uI h a f) := ⟨sh_uI _ _ _, gn_uI _ _ _, fun _ _ _ _ _ => fA_uI _ _ _ _ _, hnx_uI _ _ _, hcl_uI _ _ _, hsl_uI _ _ _⟩
theorem Sm_uZ (h : am_H) (a : Nat) (i v : Int) : Sm h (uZ h a i v) := Sm_uI _ _ _
theorem Sm_uJ (h : am_H) (a : Nat) (i v : Int) : Sm h (uJ h a i v) := ⟨sh_uJ _ _ _ _, gn_uJ _ _ _ _, fun _ _ _ _ _ => fA_uJ _ _ _ _ _ _, hnx_uJ _ _ _ _, hcl_uJ _ _ _ _, hsl_uJ _ _ _ _⟩
theorem Sm_uD (h : am_H) (a : Nat) (i : Int) (v : UInt64) : Sm h (uD h a i v) := ⟨sh_uD _ _ _ _, gn_uD _ _ _ _, fun _ _ _ _ _ => fA_uD _ _ _ _ _ _, hnx_uD _ _ _ _, hcl_uD _ _ _ _, hsl_uD _ _ _ _⟩
theorem Sm_uA (h : am_H) (a : Nat) (i : Int) (r : Option Nat) : Sm h (uA h a i r) := ⟨sh_uA _ _ _ _, gn_uA _ _ _ _, fun _ _ _ _ _ => fA_uA _ _ _ _ _ _, hnx_uA _ _ _ _, hcl_uA _ _ _ _, hsl_uA _ _ _ _⟩
end SMS
theorem Sm_uF {c k : Nat} (hn : k < am_nf c) (hk : vr c k = true ∨ ∀ v, am_okV (am_ft c k) v = true → vA v = none) (h : am_H) (a : Nat) (v : Value) : Sm h (uF c h a k v) := by
  refine ⟨sh_uF _ _ _ _ _, gn_uF _ _ _ _ _, ?_, hnx_uF _ _ _ _ _, hcl_uF _ _ _ _ _, hsl_uF _ _ _ _ _⟩
  intro b c' j sb hv
  by_cases e : c_sh (.inr (c, am_fu (gV h a) k v)) = sh h a ∧ c_n (.inr (c, am_fu (gV h a) k v)) = gn h a ∧ (c_sh (.inr (c, am_fu (gV h a) k v))).1 ≠ 0
  · have hw : am_wf c (am_fu (gV h a) k v) = true := by
      have e3 := e.2.2
      simp only [c_sh] at e3
      split at e3
      · assumption
      · simp at e3
    have hs : sh h a = (5, c) := by rw [← e.1]; simp only [c_sh, hw, if_true]
    have hg : gV (uF c h a k v) a = am_fu (gV h a) k v := hupd_eq c_V _ e
    by_cases eb : b = a
    · subst eb
      rw [hs] at sb
      cases sb
      unfold fA
      rw [hg]
      by_cases ej : j = k
      · subst ej
        rcases hk with h1 | h1
        · rw [h1] at hv; cases hv
        · have w1 := am_wf_iff.mp hw j hn
          have w2 := am_wf_iff.mp (sh_5 hs).2 j hn
          rw [h1 _ w1, h1 _ w2]
      · unfold am_fu; rw [if_neg ej]
    · unfold fA; rw [gV_uF_ne _ _ _ _ _ eb]
  · unfold uF hupd; rw [if_neg e]
theorem nA_I {v : Value} (q : am_okV .int v = true) : vA v = none := by cases v <;> first | rfl | (simp [am_okV] at q)
theorem nA_Z {v : Value} (q : am_okV .boolean v = true) : vA v = none := by cases v <;> first | rfl | (simp [am_okV] at q)
theorem nA_C {v : Value} (q : am_okV .char v = true) : vA v = none := by cases v <;> first | rfl | (simp [am_okV] at q)
theorem nA_J {v : Value} (q : am_okV .long v = true) : vA v = none := by cases v <;> first | rfl | (simp [am_okV] at q)
theorem Sm_uF_0_0 (h : am_H) (a : Nat) (v : Value) : Sm h (uF 0 h a 0 v) := Sm_uF (c := 0) (k := 0) (by decide) (Or.inr fun _ q => nA_I q) h a v
theorem Sm_uF_0_1 (h : am_H) (a : Nat) (v : Value) : Sm h (uF 0 h a 1 v) := Sm_uF (c := 0) (k := 1) (by decide) (Or.inr fun _ q => nA_I q) h a v
theorem Sm_uF_0_2 (h : am_H) (a : Nat) (v : Value) : Sm h (uF 0 h a 2 v) := Sm_uF (c := 0) (k := 2) (by decide) (Or.inr fun _ q => nA_I q) h a v
theorem Sm_uF_1_4 (h : am_H) (a : Nat) (v : Value) : Sm h (uF 1 h a 4 v) := Sm_uF (c := 1) (k := 4) (by decide) (Or.inr fun _ q => nA_I q) h a v
theorem Sm_uF_1_5 (h : am_H) (a : Nat) (v : Value) : Sm h (uF 1 h a 5 v) := Sm_uF (c := 1) (k := 5) (by decide) (Or.inr fun _ q => nA_I q) h a v
theorem Sm_uF_3_3 (h : am_H) (a : Nat) (v : Value) : Sm h (uF 3 h a 3 v) := Sm_uF (c := 3) (k := 3) (by decide) (Or.inr fun _ q => nA_I q) h a v
theorem Sm_uF_3_4 (h : am_H) (a : Nat) (v : Value) : Sm h (uF 3 h a 4 v) := Sm_uF (c := 3) (k := 4) (by decide) (Or.inr fun _ q => nA_I q) h a v
theorem Sm_uF_3_5 (h : am_H) (a : Nat) (v : Value) : Sm h (uF 3 h a 5 v) := Sm_uF (c := 3) (k := 5) (by decide) (Or.inr fun _ q => nA_Z q) h a v
theorem Sm_uF_3_7 (h : am_H) (a : Nat) (v : Value) : Sm h (uF 3 h a 7 v) := Sm_uF (c := 3) (k := 7) (by decide) (Or.inr fun _ q => nA_I q) h a v
theorem Sm_uF_3_10 (h : am_H) (a : Nat) (v : Value) : Sm h (uF 3 h a 10 v) := Sm_uF (c := 3) (k := 10) (by decide) (Or.inr fun _ q => nA_I q) h a v
theorem Sm_uF_3_11 (h : am_H) (a : Nat) (v : Value) : Sm h (uF 3 h a 11 v) := Sm_uF (c := 3) (k := 11) (by decide) (Or.inr fun _ q => nA_I q) h a v
theorem Sm_uF_5_0 (h : am_H) (a : Nat) (v : Value) : Sm h (uF 5 h a 0 v) := Sm_uF (c := 5) (k := 0) (by decide) (Or.inr fun _ q => nA_I q) h a v
theorem Sm_uF_5_1 (h : am_H) (a : Nat) (v : Value) : Sm h (uF 5 h a 1 v) := Sm_uF (c := 5) (k := 1) (by decide) (Or.inr fun _ q => nA_I q) h a v
theorem Sm_uF_5_2 (h : am_H) (a : Nat) (v : Value) : Sm h (uF 5 h a 2 v) := Sm_uF (c := 5) (k := 2) (by decide) (Or.inr fun _ q => nA_I q) h a v
theorem Sm_uF_5_3 (h : am_H) (a : Nat) (v : Value) : Sm h (uF 5 h a 3 v) := Sm_uF (c := 5) (k := 3) (by decide) (Or.inr fun _ q => nA_I q) h a v
theorem Sm_uF_5_4 (h : am_H) (a : Nat) (v : Value) : Sm h (uF 5 h a 4 v) := Sm_uF (c := 5) (k := 4) (by decide) (Or.inr fun _ q => nA_I q) h a v
theorem Sm_uF_5_5 (h : am_H) (a : Nat) (v : Value) : Sm h (uF 5 h a 5 v) := Sm_uF (c := 5) (k := 5) (by decide) (Or.inr fun _ q => nA_I q) h a v
theorem Sm_uF_5_6 (h : am_H) (a : Nat) (v : Value) : Sm h (uF 5 h a 6 v) := Sm_uF (c := 5) (k := 6) (by decide) (Or.inr fun _ q => nA_I q) h a v
theorem Sm_uF_6_0 (h : am_H) (a : Nat) (v : Value) : Sm h (uF 6 h a 0 v) := Sm_uF (c := 6) (k := 0) (by decide) (Or.inr fun _ q => nA_C q) h a v
theorem Sm_uF_6_1 (h : am_H) (a : Nat) (v : Value) : Sm h (uF 6 h a 1 v) := Sm_uF (c := 6) (k := 1) (by decide) (Or.inr fun _ q => nA_I q) h a v
theorem Sm_uF_6_2 (h : am_H) (a : Nat) (v : Value) : Sm h (uF 6 h a 2 v) := Sm_uF (c := 6) (k := 2) (by decide) (Or.inr fun _ q => nA_I q) h a v
theorem Sm_uF_6_3 (h : am_H) (a : Nat) (v : Value) : Sm h (uF 6 h a 3 v) := Sm_uF (c := 6) (k := 3) (by decide) (Or.inr fun _ q => nA_I q) h a v
theorem Sm_uF_6_4 (h : am_H) (a : Nat) (v : Value) : Sm h (uF 6 h a 4 v) := Sm_uF (c := 6) (k := 4) (by decide) (Or.inr fun _ q => nA_I q) h a v
theorem Sm_uF_6_5 (h : am_H) (a : Nat) (v : Value) : Sm h (uF 6 h a 5 v) := Sm_uF (c := 6) (k := 5) (by decide) (Or.inr fun _ q => nA_I q) h a v
theorem Sm_uF_6_6 (h : am_H) (a : Nat) (v : Value) : Sm h (uF 6 h a 6 v) := Sm_uF (c := 6) (k := 6) (by decide) (Or.inr fun _ q => nA_Z q) h a v
theorem Sm_uF_6_7 (h : am_H) (a : Nat) (v : Value) : Sm h (uF 6 h a 7 v) := Sm_uF (c := 6) (k := 7) (by decide) (Or.inr fun _ q => nA_J q) h a v
theorem Sm_uF_6_8 (h : am_H) (a : Nat) (v : Value) : Sm h (uF 6 h a 8 v) := Sm_uF (c := 6) (k := 8) (by decide) (Or.inl rfl) h a v
theorem Sm_uF_6_9 (h : am_H) (a : Nat) (v : Value) : Sm h (uF 6 h a 9 v) := Sm_uF (c := 6) (k := 9) (by decide) (Or.inl rfl) h a v
theorem Sm_uF_7_2 (h : am_H) (a : Nat) (v : Value) : Sm h (uF 7 h a 2 v) := Sm_uF (c := 7) (k := 2) (by decide) (Or.inl rfl) h a v
theorem Sm_uF_8_2 (h : am_H) (a : Nat) (v : Value) : Sm h (uF 8 h a 2 v) := Sm_uF (c := 8) (k := 2) (by decide) (Or.inr fun _ q => nA_I q) h a v
theorem Sm_uF_8_3 (h : am_H) (a : Nat) (v : Value) : Sm h (uF 8 h a 3 v) := Sm_uF (c := 8) (k := 3) (by decide) (Or.inr fun _ q => nA_J q) h a v
theorem Sm_uF_8_4 (h : am_H) (a : Nat) (v : Value) : Sm h (uF 8 h a 4 v) := Sm_uF (c := 8) (k := 4) (by decide) (Or.inr fun _ q => nA_J q) h a v
theorem Sm_uF_9_2 (h : am_H) (a : Nat) (v : Value) : Sm h (uF 9 h a 2 v) := Sm_uF (c := 9) (k := 2) (by decide) (Or.inr fun _ q => nA_I q) h a v
theorem Sm_uF_9_3 (h : am_H) (a : Nat) (v : Value) : Sm h (uF 9 h a 3 v) := Sm_uF (c := 9) (k := 3) (by decide) (Or.inr fun _ q => nA_I q) h a v
theorem Sm_uF_9_4 (h : am_H) (a : Nat) (v : Value) : Sm h (uF 9 h a 4 v) := Sm_uF (c := 9) (k := 4) (by decide) (Or.inr fun _ q => nA_I q) h a v
theorem Sm_uF_9_5 (h : am_H) (a : Nat) (v : Value) : Sm h (uF 9 h a 5 v) := Sm_uF (c := 9) (k := 5) (by decide) (Or.inr fun _ q => nA_Z q) h a v
theorem Sm_uF_9_8 (h : am_H) (a : Nat) (v : Value) : Sm h (uF 9 h a 8 v) := Sm_uF (c := 9) (k := 8) (by decide) (Or.inr fun _ q => nA_I q) h a v
theorem Sm_uF_9_9 (h : am_H) (a : Nat) (v : Value) : Sm h (uF 9 h a 9 v) := Sm_uF (c := 9) (k := 9) (by decide) (Or.inl rfl) h a v
theorem Sm_uF_9_11 (h : am_H) (a : Nat) (v : Value) : Sm h (uF 9 h a 11 v) := Sm_uF (c := 9) (k := 11) (by decide) (Or.inr fun _ q => nA_I q) h a v
/-! frames with allocation that keep the static references -/
def Fr (S : Nat → Nat → Prop) (c s : Nat) (h h' : am_H) : Prop := Fx S c s h h' ∧ ∀ a c k, a < hnx h → sh h a = (5, c) → vr c k = false → fA h' a k = fA h a k
section FRS
variable {S T : Nat → Nat → Prop} {c s c' s' : Nat} {h h' h'' : am_H}
theorem Fr_rf (S : Nat → Nat → Prop) (h : am_H) : Fr S 0 0 h h := ⟨Fx.refl S 0 0 h, fun _ _ _ _ _ _ => rfl⟩
theorem Fr_tr (F : Fr S c s h h') (G : Fr T c' s' h' h'') {U : Nat → Nat → Prop} (q : ∀ a k, a < hnx h → S a k → U a k) (q' : ∀ a k, a < hnx h → T a k → U a k) : Fr U (c + c') (s + s') h h'' :=
  ⟨(F.1.trans G.1).mono (fun a k ha x => x.elim (q a k ha) (q' a k ha)) (Nat.le_refl _) (Nat.le_refl _), fun a c k ha hs hv => (G.2 a c k (Nat.lt_of_lt_of_le ha F.1.nx) ((F.1.sh1 ha).trans hs) hv).trans (F.2 a c k ha hs hv)⟩
theorem Fr_mono (F : Fr S c s h h') (q : ∀ a k, a < hnx h → S a k → T a k) (hc : c ≤ c') (hs : s ≤ s') : Fr T c' s' h h' := ⟨F.1.mono q hc hs, F.2⟩
theorem Fr_alc (h : am_H) (n : Nat) (c : am_C) : Fr (fun _ _ => False) 1 n h (halc h n c) := ⟨Fx_alc h n c, fun a _ k ha _ _ => (Fx_alc h n c).fA1 ha (fun x => x)⟩
theorem Fr_exc (h : am_H) : Fr (fun _ _ => False) 1 6 h (hexc h) := ⟨Fx_exc h, fun _ _ _ _ _ _ => rfl⟩
end FRS

def K0 (h : am_H) (a : Nat) : Prop := sh h a = (5, 0)
theorem K0_s {h : am_H} {a : Nat} (q : K0 h a) : sh h a = (5, 0) := q
theorem K0_sm {h h' : am_H} {a : Nat} (m : Sm h h') (q : K0 h a) : K0 h' a := (m.1 _).trans q
theorem K0_fr {S : Nat → Nat → Prop} {c s : Nat} {h h' : am_H} {a : Nat} (F : Fr S c s h h') (ha : a + 0 < hnx h) (q : K0 h a) : K0 h' a := (F.1.sh1 (by omega)).trans q
def K5 (h : am_H) (a : Nat) : Prop := sh h a = (5, 5)
theorem K5_s {h : am_H} {a : Nat} (q : K5 h a) : sh h a = (5, 5) := q
theorem K5_sm {h h' : am_H} {a : Nat} (m : Sm h h') (q : K5 h a) : K5 h' a := (m.1 _).trans q
theorem K5_fr {S : Nat → Nat → Prop} {c s : Nat} {h h' : am_H} {a : Nat} (F : Fr S c s h h') (ha : a + 0 < hnx h) (q : K5 h a) : K5 h' a := (F.1.sh1 (by omega)).trans q
def K4 (h : am_H) (a : Nat) : Prop := sh h a = (5, 4) ∧ fA h a 0 = some (a + 1) ∧ sh h (a + 1) = (1, 0) ∧ gn h (a + 1) = 2209
theorem K4_s {h : am_H} {a : Nat} (q : K4 h a) : sh h a = (5, 4) := q.1
theorem K4_e0 {h : am_H} {a : Nat} (q : K4 h a) : fA h a 0 = some (a + 1) := q.2.1
theorem K4_s0 {h : am_H} {a : Nat} (q : K4 h a) : sh h (a + 1) = (1, 0) := q.2.2.1
theorem K4_n0 {h : am_H} {a : Nat} (q : K4 h a) : gn h (a + 1) = 2209 := q.2.2.2
theorem K4_sm {h h' : am_H} {a : Nat} (m : Sm h h') (q : K4 h a) : K4 h' a := ⟨(m.1 _).trans q.1, (m.2.2.1 _ _ _ (K4_s q) rfl).trans q.2.1, (m.1 _).trans q.2.2.1, (m.2.1 _).trans q.2.2.2⟩
theorem K4_fr {S : Nat → Nat → Prop} {c s : Nat} {h h' : am_H} {a : Nat} (F : Fr S c s h h') (ha : a + 1 < hnx h) (q : K4 h a) : K4 h' a := ⟨(F.1.sh1 (by omega)).trans q.1, (F.2 _ _ _ (by omega) (K4_s q) rfl).trans q.2.1, (F.1.sh1 (by omega)).trans q.2.2.1, (F.1.gn1 (by omega)).trans q.2.2.2⟩
def K1 (h : am_H) (a : Nat) : Prop := sh h a = (5, 1) ∧ fA h a 0 = some (a + 1) ∧ K4 h (a + 1) ∧ fA h a 1 = some (a + 3) ∧ K4 h (a + 3) ∧ fA h a 2 = some (a + 5) ∧ sh h (a + 5) = (1, 0) ∧ gn h (a + 5) = 8 ∧ fA h a 3 = some (a + 6) ∧ sh h (a + 6) = (1, 0) ∧ gn h (a + 6) = 8 ∧ fA h a 6 = some (a + 7) ∧ sh h (a + 7) = (1, 0) ∧ gn h (a + 7) = 256 ∧ fA h a 7 = some (a + 8) ∧ sh h (a + 8) = (1, 0) ∧ gn h (a + 8) = 16
theorem K1_s {h : am_H} {a : Nat} (q : K1 h a) : sh h a = (5, 1) := q.1
theorem K1_e0 {h : am_H} {a : Nat} (q : K1 h a) : fA h a 0 = some (a + 1) := q.2.1
theorem K1_k0 {h : am_H} {a : Nat} (q : K1 h a) : K4 h (a + 1) := q.2.2.1
theorem K1_e1 {h : am_H} {a : Nat} (q : K1 h a) : fA h a 1 = some (a + 3) := q.2.2.2.1
theorem K1_k1 {h : am_H} {a : Nat} (q : K1 h a) : K4 h (a + 3) := q.2.2.2.2.1
theorem K1_e2 {h : am_H} {a : Nat} (q : K1 h a) : fA h a 2 = some (a + 5) := q.2.2.2.2.2.1
theorem K1_s2 {h : am_H} {a : Nat} (q : K1 h a) : sh h (a + 5) = (1, 0) := q.2.2.2.2.2.2.1
theorem K1_n2 {h : am_H} {a : Nat} (q : K1 h a) : gn h (a + 5) = 8 := q.2.2.2.2.2.2.2.1
theorem K1_e3 {h : am_H} {a : Nat} (q : K1 h a) : fA h a 3 = some (a + 6) := q.2.2.2.2.2.2.2.2.1
theorem K1_s3 {h : am_H} {a : Nat} (q : K1 h a) : sh h (a + 6) = (1, 0) := q.2.2.2.2.2.2.2.2.2.1
theorem K1_n3 {h : am_H} {a : Nat} (q : K1 h a) : gn h (a + 6) = 8 := q.2.2.2.2.2.2.2.2.2.2.1
theorem K1_e6 {h : am_H} {a : Nat} (q : K1 h a) : fA h a 6 = some (a + 7) := q.2.2.2.2.2.2.2.2.2.2.2.1
theorem K1_s6 {h : am_H} {a : Nat} (q : K1 h a) : sh h (a + 7) = (1, 0) := q.2.2.2.2.2.2.2.2.2.2.2.2.1
theorem K1_n6 {h : am_H} {a : Nat} (q : K1 h a) : gn h (a + 7) = 256 := q.2.2.2.2.2.2.2.2.2.2.2.2.2.1
theorem K1_e7 {h : am_H} {a : Nat} (q : K1 h a) : fA h a 7 = some (a + 8) := q.2.2.2.2.2.2.2.2.2.2.2.2.2.2.1
theorem K1_s7 {h : am_H} {a : Nat} (q : K1 h a) : sh h (a + 8) = (1, 0) := q.2.2.2.2.2.2.2.2.2.2.2.2.2.2.2.1
theorem K1_n7 {h : am_H} {a : Nat} (q : K1 h a) : gn h (a + 8) = 16 := q.2.2.2.2.2.2.2.2.2.2.2.2.2.2.2.2
theorem K1_sm {h h' : am_H} {a : Nat} (m : Sm h h') (q : K1 h a) : K1 h' a := ⟨(m.1 _).trans q.1, (m.2.2.1 _ _ _ (K1_s q) rfl).trans q.2.1, K4_sm m q.2.2.1, (m.2.2.1 _ _ _ (K1_s q) rfl).trans q.2.2.2.1, K4_sm m q.2.2.2.2.1, (m.2.2.1 _ _ _ (K1_s q) rfl).trans q.2.2.2.2.2.1, (m.1 _).trans q.2.2.2.2.2.2.1, (m.2.1 _).trans q.2.2.2.2.2.2.2.1, (m.2.2.1 _ _ _ (K1_s q) rfl).trans q.2.2.2.2.2.2.2.2.1, (m.1 _).trans q.2.2.2.2.2.2.2.2.2.1, (m.2.1 _).trans q.2.2.2.2.2.2.2.2.2.2.1, (m.2.2.1 _ _ _ (K1_s q) rfl).trans q.2.2.2.2.2.2.2.2.2.2.2.1, (m.1 _).trans q.2.2.2.2.2.2.2.2.2.2.2.2.1, (m.2.1 _).trans q.2.2.2.2.2.2.2.2.2.2.2.2.2.1, (m.2.2.1 _ _ _ (K1_s q) rfl).trans q.2.2.2.2.2.2.2.2.2.2.2.2.2.2.1, (m.1 _).trans q.2.2.2.2.2.2.2.2.2.2.2.2.2.2.2.1, (m.2.1 _).trans q.2.2.2.2.2.2.2.2.2.2.2.2.2.2.2.2⟩
theorem K1_fr {S : Nat → Nat → Prop} {c s : Nat} {h h' : am_H} {a : Nat} (F : Fr S c s h h') (ha : a + 8 < hnx h) (q : K1 h a) : K1 h' a := ⟨(F.1.sh1 (by omega)).trans q.1, (F.2 _ _ _ (by omega) (K1_s q) rfl).trans q.2.1, K4_fr F (by omega) q.2.2.1, (F.2 _ _ _ (by omega) (K1_s q) rfl).trans q.2.2.2.1, K4_fr F (by omega) q.2.2.2.2.1, (F.2 _ _ _ (by omega) (K1_s q) rfl).trans q.2.2.2.2.2.1, (F.1.sh1 (by omega)).trans q.2.2.2.2.2.2.1, (F.1.gn1 (by omega)).trans q.2.2.2.2.2.2.2.1, (F.2 _ _ _ (by omega) (K1_s q) rfl).trans q.2.2.2.2.2.2.2.2.1, (F.1.sh1 (by omega)).trans q.2.2.2.2.2.2.2.2.2.1, (F.1.gn1 (by omega)).trans q.2.2.2.2.2.2.2.2.2.2.1, (F.2 _ _ _ (by omega) (K1_s q) rfl).trans q.2.2.2.2.2.2.2.2.2.2.2.1, (F.1.sh1 (by omega)).trans q.2.2.2.2.2.2.2.2.2.2.2.2.1, (F.1.gn1 (by omega)).trans q.2.2.2.2.2.2.2.2.2.2.2.2.2.1, (F.2 _ _ _ (by omega) (K1_s q) rfl).trans q.2.2.2.2.2.2.2.2.2.2.2.2.2.2.1, (F.1.sh1 (by omega)).trans q.2.2.2.2.2.2.2.2.2.2.2.2.2.2.2.1, (F.1.gn1 (by omega)).trans q.2.2.2.2.2.2.2.2.2.2.2.2.2.2.2.2⟩
def K2 (h : am_H) (a : Nat) : Prop := sh h a = (5, 2) ∧ fA h a 0 = some (a + 1) ∧ K1 h (a + 1) ∧ fA h a 1 = some (a + 10) ∧ K5 h (a + 10)
theorem K2_s {h : am_H} {a : Nat} (q : K2 h a) : sh h a = (5, 2) := q.1
theorem K2_e0 {h : am_H} {a : Nat} (q : K2 h a) : fA h a 0 = some (a + 1) := q.2.1
theorem K2_k0 {h : am_H} {a : Nat} (q : K2 h a) : K1 h (a + 1) := q.2.2.1
theorem K2_e1 {h : am_H} {a : Nat} (q : K2 h a) : fA h a 1 = some (a + 10) := q.2.2.2.1
theorem K2_k1 {h : am_H} {a : Nat} (q : K2 h a) : K5 h (a + 10) := q.2.2.2.2
theorem K2_sm {h h' : am_H} {a : Nat} (m : Sm h h') (q : K2 h a) : K2 h' a := ⟨(m.1 _).trans q.1, (m.2.2.1 _ _ _ (K2_s q) rfl).trans q.2.1, K1_sm m q.2.2.1, (m.2.2.1 _ _ _ (K2_s q) rfl).trans q.2.2.2.1, K5_sm m q.2.2.2.2⟩
theorem K2_fr {S : Nat → Nat → Prop} {c s : Nat} {h h' : am_H} {a : Nat} (F : Fr S c s h h') (ha : a + 10 < hnx h) (q : K2 h a) : K2 h' a := ⟨(F.1.sh1 (by omega)).trans q.1, (F.2 _ _ _ (by omega) (K2_s q) rfl).trans q.2.1, K1_fr F (by omega) q.2.2.1, (F.2 _ _ _ (by omega) (K2_s q) rfl).trans q.2.2.2.1, K5_fr F (by omega) q.2.2.2.2⟩
def K8 (h : am_H) (a : Nat) : Prop := sh h a = (5, 8) ∧ fA h a 0 = some (a + 1) ∧ sh h (a + 1) = (1, 0) ∧ gn h (a + 1) = 70 ∧ fA h a 1 = some (a + 2) ∧ sh h (a + 2) = (1, 0) ∧ gn h (a + 2) = 4096
theorem K8_s {h : am_H} {a : Nat} (q : K8 h a) : sh h a = (5, 8) := q.1
theorem K8_e0 {h : am_H} {a : Nat} (q : K8 h a) : fA h a 0 = some (a + 1) := q.2.1
theorem K8_s0 {h : am_H} {a : Nat} (q : K8 h a) : sh h (a + 1) = (1, 0) := q.2.2.1
theorem K8_n0 {h : am_H} {a : Nat} (q : K8 h a) : gn h (a + 1) = 70 := q.2.2.2.1
theorem K8_e1 {h : am_H} {a : Nat} (q : K8 h a) : fA h a 1 = some (a + 2) := q.2.2.2.2.1
theorem K8_s1 {h : am_H} {a : Nat} (q : K8 h a) : sh h (a + 2) = (1, 0) := q.2.2.2.2.2.1
theorem K8_n1 {h : am_H} {a : Nat} (q : K8 h a) : gn h (a + 2) = 4096 := q.2.2.2.2.2.2
theorem K8_sm {h h' : am_H} {a : Nat} (m : Sm h h') (q : K8 h a) : K8 h' a := ⟨(m.1 _).trans q.1, (m.2.2.1 _ _ _ (K8_s q) rfl).trans q.2.1, (m.1 _).trans q.2.2.1, (m.2.1 _).trans q.2.2.2.1, (m.2.2.1 _ _ _ (K8_s q) rfl).trans q.2.2.2.2.1, (m.1 _).trans q.2.2.2.2.2.1, (m.2.1 _).trans q.2.2.2.2.2.2⟩
theorem K8_fr {S : Nat → Nat → Prop} {c s : Nat} {h h' : am_H} {a : Nat} (F : Fr S c s h h') (ha : a + 2 < hnx h) (q : K8 h a) : K8 h' a := ⟨(F.1.sh1 (by omega)).trans q.1, (F.2 _ _ _ (by omega) (K8_s q) rfl).trans q.2.1, (F.1.sh1 (by omega)).trans q.2.2.1, (F.1.gn1 (by omega)).trans q.2.2.2.1, (F.2 _ _ _ (by omega) (K8_s q) rfl).trans q.2.2.2.2.1, (F.1.sh1 (by omega)).trans q.2.2.2.2.2.1, (F.1.gn1 (by omega)).trans q.2.2.2.2.2.2⟩
def K7 (h : am_H) (a : Nat) : Prop := sh h a = (5, 7) ∧ fA h a 0 = some (a + 1) ∧ K8 h (a + 1) ∧ fA h a 1 = some (a + 4) ∧ K8 h (a + 4) ∧ fA h a 3 = some (a + 7) ∧ K5 h (a + 7)
theorem K7_s {h : am_H} {a : Nat} (q : K7 h a) : sh h a = (5, 7) := q.1
theorem K7_e0 {h : am_H} {a : Nat} (q : K7 h a) : fA h a 0 = some (a + 1) := q.2.1
theorem K7_k0 {h : am_H} {a : Nat} (q : K7 h a) : K8 h (a + 1) := q.2.2.1
theorem K7_e1 {h : am_H} {a : Nat} (q : K7 h a) : fA h a 1 = some (a + 4) := q.2.2.2.1
theorem K7_k1 {h : am_H} {a : Nat} (q : K7 h a) : K8 h (a + 4) := q.2.2.2.2.1
theorem K7_e3 {h : am_H} {a : Nat} (q : K7 h a) : fA h a 3 = some (a + 7) := q.2.2.2.2.2.1
theorem K7_k3 {h : am_H} {a : Nat} (q : K7 h a) : K5 h (a + 7) := q.2.2.2.2.2.2
theorem K7_sm {h h' : am_H} {a : Nat} (m : Sm h h') (q : K7 h a) : K7 h' a := ⟨(m.1 _).trans q.1, (m.2.2.1 _ _ _ (K7_s q) rfl).trans q.2.1, K8_sm m q.2.2.1, (m.2.2.1 _ _ _ (K7_s q) rfl).trans q.2.2.2.1, K8_sm m q.2.2.2.2.1, (m.2.2.1 _ _ _ (K7_s q) rfl).trans q.2.2.2.2.2.1, K5_sm m q.2.2.2.2.2.2⟩
theorem K7_fr {S : Nat → Nat → Prop} {c s : Nat} {h h' : am_H} {a : Nat} (F : Fr S c s h h') (ha : a + 7 < hnx h) (q : K7 h a) : K7 h' a := ⟨(F.1.sh1 (by omega)).trans q.1, (F.2 _ _ _ (by omega) (K7_s q) rfl).trans q.2.1, K8_fr F (by omega) q.2.2.1, (F.2 _ _ _ (by omega) (K7_s q) rfl).trans q.2.2.2.1, K8_fr F (by omega) q.2.2.2.2.1, (F.2 _ _ _ (by omega) (K7_s q) rfl).trans q.2.2.2.2.2.1, K5_fr F (by omega) q.2.2.2.2.2.2⟩
def K3 (h : am_H) (a : Nat) : Prop := sh h a = (5, 3) ∧ fA h a 0 = some (a + 1) ∧ K1 h (a + 1) ∧ fA h a 1 = some (a + 10) ∧ K5 h (a + 10) ∧ fA h a 2 = some (a + 11) ∧ sh h (a + 11) = (1, 0) ∧ gn h (a + 11) = 256 ∧ fA h a 6 = some (a + 12) ∧ sh h (a + 12) = (1, 0) ∧ gn h (a + 12) = 256 ∧ fA h a 8 = some (a + 13) ∧ sh h (a + 13) = (1, 0) ∧ gn h (a + 13) = 768 ∧ fA h a 9 = some (a + 14) ∧ sh h (a + 14) = (1, 0) ∧ gn h (a + 14) = 3
theorem K3_s {h : am_H} {a : Nat} (q : K3 h a) : sh h a = (5, 3) := q.1
theorem K3_e0 {h : am_H} {a : Nat} (q : K3 h a) : fA h a 0 = some (a + 1) := q.2.1
theorem K3_k0 {h : am_H} {a : Nat} (q : K3 h a) : K1 h (a + 1) := q.2.2.1
theorem K3_e1 {h : am_H} {a : Nat} (q : K3 h a) : fA h a 1 = some (a + 10) := q.2.2.2.1
theorem K3_k1 {h : am_H} {a : Nat} (q : K3 h a) : K5 h (a + 10) := q.2.2.2.2.1
theorem K3_e2 {h : am_H} {a : Nat} (q : K3 h a) : fA h a 2 = some (a + 11) := q.2.2.2.2.2.1
theorem K3_s2 {h : am_H} {a : Nat} (q : K3 h a) : sh h (a + 11) = (1, 0) := q.2.2.2.2.2.2.1
theorem K3_n2 {h : am_H} {a : Nat} (q : K3 h a) : gn h (a + 11) = 256 := q.2.2.2.2.2.2.2.1
theorem K3_e6 {h : am_H} {a : Nat} (q : K3 h a) : fA h a 6 = some (a + 12) := q.2.2.2.2.2.2.2.2.1
theorem K3_s6 {h : am_H} {a : Nat} (q : K3 h a) : sh h (a + 12) = (1, 0) := q.2.2.2.2.2.2.2.2.2.1
theorem K3_n6 {h : am_H} {a : Nat} (q : K3 h a) : gn h (a + 12) = 256 := q.2.2.2.2.2.2.2.2.2.2.1
theorem K3_e8 {h : am_H} {a : Nat} (q : K3 h a) : fA h a 8 = some (a + 13) := q.2.2.2.2.2.2.2.2.2.2.2.1
theorem K3_s8 {h : am_H} {a : Nat} (q : K3 h a) : sh h (a + 13) = (1, 0) := q.2.2.2.2.2.2.2.2.2.2.2.2.1
theorem K3_n8 {h : am_H} {a : Nat} (q : K3 h a) : gn h (a + 13) = 768 := q.2.2.2.2.2.2.2.2.2.2.2.2.2.1
theorem K3_e9 {h : am_H} {a : Nat} (q : K3 h a) : fA h a 9 = some (a + 14) := q.2.2.2.2.2.2.2.2.2.2.2.2.2.2.1
theorem K3_s9 {h : am_H} {a : Nat} (q : K3 h a) : sh h (a + 14) = (1, 0) := q.2.2.2.2.2.2.2.2.2.2.2.2.2.2.2.1
theorem K3_n9 {h : am_H} {a : Nat} (q : K3 h a) : gn h (a + 14) = 3 := q.2.2.2.2.2.2.2.2.2.2.2.2.2.2.2.2
theorem K3_sm {h h' : am_H} {a : Nat} (m : Sm h h') (q : K3 h a) : K3 h' a := ⟨(m.1 _).trans q.1, (m.2.2.1 _ _ _ (K3_s q) rfl).trans q.2.1, K1_sm m q.2.2.1, (m.2.2.1 _ _ _ (K3_s q) rfl).trans q.2.2.2.1, K5_sm m q.2.2.2.2.1, (m.2.2.1 _ _ _ (K3_s q) rfl).trans q.2.2.2.2.2.1, (m.1 _).trans q.2.2.2.2.2.2.1, (m.2.1 _).trans q.2.2.2.2.2.2.2.1, (m.2.2.1 _ _ _ (K3_s q) rfl).trans q.2.2.2.2.2.2.2.2.1, (m.1 _).trans q.2.2.2.2.2.2.2.2.2.1, (m.2.1 _).trans q.2.2.2.2.2.2.2.2.2.2.1, (m.2.2.1 _ _ _ (K3_s q) rfl).trans q.2.2.2.2.2.2.2.2.2.2.2.1, (m.1 _).trans q.2.2.2.2.2.2.2.2.2.2.2.2.1, (m.2.1 _).trans q.2.2.2.2.2.2.2.2.2.2.2.2.2.1, (m.2.2.1 _ _ _ (K3_s q) rfl).trans q.2.2.2.2.2.2.2.2.2.2.2.2.2.2.1, (m.1 _).trans q.2.2.2.2.2.2.2.2.2.2.2.2.2.2.2.1, (m.2.1 _).trans q.2.2.2.2.2.2.2.2.2.2.2.2.2.2.2.2⟩
theorem K3_fr {S : Nat → Nat → Prop} {c s : Nat} {h h' : am_H} {a : Nat} (F : Fr S c s h h') (ha : a + 14 < hnx h) (q : K3 h a) : K3 h' a := ⟨(F.1.sh1 (by omega)).trans q.1, (F.2 _ _ _ (by omega) (K3_s q) rfl).trans q.2.1, K1_fr F (by omega) q.2.2.1, (F.2 _ _ _ (by omega) (K3_s q) rfl).trans q.2.2.2.1, K5_fr F (by omega) q.2.2.2.2.1, (F.2 _ _ _ (by omega) (K3_s q) rfl).trans q.2.2.2.2.2.1, (F.1.sh1 (by omega)).trans q.2.2.2.2.2.2.1, (F.1.gn1 (by omega)).trans q.2.2.2.2.2.2.2.1, (F.2 _ _ _ (by omega) (K3_s q) rfl).trans q.2.2.2.2.2.2.2.2.1, (F.1.sh1 (by omega)).trans q.2.2.2.2.2.2.2.2.2.1, (F.1.gn1 (by omega)).trans q.2.2.2.2.2.2.2.2.2.2.1, (F.2 _ _ _ (by omega) (K3_s q) rfl).trans q.2.2.2.2.2.2.2.2.2.2.2.1, (F.1.sh1 (by omega)).trans q.2.2.2.2.2.2.2.2.2.2.2.2.1, (F.1.gn1 (by omega)).trans q.2.2.2.2.2.2.2.2.2.2.2.2.2.1, (F.2 _ _ _ (by omega) (K3_s q) rfl).trans q.2.2.2.2.2.2.2.2.2.2.2.2.2.2.1, (F.1.sh1 (by omega)).trans q.2.2.2.2.2.2.2.2.2.2.2.2.2.2.2.1, (F.1.gn1 (by omega)).trans q.2.2.2.2.2.2.2.2.2.2.2.2.2.2.2.2⟩
def K6 (h : am_H) (a : Nat) : Prop := sh h a = (5, 6) ∧ fA h a 10 = some (a + 3) ∧ sh h (a + 3) = (1, 0) ∧ gn h (a + 3) = 16 ∧ fA h a 11 = some (a + 4) ∧ sh h (a + 4) = (1, 0) ∧ gn h (a + 4) = 16 ∧ fA h a 12 = some (a + 5) ∧ sh h (a + 5) = (1, 0) ∧ gn h (a + 5) = 16 ∧ fA h a 13 = some (a + 6) ∧ sh h (a + 6) = (1, 0) ∧ gn h (a + 6) = 16 ∧ fA h a 14 = some (a + 7) ∧ sh h (a + 7) = (1, 0) ∧ gn h (a + 7) = 256 ∧ fA h a 15 = some (a + 8) ∧ sh h (a + 8) = (1, 0) ∧ gn h (a + 8) = 256
theorem K6_s {h : am_H} {a : Nat} (q : K6 h a) : sh h a = (5, 6) := q.1
theorem K6_e10 {h : am_H} {a : Nat} (q : K6 h a) : fA h a 10 = some (a + 3) := q.2.1
theorem K6_s10 {h : am_H} {a : Nat} (q : K6 h a) : sh h (a + 3) = (1, 0) := q.2.2.1
theorem K6_n10 {h : am_H} {a : Nat} (q : K6 h a) : gn h (a + 3) = 16 := q.2.2.2.1
theorem K6_e11 {h : am_H} {a : Nat} (q : K6 h a) : fA h a 11 = some (a + 4) := q.2.2.2.2.1
theorem K6_s11 {h : am_H} {a : Nat} (q : K6 h a) : sh h (a + 4) = (1, 0) := q.2.2.2.2.2.1
theorem K6_n11 {h : am_H} {a : Nat} (q : K6 h a) : gn h (a + 4) = 16 := q.2.2.2.2.2.2.1
theorem K6_e12 {h : am_H} {a : Nat} (q : K6 h a) : fA h a 12 = some (a + 5) := q.2.2.2.2.2.2.2.1
theorem K6_s12 {h : am_H} {a : Nat} (q : K6 h a) : sh h (a + 5) = (1, 0) := q.2.2.2.2.2.2.2.2.1
theorem K6_n12 {h : am_H} {a : Nat} (q : K6 h a) : gn h (a + 5) = 16 := q.2.2.2.2.2.2.2.2.2.1
theorem K6_e13 {h : am_H} {a : Nat} (q : K6 h a) : fA h a 13 = some (a + 6) := q.2.2.2.2.2.2.2.2.2.2.1
theorem K6_s13 {h : am_H} {a : Nat} (q : K6 h a) : sh h (a + 6) = (1, 0) := q.2.2.2.2.2.2.2.2.2.2.2.1
theorem K6_n13 {h : am_H} {a : Nat} (q : K6 h a) : gn h (a + 6) = 16 := q.2.2.2.2.2.2.2.2.2.2.2.2.1
theorem K6_e14 {h : am_H} {a : Nat} (q : K6 h a) : fA h a 14 = some (a + 7) := q.2.2.2.2.2.2.2.2.2.2.2.2.2.1
theorem K6_s14 {h : am_H} {a : Nat} (q : K6 h a) : sh h (a + 7) = (1, 0) := q.2.2.2.2.2.2.2.2.2.2.2.2.2.2.1
theorem K6_n14 {h : am_H} {a : Nat} (q : K6 h a) : gn h (a + 7) = 256 := q.2.2.2.2.2.2.2.2.2.2.2.2.2.2.2.1
theorem K6_e15 {h : am_H} {a : Nat} (q : K6 h a) : fA h a 15 = some (a + 8) := q.2.2.2.2.2.2.2.2.2.2.2.2.2.2.2.2.1
theorem K6_s15 {h : am_H} {a : Nat} (q : K6 h a) : sh h (a + 8) = (1, 0) := q.2.2.2.2.2.2.2.2.2.2.2.2.2.2.2.2.2.1
theorem K6_n15 {h : am_H} {a : Nat} (q : K6 h a) : gn h (a + 8) = 256 := q.2.2.2.2.2.2.2.2.2.2.2.2.2.2.2.2.2.2
theorem K6_sm {h h' : am_H} {a : Nat} (m : Sm h h') (q : K6 h a) : K6 h' a := ⟨(m.1 _).trans q.1, (m.2.2.1 _ _ _ (K6_s q) rfl).trans q.2.1, (m.1 _).trans q.2.2.1, (m.2.1 _).trans q.2.2.2.1, (m.2.2.1 _ _ _ (K6_s q) rfl).trans q.2.2.2.2.1, (m.1 _).trans q.2.2.2.2.2.1, (m.2.1 _).trans q.2.2.2.2.2.2.1, (m.2.2.1 _ _ _ (K6_s q) rfl).trans q.2.2.2.2.2.2.2.1, (m.1 _).trans q.2.2.2.2.2.2.2.2.1, (m.2.1 _).trans q.2.2.2.2.2.2.2.2.2.1, (m.2.2.1 _ _ _ (K6_s q) rfl).trans q.2.2.2.2.2.2.2.2.2.2.1, (m.1 _).trans q.2.2.2.2.2.2.2.2.2.2.2.1, (m.2.1 _).trans q.2.2.2.2.2.2.2.2.2.2.2.2.1, (m.2.2.1 _ _ _ (K6_s q) rfl).trans q.2.2.2.2.2.2.2.2.2.2.2.2.2.1, (m.1 _).trans q.2.2.2.2.2.2.2.2.2.2.2.2.2.2.1, (m.2.1 _).trans q.2.2.2.2.2.2.2.2.2.2.2.2.2.2.2.1, (m.2.2.1 _ _ _ (K6_s q) rfl).trans q.2.2.2.2.2.2.2.2.2.2.2.2.2.2.2.2.1, (m.1 _).trans q.2.2.2.2.2.2.2.2.2.2.2.2.2.2.2.2.2.1, (m.2.1 _).trans q.2.2.2.2.2.2.2.2.2.2.2.2.2.2.2.2.2.2⟩
theorem K6_fr {S : Nat → Nat → Prop} {c s : Nat} {h h' : am_H} {a : Nat} (F : Fr S c s h h') (ha : a + 8 < hnx h) (q : K6 h a) : K6 h' a := ⟨(F.1.sh1 (by omega)).trans q.1, (F.2 _ _ _ (by omega) (K6_s q) rfl).trans q.2.1, (F.1.sh1 (by omega)).trans q.2.2.1, (F.1.gn1 (by omega)).trans q.2.2.2.1, (F.2 _ _ _ (by omega) (K6_s q) rfl).trans q.2.2.2.2.1, (F.1.sh1 (by omega)).trans q.2.2.2.2.2.1, (F.1.gn1 (by omega)).trans q.2.2.2.2.2.2.1, (F.2 _ _ _ (by omega) (K6_s q) rfl).trans q.2.2.2.2.2.2.2.1, (F.1.sh1 (by omega)).trans q.2.2.2.2.2.2.2.2.1, (F.1.gn1 (by omega)).trans q.2.2.2.2.2.2.2.2.2.1, (F.2 _ _ _ (by omega) (K6_s q) rfl).trans q.2.2.2.2.2.2.2.2.2.2.1, (F.1.sh1 (by omega)).trans q.2.2.2.2.2.2.2.2.2.2.2.1, (F.1.gn1 (by omega)).trans q.2.2.2.2.2.2.2.2.2.2.2.2.1, (F.2 _ _ _ (by omega) (K6_s q) rfl).trans q.2.2.2.2.2.2.2.2.2.2.2.2.2.1, (F.1.sh1 (by omega)).trans q.2.2.2.2.2.2.2.2.2.2.2.2.2.2.1, (F.1.gn1 (by omega)).trans q.2.2.2.2.2.2.2.2.2.2.2.2.2.2.2.1, (F.2 _ _ _ (by omega) (K6_s q) rfl).trans q.2.2.2.2.2.2.2.2.2.2.2.2.2.2.2.2.1, (F.1.sh1 (by omega)).trans q.2.2.2.2.2.2.2.2.2.2.2.2.2.2.2.2.2.1, (F.1.gn1 (by omega)).trans q.2.2.2.2.2.2.2.2.2.2.2.2.2.2.2.2.2.2⟩
def K9 (h : am_H) (a : Nat) : Prop := sh h a = (5, 9) ∧ fA h a 0 = some (a + 1) ∧ sh h (a + 1) = (1, 0) ∧ gn h (a + 1) = 256 ∧ fA h a 1 = some (a + 2) ∧ sh h (a + 2) = (1, 0) ∧ gn h (a + 2) = 256 ∧ fA h a 6 = some (a + 3) ∧ K0 h (a + 3) ∧ fA h a 7 = some (a + 4) ∧ sh h (a + 4) = (4, 5) ∧ gn h (a + 4) = 12 ∧ fA h a 10 = some (a + 14) ∧ sh h (a + 14) = (1, 0) ∧ gn h (a + 14) = 3 ∧ fA h a 12 = some (a + 15) ∧ K2 h (a + 15) ∧ fA h a 13 = some (a + 26) ∧ K7 h (a + 26) ∧ fA h a 14 = some (a + 34) ∧ K3 h (a + 34)
theorem K9_s {h : am_H} {a : Nat} (q : K9 h a) : sh h a = (5, 9) := q.1
theorem K9_e0 {h : am_H} {a : Nat} (q : K9 h a) : fA h a 0 = some (a + 1) := q.2.1
theorem K9_s0 {h : am_H} {a : Nat} (q : K9 h a) : sh h (a + 1) = (1, 0) := q.2.2.1
theorem K9_n0 {h : am_H} {a : Nat} (q : K9 h a) : gn h (a + 1) = 256 := q.2.2.2.1
theorem K9_e1 {h : am_H} {a : Nat} (q : K9 h a) : fA h a 1 = some (a + 2) := q.2.2.2.2.1
theorem K9_s1 {h : am_H} {a : Nat} (q : K9 h a) : sh h (a + 2) = (1, 0) := q.2.2.2.2.2.1
theorem K9_n1 {h : am_H} {a : Nat} (q : K9 h a) : gn h (a + 2) = 256 := q.2.2.2.2.2.2.1
theorem K9_e6 {h : am_H} {a : Nat} (q : K9 h a) : fA h a 6 = some (a + 3) := q.2.2.2.2.2.2.2.1
theorem K9_k6 {h : am_H} {a : Nat} (q : K9 h a) : K0 h (a + 3) := q.2.2.2.2.2.2.2.2.1
theorem K9_e7 {h : am_H} {a : Nat} (q : K9 h a) : fA h a 7 = some (a + 4) := q.2.2.2.2.2.2.2.2.2.1
theorem K9_s7 {h : am_H} {a : Nat} (q : K9 h a) : sh h (a + 4) = (4, 5) := q.2.2.2.2.2.2.2.2.2.2.1
theorem K9_n7 {h : am_H} {a : Nat} (q : K9 h a) : gn h (a + 4) = 12 := q.2.2.2.2.2.2.2.2.2.2.2.1
theorem K9_e10 {h : am_H} {a : Nat} (q : K9 h a) : fA h a 10 = some (a + 14) := q.2.2.2.2.2.2.2.2.2.2.2.2.1
theorem K9_s10 {h : am_H} {a : Nat} (q : K9 h a) : sh h (a + 14) = (1, 0) := q.2.2.2.2.2.2.2.2.2.2.2.2.2.1
theorem K9_n10 {h : am_H} {a : Nat} (q : K9 h a) : gn h (a + 14) = 3 := q.2.2.2.2.2.2.2.2.2.2.2.2.2.2.1
theorem K9_e12 {h : am_H} {a : Nat} (q : K9 h a) : fA h a 12 = some (a + 15) := q.2.2.2.2.2.2.2.2.2.2.2.2.2.2.2.1
theorem K9_k12 {h : am_H} {a : Nat} (q : K9 h a) : K2 h (a + 15) := q.2.2.2.2.2.2.2.2.2.2.2.2.2.2.2.2.1
theorem K9_e13 {h : am_H} {a : Nat} (q : K9 h a) : fA h a 13 = some (a + 26) := q.2.2.2.2.2.2.2.2.2.2.2.2.2.2.2.2.2.1
theorem K9_k13 {h : am_H} {a : Nat} (q : K9 h a) : K7 h (a + 26) := q.2.2.2.2.2.2.2.2.2.2.2.2.2.2.2.2.2.2.1
theorem K9_e14 {h : am_H} {a : Nat} (q : K9 h a) : fA h a 14 = some (a + 34) := q.2.2.2.2.2.2.2.2.2.2.2.2.2.2.2.2.2.2.2.1
theorem K9_k14 {h : am_H} {a : Nat} (q : K9 h a) : K3 h (a + 34) := q.2.2.2.2.2.2.2.2.2.2.2.2.2.2.2.2.2.2.2.2
theorem K9_sm {h h' : am_H} {a : Nat} (m : Sm h h') (q : K9 h a) : K9 h' a := ⟨(m.1 _).trans q.1, (m.2.2.1 _ _ _ (K9_s q) rfl).trans q.2.1, (m.1 _).trans q.2.2.1, (m.2.1 _).trans q.2.2.2.1, (m.2.2.1 _ _ _ (K9_s q) rfl).trans q.2.2.2.2.1, (m.1 _).trans q.2.2.2.2.2.1, (m.2.1 _).trans q.2.2.2.2.2.2.1, (m.2.2.1 _ _ _ (K9_s q) rfl).trans q.2.2.2.2.2.2.2.1, K0_sm m q.2.2.2.2.2.2.2.2.1, (m.2.2.1 _ _ _ (K9_s q) rfl).trans q.2.2.2.2.2.2.2.2.2.1, (m.1 _).trans q.2.2.2.2.2.2.2.2.2.2.1, (m.2.1 _).trans q.2.2.2.2.2.2.2.2.2.2.2.1, (m.2.2.1 _ _ _ (K9_s q) rfl).trans q.2.2.2.2.2.2.2.2.2.2.2.2.1, (m.1 _).trans q.2.2.2.2.2.2.2.2.2.2.2.2.2.1, (m.2.1 _).trans q.2.2.2.2.2.2.2.2.2.2.2.2.2.2.1, (m.2.2.1 _ _ _ (K9_s q) rfl).trans q.2.2.2.2.2.2.2.2.2.2.2.2.2.2.2.1, K2_sm m q.2.2.2.2.2.2.2.2.2.2.2.2.2.2.2.2.1, (m.2.2.1 _ _ _ (K9_s q) rfl).trans q.2.2.2.2.2.2.2.2.2.2.2.2.2.2.2.2.2.1, K7_sm m q.2.2.2.2.2.2.2.2.2.2.2.2.2.2.2.2.2.2.1, (m.2.2.1 _ _ _ (K9_s q) rfl).trans q.2.2.2.2.2.2.2.2.2.2.2.2.2.2.2.2.2.2.2.1, K3_sm m q.2.2.2.2.2.2.2.2.2.2.2.2.2.2.2.2.2.2.2.2⟩
theorem K9_fr {S : Nat → Nat → Prop} {c s : Nat} {h h' : am_H} {a : Nat} (F : Fr S c s h h') (ha : a + 48 < hnx h) (q : K9 h a) : K9 h' a := ⟨(F.1.sh1 (by omega)).trans q.1, (F.2 _ _ _ (by omega) (K9_s q) rfl).trans q.2.1, (F.1.sh1 (by omega)).trans q.2.2.1, (F.1.gn1 (by omega)).trans q.2.2.2.1, (F.2 _ _ _ (by omega) (K9_s q) rfl).trans q.2.2.2.2.1, (F.1.sh1 (by omega)).trans q.2.2.2.2.2.1, (F.1.gn1 (by omega)).trans q.2.2.2.2.2.2.1, (F.2 _ _ _ (by omega) (K9_s q) rfl).trans q.2.2.2.2.2.2.2.1, K0_fr F (by omega) q.2.2.2.2.2.2.2.2.1, (F.2 _ _ _ (by omega) (K9_s q) rfl).trans q.2.2.2.2.2.2.2.2.2.1, (F.1.sh1 (by omega)).trans q.2.2.2.2.2.2.2.2.2.2.1, (F.1.gn1 (by omega)).trans q.2.2.2.2.2.2.2.2.2.2.2.1, (F.2 _ _ _ (by omega) (K9_s q) rfl).trans q.2.2.2.2.2.2.2.2.2.2.2.2.1, (F.1.sh1 (by omega)).trans q.2.2.2.2.2.2.2.2.2.2.2.2.2.1, (F.1.gn1 (by omega)).trans q.2.2.2.2.2.2.2.2.2.2.2.2.2.2.1, (F.2 _ _ _ (by omega) (K9_s q) rfl).trans q.2.2.2.2.2.2.2.2.2.2.2.2.2.2.2.1, K2_fr F (by omega) q.2.2.2.2.2.2.2.2.2.2.2.2.2.2.2.2.1, (F.2 _ _ _ (by omega) (K9_s q) rfl).trans q.2.2.2.2.2.2.2.2.2.2.2.2.2.2.2.2.2.1, K7_fr F (by omega) q.2.2.2.2.2.2.2.2.2.2.2.2.2.2.2.2.2.2.1, (F.2 _ _ _ (by omega) (K9_s q) rfl).trans q.2.2.2.2.2.2.2.2.2.2.2.2.2.2.2.2.2.2.2.1, K3_fr F (by omega) q.2.2.2.2.2.2.2.2.2.2.2.2.2.2.2.2.2.2.2.2⟩
/-! changes without allocation -/
def Md (S : Nat → Nat → Prop) (h h' : am_H) : Prop := Sm h h' ∧ ∀ a, (¬ S a 0 → gI h' a = gI h a ∧ gJJ h' a = gJJ h a ∧ gDD h' a = gDD h a ∧ gA h' a = gA h a) ∧ ∀ k, ¬ S a k → gV h' a k = gV h a k
section MDS
variable {S T : Nat → Nat → Prop} {h h' h'' : am_H}
theorem Md_rf (S : Nat → Nat → Prop) (h : am_H) : Md S h h := ⟨Sm_rf h, fun _ => ⟨fun _ => ⟨rfl, rfl, rfl, rfl⟩, fun _ _ => rfl⟩⟩
theorem Md_tr (m : Md S h h') (m' : Md S h' h'') : Md S h h'' := ⟨Sm_tr2 m.1 m'.1, fun a => ⟨fun n => ⟨((m'.2 a).1 n).1.trans ((m.2 a).1 n).1, ((m'.2 a).1 n).2.1.trans ((m.2 a).1 n).2.1, ((m'.2 a).1 n).2.2.1.trans ((m.2 a).1 n).2.2.1, ((m'.2 a).1 n).2.2.2.trans ((m.2 a).1 n).2.2.2⟩, fun k n => ((m'.2 a).2 k n).trans ((m.2 a).2 k n)⟩⟩
theorem Md_mono (m : Md S h h') (q : ∀ a k, S a k → T a k) : Md T h h' := ⟨m.1, fun a => ⟨fun n => (m.2 a).1 fun x => n (q a 0 x), fun k n => (m.2 a).2 k fun x => n (q a k x)⟩⟩
theorem Md_tr3 {U : Nat → Nat → Prop} (m : Md S h h') (m' : Md T h' h'') (q : ∀ a k, S a k → U a k) (q' : ∀ a k, T a k → U a k) : Md U h h'' := Md_tr (Md_mono m q) (Md_mono m' q')
theorem md_gI (m : Md S h h') {a : Nat} (n : ¬ S a 0) : gI h' a = gI h a := ((m.2 a).1 n).1
theorem md_gZ (m : Md S h h') {a : Nat} (n : ¬ S a 0) (i : Int) : gZ h' a i = gZ h a i := by unfold gZ; rw [md_gI m n]
theorem md_Z (m : Md S h h') {a : Nat} (n : ¬ S a 0) : gZ h' a = gZ h a := funext (md_gZ m n)
theorem md_gJJ (m : Md S h h') {a : Nat} (n : ¬ S a 0) : gJJ h' a = gJJ h a := ((m.2 a).1 n).2.1
theorem md_gJ (m : Md S h h') {a : Nat} (n : ¬ S a 0) (i : Int) : gJ h' a i = gJ h a i := by unfold gJ; rw [md_gJJ m n]
theorem md_gDD (m : Md S h h') {a : Nat} (n : ¬ S a 0) : gDD h' a = gDD h a := ((m.2 a).1 n).2.2.1
theorem md_gA (m : Md S h h') {a : Nat} (n : ¬ S a 0) : gA h' a = gA h a := ((m.2 a).1 n).2.2.2
theorem md_gV (m : Md S h h') {a k : Nat} (n : ¬ S a k) : gV h' a k = gV h a k := (m.2 a).2 k n
theorem md_fZ (m : Md S h h') {a k : Nat} (n : ¬ S a k) : fZ h' a k = fZ h a k := by unfold fZ; rw [md_gV m n]
theorem md_fJ (m : Md S h h') {a k : Nat} (n : ¬ S a k) : fJ h' a k = fJ h a k := by unfold fJ; rw [md_gV m n]
theorem md_fA (m : Md S h h') {a k : Nat} (n : ¬ S a k) : fA h' a k = fA h a k := by unfold fA; rw [md_gV m n]
theorem md_sh (m : Md S h h') (a : Nat) : sh h' a = sh h a := m.1.1 a
theorem md_gn (m : Md S h h') (a : Nat) : gn h' a = gn h a := m.1.2.1 a
theorem md_nx (m : Md S h h') : hnx h' = hnx h := m.1.2.2.2.1
theorem md_cl (m : Md S h h') : hcl h' = hcl h := m.1.2.2.2.2.1
theorem md_sl (m : Md S h h') : hsl h' = hsl h := m.1.2.2.2.2.2
theorem md_fx (m : Md S h h') : Fx S 0 0 h h' := ⟨Nat.le_of_eq (md_nx m).symm, Nat.le_of_eq (md_cl m), Nat.le_of_eq (md_sl m), fun a _ => ⟨⟨md_sh m a, md_gn m a⟩, fun n => (m.2 a).1 n, fun k n => (m.2 a).2 k n⟩⟩
theorem md_fr (m : Md S h h') : Fr S 0 0 h h' := ⟨md_fx m, fun a c k _ hs hv => m.1.2.2.1 a c k hs hv⟩
theorem Md_uI (h : am_H) (a : Nat) (f : Int → Int32) : Md (fun b _ => b = a) h (uI h a f) := ⟨Sm_uI h a f, fun b => ⟨fun n => ⟨gI_uI_ne _ _ _ n, gJJ_uI _ _ _ _, gDD_uI _ _ _ _, gA_uI _ _ _ _⟩, fun k _ => by rw [gV_uI]⟩⟩
theorem Md_uZ (h : am_H) (a : Nat) (i v : Int) : Md (fun b _ => b = a) h (uZ h a i v) := Md_uI _ _ _
theorem Md_uJ (h : am_H) (a : Nat) (i v : Int) : Md (fun b _ => b = a) h (uJ h a i v) := ⟨Sm_uJ h a i v, fun b => ⟨fun n => ⟨gI_uJ _ _ _ _ _, gJJ_uJ_ne _ _ _ _ n, gDD_uJ _ _ _ _ _, gA_uJ _ _ _ _ _⟩, fun k _ => by rw [gV_uJ]⟩⟩
theorem Md_uD (h : am_H) (a : Nat) (i : Int) (v : UInt64) : Md (fun b _ => b = a) h (uD h a i v) := ⟨Sm_uD h a i v, fun b => ⟨fun n => ⟨gI_uD _ _ _ _ _, gJJ_uD _ _ _ _ _, gDD_uD_ne _ _ _ _ n, gA_uD _ _ _ _ _⟩, fun k _ => by rw [gV_uD]⟩⟩
theorem Md_uA (h : am_H) (a : Nat) (i : Int) (r : Option Nat) : Md (fun b _ => b = a) h (uA h a i r) := ⟨Sm_uA h a i r, fun b => ⟨fun n => ⟨gI_uA _ _ _ _ _, gJJ_uA _ _ _ _ _, gDD_uA _ _ _ _ _, gA_uA_ne _ _ _ _ n⟩, fun k _ => by rw [gV_uA]⟩⟩
end MDS
theorem gV_uF_nj (c : Nat) (h : am_H) (a k : Nat) (v : Value) {b j : Nat} (n : ¬ (b = a ∧ j = k)) : gV (uF c h a k v) b j = gV h b j := by
  by_cases eb : b = a
  · subst eb
    have ej : j ≠ k := fun q => n ⟨rfl, q⟩
    by_cases e : c_sh (.inr (c, am_fu (gV h b) k v)) = sh h b ∧ c_n (.inr (c, am_fu (gV h b) k v)) = gn h b ∧ (c_sh (.inr (c, am_fu (gV h b) k v))).1 ≠ 0
    · have hg : gV (uF c h b k v) b = am_fu (gV h b) k v := hupd_eq c_V _ e
      rw [hg]; unfold am_fu; rw [if_neg ej]
    · unfold uF hupd; rw [if_neg e]
  · rw [gV_uF_ne _ _ _ _ _ eb]
theorem Md_uF {c : Nat} {h : am_H} {a k : Nat} {v : Value} (m : Sm h (uF c h a k v)) : Md (fun b j => b = a ∧ j = k) h (uF c h a k v) := ⟨m, fun b => ⟨fun _ => ⟨gI_uF _ _ _ _ _ _, gJJ_uF _ _ _ _ _ _, gDD_uF _ _ _ _ _ _, gA_uF _ _ _ _ _ _⟩, fun j n => gV_uF_nj _ _ _ _ _ n⟩⟩
/-! whole arrays -/
theorem uI_uI {h : am_H} {a : Nat} (q : (sh h a).1 = 1) (f g : Int → Int32) : uI (uI h a f) a g = uI h a g := by
  have e1 := ok_uI q f
  have e2 := ok_uI q g
  have s1 : sh (uI h a f) a = sh h a := sh_uI _ _ _ _
  have n1 : gn (uI h a f) a = gn h a := gn_uI _ _ _ _
  have r1 : uI h a f = hset h a (.inl ((sh h a).2, gn h a, .inl f)) := if_pos e1
  have r2 : uI h a g = hset h a (.inl ((sh h a).2, gn h a, .inl g)) := if_pos e2
  have e3 := ok_uI (h := uI h a f) (a := a) (by rw [s1]; exact q) g
  have r3 : uI (uI h a f) a g = hset (uI h a f) a (.inl ((sh (uI h a f) a).2, gn (uI h a f) a, .inl g)) := if_pos e3
  rw [r3, s1, n1, r1, r2]
  unfold hset
  simp only
  congr 3
  funext j
  by_cases e : j = a
  · simp only [e, if_true]
  · simp only [e, if_false]
theorem uI_id {h : am_H} {a : Nat} (q : (sh h a).1 = 1) : uI h a (gI h a) = h := by
  have e1 := ok_uI q (gI h a)
  unfold uI hupd
  rw [if_pos e1]
  unfold hset
  obtain ⟨h1, h2, h3, h4⟩ := h
  simp only [Prod.mk.injEq, true_and]
  funext j
  by_cases e : j = a
  · rw [if_pos e, e]
    have := (sh_1 q).1
    simp only [hget] at this
    rw [this]
  · rw [if_neg e]
theorem uI_ext {h : am_H} {a : Nat} {f g : Int → Int32} (e : ∀ i, f i = g i) : uI h a f = uI h a g := by rw [funext e]
theorem uZ_uI {h : am_H} {a : Nat} (q : (sh h a).1 = 1) (f : Int → Int32) (i v : Int) : uZ (uI h a f) a i v = uI h a (am_up f i (mI v)) := by
  unfold uZ
  rw [gI_uI q, uI_uI q]
theorem gZ_uI {h : am_H} {a : Nat} (q : (sh h a).1 = 1) (f : Int → Int32) (i : Int) : gZ (uI h a f) a i = (f i).toInt := by unfold gZ; rw [gI_uI q]
theorem gZ_uI_ne {h : am_H} {a b : Nat} (f : Int → Int32) (n : b ≠ a) (i : Int) : gZ (uI h a f) b i = gZ h b i := by unfold gZ; rw [gI_uI_ne _ _ _ n]
theorem gZ_uZ' {h : am_H} {a : Nat} (q : (sh h a).1 = 1) (i v j : Int) : gZ (uZ h a i v) a j = if j = i then wr v else gZ h a j := by
  by_cases e : j = i
  · rw [if_pos e, gZ_uZ_eq v q e]
  · rw [if_neg e, gZ_uZ_nj v q e]
theorem toInt_mI (z : Int) : (mI z).toInt = wr z := rfl
theorem toInt_mI' {z : Int} (h1 : -2147483648 ≤ z) (h2 : z ≤ 2147483647) : (mI z).toInt = z := wr_id h1 h2
theorem sh1 {h : am_H} {a k t : Nat} (q : sh h a = (k, t)) : (sh h a).1 = k := by rw [q]
/-! loops -/
theorem lp {σ : Type} {m pc : Nat} {L : Int → σ → List Value} {N : Int} {P : Option am_Rs → Prop} (I : Int → σ → am_H → Prop) (step : ∀ i s h, i < N → I i s h → ∃ s' h', rn m pc (L i s) [] h = rn m pc (L (i + 1) s') [] h' ∧ I (i + 1) s' h') (fin : ∀ s h, I N s h → P (rn m pc (L N s) [] h)) : ∀ i s h, i ≤ N → I i s h → P (rn m pc (L i s) [] h) := by
  have key : ∀ (n : Nat) i s h, i + n = N → I i s h → P (rn m pc (L i s) [] h) := by
    intro n
    induction n with
    | zero =>
      intro i s h e hi
      have : i = N := by omega
      subst this
      exact fin s h hi
    | succ n ih =>
      intro i s h e hi
      obtain ⟨s', h', e1, i1⟩ := step i s h (by omega) hi
      rw [e1]
      exact ih (i + 1) s' h' (by omega) i1
  intro i s h hi q
  exact key (N - i).toNat i s h (by omega) q
theorem dn_n {h h' : am_H} {P : am_H → Prop} (p : P h') : ∃ h1, some ((Sum.inl none, h') : am_Rs) = some (.inl none, h1) ∧ P h1 := ⟨h', rfl, p⟩
theorem dn_v {v : Value} {h' : am_H} {P : am_H → Prop} (p : P h') : ∃ h1, some ((Sum.inl (some v), h') : am_Rs) = some (.inl (some v), h1) ∧ P h1 := ⟨h', rfl, p⟩
theorem ipos {α : Type} {c : Prop} [Decidable c] {x y z : α} (h : c) (e : x = z) : (if c then x else y) = z := (if_pos h).trans e
theorem ineg {α : Type} {c : Prop} [Decidable c] {x y z : α} (h : ¬ c) (e : y = z) : (if c then x else y) = z := (if_neg h).trans e
