/-! ===== the heap's accessors and guarded hupdates ===== -/
def am_wf (ci : Nat) (fs : Nat → Value) : Bool := (List.range (am_nf ci)).all fun k => am_okV (am_ft ci k) (fs k)
def c_sh (c : am_C) : Nat × Nat := match c with
  | .inl (t, n, .inl _) => if n ≤ 65536 then (1, t) else (0, 0)
  | .inl (t, n, .inr (.inl _)) => if n ≤ 65536 ∧ t = 3 then (2, t) else (0, 0)
  | .inl (t, n, .inr (.inr (.inl _))) => if n ≤ 65536 ∧ t = 4 then (3, t) else (0, 0)
  | .inl (t, n, .inr (.inr (.inr _))) => if n ≤ 65536 ∧ (t = 5 ∨ t = 6) then (4, t) else (0, 0)
  | .inr (ci, fs) => if am_wf ci fs = true then (5, ci) else (0, 0)
def c_n (c : am_C) : Nat := match c with
  | .inl (_, n, _) => n
  | .inr _ => 0
def c_I (c : am_C) : Int → Int32 := match c with
  | .inl (_, _, .inl f) => f
  | _ => fun _ => 0
def c_J (c : am_C) : Int → Int64 := match c with
  | .inl (_, _, .inr (.inl f)) => f
  | _ => fun _ => 0
def c_D (c : am_C) : Int → UInt64 := match c with
  | .inl (_, _, .inr (.inr (.inl f))) => f
  | _ => fun _ => 0
def c_A (c : am_C) : Int → Option Nat := match c with
  | .inl (_, _, .inr (.inr (.inr f))) => f
  | _ => fun _ => none
def c_V (c : am_C) : Nat → Value := match c with
  | .inr (_, fs) => fs
  | _ => fun _ => am_J
def oc {α : Type} (f : am_C → α) (d : α) (q : Option am_C) : α := match q with
  | some c => f c
  | none => d
def sh (h : am_H) (a : Nat) : Nat × Nat := oc c_sh (0, 0) (hget h a)
def gn (h : am_H) (a : Nat) : Nat := oc c_n 0 (hget h a)
def gI (h : am_H) (a : Nat) : Int → Int32 := oc c_I (fun _ => 0) (hget h a)
def gJJ (h : am_H) (a : Nat) : Int → Int64 := oc c_J (fun _ => 0) (hget h a)
def gDD (h : am_H) (a : Nat) : Int → UInt64 := oc c_D (fun _ => 0) (hget h a)
def gA (h : am_H) (a : Nat) : Int → Option Nat := oc c_A (fun _ => none) (hget h a)
def gV (h : am_H) (a : Nat) : Nat → Value := oc c_V (fun _ => am_J) (hget h a)
def vZ (v : Value) : Int := match v with
  | .int x => x.toInt
  | _ => 0
def vJ (v : Value) : Int := match v with
  | .long x => x.toInt
  | _ => 0
def vA (v : Value) : Option Nat := match v with
  | .ref a => some a
  | _ => none
def gZ (h : am_H) (a : Nat) (i : Int) : Int := (gI h a i).toInt
def gJ (h : am_H) (a : Nat) (i : Int) : Int := (gJJ h a i).toInt
def fZ (h : am_H) (a k : Nat) : Int := vZ (gV h a k)
def fJ (h : am_H) (a k : Nat) : Int := vJ (gV h a k)
def fA (h : am_H) (a k : Nat) : Option Nat := vA (gV h a k)
def wr (v : Int) : Int := (mI v).toInt
def wl (v : Int) : Int := (mL v).toInt
def ad (r : Option Nat) : Nat := r.getD 0
def hupd (h : am_H) (a : Nat) (c : am_C) : am_H := if c_sh c = sh h a ∧ c_n c = gn h a ∧ (c_sh c).1 ≠ 0 then hset h a c else h
def uI (h : am_H) (a : Nat) (f : Int → Int32) : am_H := hupd h a (.inl ((sh h a).2, gn h a, .inl f))
def uZ (h : am_H) (a : Nat) (i v : Int) : am_H := uI h a (am_up (gI h a) i (mI v))
def uJ (h : am_H) (a : Nat) (i v : Int) : am_H := hupd h a (.inl (3, gn h a, .inr (.inl (am_up (gJJ h a) i (mL v)))))
def uD (h : am_H) (a : Nat) (i : Int) (v : UInt64) : am_H := hupd h a (.inl (4, gn h a, .inr (.inr (.inl (am_up (gDD h a) i v)))))
def uA (h : am_H) (a : Nat) (i : Int) (r : Option Nat) : am_H := hupd h a (.inl ((sh h a).2, gn h a, .inr (.inr (.inr (am_up (gA h a) i r)))))
def uF (c : Nat) (h : am_H) (a k : Nat) (v : Value) : am_H := hupd h a (.inr (c, am_fu (gV h a) k v))
def aI (t n : Nat) (h : am_H) : am_H := halc h n (.inl (t, n, .inl fun _ => 0))
def aJ (n : Nat) (h : am_H) : am_H := halc h n (.inl (3, n, .inr (.inl fun _ => 0)))
def aD (n : Nat) (h : am_H) : am_H := halc h n (.inl (4, n, .inr (.inr (.inl fun _ => 0))))
def aA (t n : Nat) (h : am_H) : am_H := halc h n (.inl (t, n, .inr (.inr (.inr fun _ => none))))
def aO (ci : Nat) (h : am_H) : am_H := halc h (am_nf ci) (.inr (ci, fun k => defaultValue (am_ft ci k)))
def aC (a : Nat) (h : am_H) : am_H := halc h (gn h a) (.inl (0, gn h a, .inl (gI h a)))
theorem oc_set {α : Type} (f : am_C → α) (d : α) (h : am_H) (a b : Nat) (c : am_C) : oc f d (hget (hset h a c) b) = if b = a then f c else oc f d (hget h b) := by
  rw [hget_set]
  by_cases e : b = a
  · simp only [e, if_true, oc]
  · simp only [e, if_false]
theorem oc_alc {α : Type} (f : am_C → α) (d : α) (h : am_H) (n b : Nat) (c : am_C) : oc f d (hget (halc h n c) b) = if b = hnx h then f c else oc f d (hget h b) := by
  rw [hget_alc]
  by_cases e : b = hnx h
  · simp only [e, if_true, oc]
  · simp only [e, if_false]
theorem am_wf_iff {ci : Nat} {fs : Nat → Value} : am_wf ci fs = true ↔ ∀ k, k < am_nf ci → am_okV (am_ft ci k) (fs k) = true := by
  simp only [am_wf, List.all_eq_true, List.mem_range]
theorem am_wf_fu {ci : Nat} {fs : Nat → Value} (hw : am_wf ci fs = true) {k : Nat} {v : Value} (hv : am_okV (am_ft ci k) v = true) : am_wf ci (am_fu fs k v) = true := by
  rw [am_wf_iff] at hw ⊢
  intro j hj
  unfold am_fu
  by_cases e : j = k
  · rw [if_pos e, e]; exact hv
  · rw [if_neg e]; exact hw j hj
/-! a cell's kind -/
theorem c_k1 {c : am_C} (q : (c_sh c).1 = 1) : ∃ t n f, c = .inl (t, n, .inl f) ∧ n ≤ 65536 ∧ (c_sh c).2 = t := by
  match c, q with
  | .inl (t, n, .inl f), q => exact ⟨t, n, f, rfl, by simp only [c_sh] at q ⊢; split at q <;> simp_all⟩
  | .inl (t, n, .inr (.inl f)), q => simp only [c_sh] at q; split at q <;> simp at q
  | .inl (t, n, .inr (.inr (.inl f))), q => simp only [c_sh] at q; split at q <;> simp at q
  | .inl (t, n, .inr (.inr (.inr f))), q => simp only [c_sh] at q; split at q <;> simp at q
  | .inr (ci, fs), q => simp only [c_sh] at q; split at q <;> simp at q
theorem c_k2 {c : am_C} (q : (c_sh c).1 = 2) : ∃ n f, c = .inl (3, n, .inr (.inl f)) ∧ n ≤ 65536 := by
  match c, q with
  | .inl (t, n, .inl f), q => simp only [c_sh] at q; split at q <;> simp at q
  | .inl (t, n, .inr (.inl f)), q => simp only [c_sh] at q; split at q <;> simp_all
  | .inl (t, n, .inr (.inr (.inl f))), q => simp only [c_sh] at q; split at q <;> simp at q
  | .inl (t, n, .inr (.inr (.inr f))), q => simp only [c_sh] at q; split at q <;> simp at q
  | .inr (ci, fs), q => simp only [c_sh] at q; split at q <;> simp at q
theorem c_k3 {c : am_C} (q : (c_sh c).1 = 3) : ∃ n f, c = .inl (4, n, .inr (.inr (.inl f))) ∧ n ≤ 65536 := by
  match c, q with
  | .inl (t, n, .inl f), q => simp only [c_sh] at q; split at q <;> simp at q
  | .inl (t, n, .inr (.inl f)), q => simp only [c_sh] at q; split at q <;> simp at q
  | .inl (t, n, .inr (.inr (.inl f))), q => simp only [c_sh] at q; split at q <;> simp_all
  | .inl (t, n, .inr (.inr (.inr f))), q => simp only [c_sh] at q; split at q <;> simp at q
  | .inr (ci, fs), q => simp only [c_sh] at q; split at q <;> simp at q
theorem c_k4 {c : am_C} (q : (c_sh c).1 = 4) : ∃ t n f, c = .inl (t, n, .inr (.inr (.inr f))) ∧ n ≤ 65536 ∧ (c_sh c).2 = t ∧ (t = 5 ∨ t = 6) := by
  match c, q with
  | .inl (t, n, .inl f), q => simp only [c_sh] at q; split at q <;> simp at q
  | .inl (t, n, .inr (.inl f)), q => simp only [c_sh] at q; split at q <;> simp at q
  | .inl (t, n, .inr (.inr (.inl f))), q => simp only [c_sh] at q; split at q <;> simp at q
  | .inl (t, n, .inr (.inr (.inr f))), q =>
    refine ⟨t, n, f, rfl, ?_⟩
    simp only [c_sh] at q ⊢
    split at q
    · rename_i e; exact ⟨e.1, by rw [if_pos e], e.2⟩
    · simp at q
  | .inr (ci, fs), q => simp only [c_sh] at q; split at q <;> simp at q
theorem c_k5 {c : am_C} (q : (c_sh c).1 = 5) : ∃ fs, c = .inr ((c_sh c).2, fs) ∧ am_wf (c_sh c).2 fs = true := by
  match c, q with
  | .inl (t, n, .inl f), q => simp only [c_sh] at q; split at q <;> simp at q
  | .inl (t, n, .inr (.inl f)), q => simp only [c_sh] at q; split at q <;> simp at q
  | .inl (t, n, .inr (.inr (.inl f))), q => simp only [c_sh] at q; split at q <;> simp at q
  | .inl (t, n, .inr (.inr (.inr f))), q => simp only [c_sh] at q; split at q <;> simp at q
  | .inr (ci, fs), q =>
    simp only [c_sh] at q ⊢
    split at q
    · rename_i e; exact ⟨fs, by rw [if_pos e], by rw [if_pos e]; exact e⟩
    · simp at q
theorem c_k0 (c : am_C) : (c_sh c).1 = 0 ∨ (c_sh c).1 = 1 ∨ (c_sh c).1 = 2 ∨ (c_sh c).1 = 3 ∨ (c_sh c).1 = 4 ∨ (c_sh c).1 = 5 := by
  match c with
  | .inl (t, n, .inl f) => simp only [c_sh]; split <;> simp
  | .inl (t, n, .inr (.inl f)) => simp only [c_sh]; split <;> simp
  | .inl (t, n, .inr (.inr (.inl f))) => simp only [c_sh]; split <;> simp
  | .inl (t, n, .inr (.inr (.inr f))) => simp only [c_sh]; split <;> simp
  | .inr (ci, fs) => simp only [c_sh]; split <;> simp
theorem sh_some {h : am_H} {a : Nat} (q : (sh h a).1 ≠ 0) : ∃ c, hget h a = some c ∧ c_sh c = sh h a ∧ c_n c = gn h a ∧ c_I c = gI h a ∧ c_J c = gJJ h a ∧ c_D c = gDD h a ∧ c_A c = gA h a ∧ c_V c = gV h a := by
  unfold sh gn gI gJJ gDD gA gV at *
  match hget h a, q with
  | some c, _ => exact ⟨c, rfl, rfl, rfl, rfl, rfl, rfl, rfl, rfl⟩
  | none, q => exact absurd rfl q
theorem sh_1 {h : am_H} {a : Nat} (q : (sh h a).1 = 1) : hget h a = some (.inl ((sh h a).2, gn h a, .inl (gI h a))) ∧ gn h a ≤ 65536 := by
  obtain ⟨c, h1, h2, h3, h4, -⟩ := sh_some (h := h) (a := a) (by rw [q]; decide)
  obtain ⟨t, n, f, rfl, e1, e2⟩ := c_k1 (c := c) (by rw [h2]; exact q)
  rw [h1, ← h3, ← h4, ← h2, e2]
  exact ⟨rfl, e1⟩
theorem sh_2 {h : am_H} {a : Nat} (q : (sh h a).1 = 2) : hget h a = some (.inl (3, gn h a, .inr (.inl (gJJ h a)))) ∧ gn h a ≤ 65536 := by
  obtain ⟨c, h1, h2, h3, -, h4, -⟩ := sh_some (h := h) (a := a) (by rw [q]; decide)
  obtain ⟨n, f, rfl, e1⟩ := c_k2 (c := c) (by rw [h2]; exact q)
  rw [h1, ← h3, ← h4]
  exact ⟨rfl, e1⟩
theorem sh_3 {h : am_H} {a : Nat} (q : (sh h a).1 = 3) : hget h a = some (.inl (4, gn h a, .inr (.inr (.inl (gDD h a))))) ∧ gn h a ≤ 65536 := by
  obtain ⟨c, h1, h2, h3, -, -, h4, -⟩ := sh_some (h := h) (a := a) (by rw [q]; decide)
  obtain ⟨n, f, rfl, e1⟩ := c_k3 (c := c) (by rw [h2]; exact q)
  rw [h1, ← h3, ← h4]
  exact ⟨rfl, e1⟩
theorem sh_4 {h : am_H} {a : Nat} (q : (sh h a).1 = 4) : hget h a = some (.inl ((sh h a).2, gn h a, .inr (.inr (.inr (gA h a))))) ∧ gn h a ≤ 65536 ∧ ((sh h a).2 = 5 ∨ (sh h a).2 = 6) := by
  obtain ⟨c, h1, h2, h3, -, -, -, h4, -⟩ := sh_some (h := h) (a := a) (by rw [q]; decide)
  obtain ⟨t, n, f, rfl, e1, e2, e3⟩ := c_k4 (c := c) (by rw [h2]; exact q)
  rw [h1, ← h3, ← h4, ← h2, e2]
  exact ⟨rfl, e1, e3⟩
theorem sh_5 {h : am_H} {a c : Nat} (q : sh h a = (5, c)) : hget h a = some (.inr (c, gV h a)) ∧ am_wf c (gV h a) = true := by
  obtain ⟨d, h1, h2, -, -, -, -, -, h4⟩ := sh_some (h := h) (a := a) (by rw [q]; show (5 : Nat) ≠ 0; decide)
  obtain ⟨fs, e1, e2⟩ := c_k5 (c := d) (by rw [h2, q])
  have e3 : (c_sh d).2 = c := by rw [h2, q]
  rw [e3] at e1 e2
  subst e1
  rw [h1, ← h4]
  exact ⟨rfl, e2⟩
theorem gn_le {h : am_H} {a : Nat} (q : 1 ≤ (sh h a).1) (q4 : (sh h a).1 ≤ 4) : gn h a ≤ 65536 := by
  have : (sh h a).1 = 1 ∨ (sh h a).1 = 2 ∨ (sh h a).1 = 3 ∨ (sh h a).1 = 4 := by omega
  rcases this with e | e | e | e
  · exact (sh_1 e).2
  · exact (sh_2 e).2
  · exact (sh_3 e).2
  · exact (sh_4 e).2.1

theorem c_I_no {c : am_C} (q : (c_sh c).1 ≠ 0) (q2 : (c_sh c).1 ≠ 1) : c_I c = fun _ => 0 := by
  rcases c_k0 c with e | e | e | e | e | e
  · exact absurd e q
  · exact absurd e q2
  · obtain ⟨n, f, rfl, -⟩ := c_k2 e; rfl
  · obtain ⟨n, f, rfl, -⟩ := c_k3 e; rfl
  · obtain ⟨t, n, f, rfl, -⟩ := c_k4 e; rfl
  · obtain ⟨fs, h1, -⟩ := c_k5 e; rw [h1]; rfl
theorem c_J_no {c : am_C} (q : (c_sh c).1 ≠ 0) (q2 : (c_sh c).1 ≠ 2) : c_J c = fun _ => 0 := by
  rcases c_k0 c with e | e | e | e | e | e
  · exact absurd e q
  · obtain ⟨t, n, f, rfl, -⟩ := c_k1 e; rfl
  · exact absurd e q2
  · obtain ⟨n, f, rfl, -⟩ := c_k3 e; rfl
  · obtain ⟨t, n, f, rfl, -⟩ := c_k4 e; rfl
  · obtain ⟨fs, h1, -⟩ := c_k5 e; rw [h1]; rfl
theorem c_D_no {c : am_C} (q : (c_sh c).1 ≠ 0) (q2 : (c_sh c).1 ≠ 3) : c_D c = fun _ => 0 := by
  rcases c_k0 c with e | e | e | e | e | e
  · exact absurd e q
  · obtain ⟨t, n, f, rfl, -⟩ := c_k1 e; rfl
  · obtain ⟨n, f, rfl, -⟩ := c_k2 e; rfl
  · exact absurd e q2
  · obtain ⟨t, n, f, rfl, -⟩ := c_k4 e; rfl
  · obtain ⟨fs, h1, -⟩ := c_k5 e; rw [h1]; rfl
theorem c_A_no {c : am_C} (q : (c_sh c).1 ≠ 0) (q2 : (c_sh c).1 ≠ 4) : c_A c = fun _ => none := by
  rcases c_k0 c with e | e | e | e | e | e
  · exact absurd e q
  · obtain ⟨t, n, f, rfl, -⟩ := c_k1 e; rfl
  · obtain ⟨n, f, rfl, -⟩ := c_k2 e; rfl
  · obtain ⟨n, f, rfl, -⟩ := c_k3 e; rfl
  · exact absurd e q2
  · obtain ⟨fs, h1, -⟩ := c_k5 e; rw [h1]; rfl
theorem c_V_no {c : am_C} (q : (c_sh c).1 ≠ 0) (q2 : (c_sh c).1 ≠ 5) : c_V c = fun _ => am_J := by
  rcases c_k0 c with e | e | e | e | e | e
  · exact absurd e q
  · obtain ⟨t, n, f, rfl, -⟩ := c_k1 e; rfl
  · obtain ⟨n, f, rfl, -⟩ := c_k2 e; rfl
  · obtain ⟨n, f, rfl, -⟩ := c_k3 e; rfl
  · obtain ⟨t, n, f, rfl, -⟩ := c_k4 e; rfl
  · exact absurd e q2
theorem hupd_keep {α : Type} (f : am_C → α) (d : α) (h : am_H) (a : Nat) (c : am_C) (b : Nat) (q : ∀ c', hget h a = some c' → c_sh c = c_sh c' → c_n c = c_n c' → (c_sh c).1 ≠ 0 → f c = f c') : oc f d (hget (hupd h a c) b) = oc f d (hget h b) := by
  unfold hupd
  split
  · rename_i e
    rw [oc_set]
    split
    · rename_i eb
      subst eb
      obtain ⟨c', h1, h2, h3, -⟩ := sh_some (h := h) (a := b) (by rw [← e.1]; exact e.2.2)
      rw [h1]
      exact q c' h1 (by rw [e.1, h2]) (by rw [e.2.1, h3]) e.2.2
    · rfl
  · rfl
theorem sh_hupd (h : am_H) (a : Nat) (c : am_C) (b : Nat) : sh (hupd h a c) b = sh h b := hupd_keep c_sh _ h a c b fun _ _ e _ _ => e
theorem gn_hupd (h : am_H) (a : Nat) (c : am_C) (b : Nat) : gn (hupd h a c) b = gn h b := hupd_keep c_n _ h a c b fun _ _ _ e _ => e
theorem hnx_hupd (h : am_H) (a : Nat) (c : am_C) : hnx (hupd h a c) = hnx h := by unfold hupd; split <;> rfl
theorem hcl_hupd (h : am_H) (a : Nat) (c : am_C) : hcl (hupd h a c) = hcl h := by unfold hupd; split <;> rfl
theorem hsl_hupd (h : am_H) (a : Nat) (c : am_C) : hsl (hupd h a c) = hsl h := by unfold hupd; split <;> rfl
theorem hupd_ne {α : Type} (f : am_C → α) (d : α) (h : am_H) (a : Nat) (c : am_C) {b : Nat} (q : b ≠ a) : oc f d (hget (hupd h a c) b) = oc f d (hget h b) := by
  unfold hupd
  split
  · rw [oc_set, if_neg q]
  · rfl
theorem hupd_eq {α : Type} (f : am_C → α) (d : α) {h : am_H} {a : Nat} {c : am_C} (q : c_sh c = sh h a ∧ c_n c = gn h a ∧ (c_sh c).1 ≠ 0) : oc f d (hget (hupd h a c) a) = f c := by
  unfold hupd
  rw [if_pos q, oc_set, if_pos rfl]
theorem gI_hupd (h : am_H) (a : Nat) (c : am_C) (b : Nat) (q : (c_sh c).1 ≠ 1) : gI (hupd h a c) b = gI h b := hupd_keep c_I (fun _ => 0) h a c b fun c1 _ e _ e0 => (c_I_no e0 q).trans (c_I_no (by rw [← e]; exact e0) (by rw [← e]; exact q)).symm
theorem gJJ_hupd (h : am_H) (a : Nat) (c : am_C) (b : Nat) (q : (c_sh c).1 ≠ 2) : gJJ (hupd h a c) b = gJJ h b := hupd_keep c_J (fun _ => 0) h a c b fun c1 _ e _ e0 => (c_J_no e0 q).trans (c_J_no (by rw [← e]; exact e0) (by rw [← e]; exact q)).symm
theorem gDD_hupd (h : am_H) (a : Nat) (c : am_C) (b : Nat) (q : (c_sh c).1 ≠ 3) : gDD (hupd h a c) b = gDD h b := hupd_keep c_D (fun _ => 0) h a c b fun c1 _ e _ e0 => (c_D_no e0 q).trans (c_D_no (by rw [← e]; exact e0) (by rw [← e]; exact q)).symm
theorem gA_hupd (h : am_H) (a : Nat) (c : am_C) (b : Nat) (q : (c_sh c).1 ≠ 4) : gA (hupd h a c) b = gA h b := hupd_keep c_A (fun _ => none) h a c b fun c1 _ e _ e0 => (c_A_no e0 q).trans (c_A_no (by rw [← e]; exact e0) (by rw [← e]; exact q)).symm
theorem gV_hupd (h : am_H) (a : Nat) (c : am_C) (b : Nat) (q : (c_sh c).1 ≠ 5) : gV (hupd h a c) b = gV h b := hupd_keep c_V (fun _ => am_J) h a c b fun c1 _ e _ e0 => (c_V_no e0 q).trans (c_V_no (by rw [← e]; exact e0) (by rw [← e]; exact q)).symm
theorem ok_uI {h : am_H} {a : Nat} (q : (sh h a).1 = 1) (f : Int → Int32) : c_sh (.inl ((sh h a).2, gn h a, .inl f)) = sh h a ∧ c_n (.inl ((sh h a).2, gn h a, .inl f)) = gn h a ∧ (c_sh (.inl ((sh h a).2, gn h a, .inl f))).1 ≠ 0 := by
  have e : c_sh (.inl ((sh h a).2, gn h a, .inl f)) = (1, (sh h a).2) := by simp only [c_sh, (sh_1 q).2, if_true]
  rw [e]
  exact ⟨Prod.ext q.symm rfl, rfl, by simp⟩
theorem ok_uJ {h : am_H} {a : Nat} (q : (sh h a).1 = 2) (f : Int → Int64) : c_sh (.inl (3, gn h a, .inr (.inl f))) = sh h a ∧ c_n (.inl (3, gn h a, .inr (.inl f))) = gn h a ∧ (c_sh (.inl (3, gn h a, .inr (.inl f)))).1 ≠ 0 := by
  have e : ∀ f, c_sh (.inl (3, gn h a, .inr (.inl f))) = (2, 3) := fun f => by simp only [c_sh, (sh_2 q).2, and_self, if_true]
  obtain ⟨c, h1, h2, -⟩ := sh_some (h := h) (a := a) (by rw [q]; decide)
  rw [(sh_2 q).1] at h1
  cases h1
  rw [e] at h2 ⊢
  exact ⟨h2, rfl, by simp⟩
theorem ok_uD {h : am_H} {a : Nat} (q : (sh h a).1 = 3) (f : Int → UInt64) : c_sh (.inl (4, gn h a, .inr (.inr (.inl f)))) = sh h a ∧ c_n (.inl (4, gn h a, .inr (.inr (.inl f)))) = gn h a ∧ (c_sh (.inl (4, gn h a, .inr (.inr (.inl f))))).1 ≠ 0 := by
  have e : ∀ f, c_sh (.inl (4, gn h a, .inr (.inr (.inl f)))) = (3, 4) := fun f => by simp only [c_sh, (sh_3 q).2, and_self, if_true]
  obtain ⟨c, h1, h2, -⟩ := sh_some (h := h) (a := a) (by rw [q]; decide)
  rw [(sh_3 q).1] at h1
  cases h1
  rw [e] at h2 ⊢
  exact ⟨h2, rfl, by simp⟩
theorem ok_uA {h : am_H} {a : Nat} (q : (sh h a).1 = 4) (f : Int → Option Nat) : c_sh (.inl ((sh h a).2, gn h a, .inr (.inr (.inr f)))) = sh h a ∧ c_n (.inl ((sh h a).2, gn h a, .inr (.inr (.inr f)))) = gn h a ∧ (c_sh (.inl ((sh h a).2, gn h a, .inr (.inr (.inr f))))).1 ≠ 0 := by
  have e : c_sh (.inl ((sh h a).2, gn h a, .inr (.inr (.inr f)))) = (4, (sh h a).2) := by simp only [c_sh, (sh_4 q).2, and_self, if_true]
  rw [e]
  exact ⟨Prod.ext q.symm rfl, rfl, by simp⟩
theorem ok_uF {c : Nat} {h : am_H} {a k : Nat} {v : Value} (q : sh h a = (5, c)) (qv : am_okV (am_ft c k) v = true) : c_sh (.inr (c, am_fu (gV h a) k v)) = sh h a ∧ c_n (.inr (c, am_fu (gV h a) k v)) = gn h a ∧ (c_sh (.inr (c, am_fu (gV h a) k v))).1 ≠ 0 := by
  have e : c_sh (.inr (c, am_fu (gV h a) k v)) = (5, c) := by simp only [c_sh, am_wf_fu (sh_5 q).2 qv, if_true]
  rw [e]
  refine ⟨q.symm, ?_, by simp⟩
  unfold gn
  rw [(sh_5 q).1]
  rfl
theorem k_uI (h : am_H) (a : Nat) (f : Int → Int32) : ∀ k, 2 ≤ k → (c_sh (.inl ((sh h a).2, gn h a, .inl f))).1 ≠ k := by
  intro k hk; simp only [c_sh]; split <;> simp <;> omega
theorem k_uJ (h : am_H) (a : Nat) (f : Int → Int64) : ∀ k, 1 ≤ k → k ≠ 2 → (c_sh (.inl (3, gn h a, .inr (.inl f)))).1 ≠ k := by
  intro k hk h2; simp only [c_sh]; split <;> simp <;> omega
theorem k_uD (h : am_H) (a : Nat) (f : Int → UInt64) : ∀ k, 1 ≤ k → k ≠ 3 → (c_sh (.inl (4, gn h a, .inr (.inr (.inl f))))).1 ≠ k := by
  intro k hk h2; simp only [c_sh]; split <;> simp <;> omega
theorem k_uA (h : am_H) (a : Nat) (f : Int → Option Nat) : ∀ k, 1 ≤ k → k ≠ 4 → (c_sh (.inl ((sh h a).2, gn h a, .inr (.inr (.inr f))))).1 ≠ k := by
  intro k hk h2; simp only [c_sh]; split <;> simp <;> omega
theorem k_uF (c : Nat) (fs : Nat → Value) : ∀ k, 1 ≤ k → k ≠ 5 → (c_sh (.inr (c, fs))).1 ≠ k := by
  intro k hk h2; simp only [c_sh]; split <;> simp <;> omega
theorem sh_uI (h : am_H) (a : Nat) (f : Int → Int32) (b : Nat) : sh (uI h a f) b = sh h b := sh_hupd _ _ _ _
theorem gn_uI (h : am_H) (a : Nat) (f : Int → Int32) (b : Nat) : gn (uI h a f) b = gn h b := gn_hupd _ _ _ _
theorem hnx_uI (h : am_H) (a : Nat) (f : Int → Int32) : hnx (uI h a f) = hnx h := hnx_hupd _ _ _
theorem hcl_uI (h : am_H) (a : Nat) (f : Int → Int32) : hcl (uI h a f) = hcl h := hcl_hupd _ _ _
theorem hsl_uI (h : am_H) (a : Nat) (f : Int → Int32) : hsl (uI h a f) = hsl h := hsl_hupd _ _ _
theorem gI_uI_ne (h : am_H) (a : Nat) (f : Int → Int32) {b : Nat} (q : b ≠ a) : gI (uI h a f) b = gI h b := hupd_ne _ _ _ _ _ q
theorem gJJ_uI (h : am_H) (a : Nat) (f : Int → Int32) (b : Nat) : gJJ (uI h a f) b = gJJ h b := gJJ_hupd _ _ _ _ (k_uI _ _ _ 2 (by decide))
theorem gDD_uI (h : am_H) (a : Nat) (f : Int → Int32) (b : Nat) : gDD (uI h a f) b = gDD h b := gDD_hupd _ _ _ _ (k_uI _ _ _ 3 (by decide))
theorem gA_uI (h : am_H) (a : Nat) (f : Int → Int32) (b : Nat) : gA (uI h a f) b = gA h b := gA_hupd _ _ _ _ (k_uI _ _ _ 4 (by decide))
theorem gV_uI (h : am_H) (a : Nat) (f : Int → Int32) (b : Nat) : gV (uI h a f) b = gV h b := gV_hupd _ _ _ _ (k_uI _ _ _ 5 (by decide))
theorem sh_uJ (h : am_H) (a : Nat) (i v : Int) (b : Nat) : sh (uJ h a i v) b = sh h b := sh_hupd _ _ _ _
theorem gn_uJ (h : am_H) (a : Nat) (i v : Int) (b : Nat) : gn (uJ h a i v) b = gn h b := gn_hupd _ _ _ _
theorem hnx_uJ (h : am_H) (a : Nat) (i v : Int) : hnx (uJ h a i v) = hnx h := hnx_hupd _ _ _
theorem hcl_uJ (h : am_H) (a : Nat) (i v : Int) : hcl (uJ h a i v) = hcl h := hcl_hupd _ _ _
theorem hsl_uJ (h : am_H) (a : Nat) (i v : Int) : hsl (uJ h a i v) = hsl h := hsl_hupd _ _ _
theorem gI_uJ (h : am_H) (a : Nat) (i v : Int) (b : Nat) : gI (uJ h a i v) b = gI h b := gI_hupd _ _ _ _ (k_uJ _ _ _ 1 (by decide) (by decide))
theorem gJJ_uJ_ne (h : am_H) (a : Nat) (i v : Int) {b : Nat} (q : b ≠ a) : gJJ (uJ h a i v) b = gJJ h b := hupd_ne _ _ _ _ _ q
theorem gDD_uJ (h : am_H) (a : Nat) (i v : Int) (b : Nat) : gDD (uJ h a i v) b = gDD h b := gDD_hupd _ _ _ _ (k_uJ _ _ _ 3 (by decide) (by decide))
theorem gA_uJ (h : am_H) (a : Nat) (i v : Int) (b : Nat) : gA (uJ h a i v) b = gA h b := gA_hupd _ _ _ _ (k_uJ _ _ _ 4 (by decide) (by decide))
theorem gV_uJ (h : am_H) (a : Nat) (i v : Int) (b : Nat) : gV (uJ h a i v) b = gV h b := gV_hupd _ _ _ _ (k_uJ _ _ _ 5 (by decide) (by decide))
theorem sh_uD (h : am_H) (a : Nat) (i : Int) (v : UInt64) (b : Nat) : sh (uD h a i v) b = sh h b := sh_hupd _ _ _ _
theorem gn_uD (h : am_H) (a : Nat) (i : Int) (v : UInt64) (b : Nat) : gn (uD h a i v) b = gn h b := gn_hupd _ _ _ _
theorem hnx_uD (h : am_H) (a : Nat) (i : Int) (v : UInt64) : hnx (uD h a i v) = hnx h := hnx_hupd _ _ _
theorem hcl_uD (h : am_H) (a : Nat) (i : Int) (v : UInt64) : hcl (uD h a i v) = hcl h := hcl_hupd _ _ _
theorem hsl_uD (h : am_H) (a : Nat) (i : Int) (v : UInt64) : hsl (uD h a i v) = hsl h := hsl_hupd _ _ _
theorem gI_uD (h : am_H) (a : Nat) (i : Int) (v : UInt64) (b : Nat) : gI (uD h a i v) b = gI h b := gI_hupd _ _ _ _ (k_uD _ _ _ 1 (by decide) (by decide))
theorem gJJ_uD (h : am_H) (a : Nat) (i : Int) (v : UInt64) (b : Nat) : gJJ (uD h a i v) b = gJJ h b := gJJ_hupd _ _ _ _ (k_uD _ _ _ 2 (by decide) (by decide))
theorem gDD_uD_ne (h : am_H) (a : Nat) (i : Int) (v : UInt64) {b : Nat} (q : b ≠ a) : gDD (uD h a i v) b = gDD h b := hupd_ne _ _ _ _ _ q
theorem gA_uD (h : am_H) (a : Nat) (i : Int) (v : UInt64) (b : Nat) : gA (uD h a i v) b = gA h b := gA_hupd _ _ _ _ (k_uD _ _ _ 4 (by decide) (by decide))
theorem gV_uD (h : am_H) (a : Nat) (i : Int) (v : UInt64) (b : Nat) : gV (uD h a i v) b = gV h b := gV_hupd _ _ _ _ (k_uD _ _ _ 5 (by decide) (by decide))
theorem sh_uA (h : am_H) (a : Nat) (i : Int) (r : Option Nat) (b : Nat) : sh (uA h a i r) b = sh h b := sh_hupd _ _ _ _
theorem gn_uA (h : am_H) (a : Nat) (i : Int) (r : Option Nat) (b : Nat) : gn (uA h a i r) b = gn h b := gn_hupd _ _ _ _
theorem hnx_uA (h : am_H) (a : Nat) (i : Int) (r : Option Nat) : hnx (uA h a i r) = hnx h := hnx_hupd _ _ _
theorem hcl_uA (h : am_H) (a : Nat) (i : Int) (r : Option Nat) : hcl (uA h a i r) = hcl h := hcl_hupd _ _ _
theorem hsl_uA (h : am_H) (a : Nat) (i : Int) (r : Option Nat) : hsl (uA h a i r) = hsl h := hsl_hupd _ _ _
theorem gI_uA (h : am_H) (a : Nat) (i : Int) (r : Option Nat) (b : Nat) : gI (uA h a i r) b = gI h b := gI_hupd _ _ _ _ (k_uA _ _ _ 1 (by decide) (by decide))
theorem gJJ_uA (h : am_H) (a : Nat) (i : Int) (r : Option Nat) (b : Nat) : gJJ (uA h a i r) b = gJJ h b := gJJ_hupd _ _ _ _ (k_uA _ _ _ 2 (by decide) (by decide))
theorem gDD_uA (h : am_H) (a : Nat) (i : Int) (r : Option Nat) (b : Nat) : gDD (uA h a i r) b = gDD h b := gDD_hupd _ _ _ _ (k_uA _ _ _ 3 (by decide) (by decide))
theorem gA_uA_ne (h : am_H) (a : Nat) (i : Int) (r : Option Nat) {b : Nat} (q : b ≠ a) : gA (uA h a i r) b = gA h b := hupd_ne _ _ _ _ _ q
theorem gV_uA (h : am_H) (a : Nat) (i : Int) (r : Option Nat) (b : Nat) : gV (uA h a i r) b = gV h b := gV_hupd _ _ _ _ (k_uA _ _ _ 5 (by decide) (by decide))
theorem sh_uF (c : Nat) (h : am_H) (a k : Nat) (v : Value) (b : Nat) : sh (uF c h a k v) b = sh h b := sh_hupd _ _ _ _
theorem gn_uF (c : Nat) (h : am_H) (a k : Nat) (v : Value) (b : Nat) : gn (uF c h a k v) b = gn h b := gn_hupd _ _ _ _
theorem hnx_uF (c : Nat) (h : am_H) (a k : Nat) (v : Value) : hnx (uF c h a k v) = hnx h := hnx_hupd _ _ _
theorem hcl_uF (c : Nat) (h : am_H) (a k : Nat) (v : Value) : hcl (uF c h a k v) = hcl h := hcl_hupd _ _ _
theorem hsl_uF (c : Nat) (h : am_H) (a k : Nat) (v : Value) : hsl (uF c h a k v) = hsl h := hsl_hupd _ _ _
theorem gI_uF (c : Nat) (h : am_H) (a k : Nat) (v : Value) (b : Nat) : gI (uF c h a k v) b = gI h b := gI_hupd _ _ _ _ (k_uF _ _ 1 (by decide) (by decide))
theorem gJJ_uF (c : Nat) (h : am_H) (a k : Nat) (v : Value) (b : Nat) : gJJ (uF c h a k v) b = gJJ h b := gJJ_hupd _ _ _ _ (k_uF _ _ 2 (by decide) (by decide))
theorem gDD_uF (c : Nat) (h : am_H) (a k : Nat) (v : Value) (b : Nat) : gDD (uF c h a k v) b = gDD h b := gDD_hupd _ _ _ _ (k_uF _ _ 3 (by decide) (by decide))
theorem gA_uF (c : Nat) (h : am_H) (a k : Nat) (v : Value) (b : Nat) : gA (uF c h a k v) b = gA h b := gA_hupd _ _ _ _ (k_uF _ _ 4 (by decide) (by decide))
theorem gV_uF_ne (c : Nat) (h : am_H) (a k : Nat) (v : Value) {b : Nat} (q : b ≠ a) : gV (uF c h a k v) b = gV h b := hupd_ne _ _ _ _ _ q
theorem gI_uI {h : am_H} {a : Nat} (q : (sh h a).1 = 1) (f : Int → Int32) : gI (uI h a f) a = f := hupd_eq c_I _ (ok_uI q f)
theorem gJJ_uJ {h : am_H} {a : Nat} (q : (sh h a).1 = 2) (i v : Int) : gJJ (uJ h a i v) a = am_up (gJJ h a) i (mL v) := hupd_eq c_J _ (ok_uJ q _)
theorem gDD_uD {h : am_H} {a : Nat} (q : (sh h a).1 = 3) (i : Int) (v : UInt64) : gDD (uD h a i v) a = am_up (gDD h a) i v := hupd_eq c_D _ (ok_uD q _)
theorem gA_uA {h : am_H} {a : Nat} (q : (sh h a).1 = 4) (i : Int) (r : Option Nat) : gA (uA h a i r) a = am_up (gA h a) i r := hupd_eq c_A _ (ok_uA q _)
theorem gV_uF {c : Nat} {h : am_H} {a k : Nat} {v : Value} (q : sh h a = (5, c)) (qv : am_okV (am_ft c k) v = true) : gV (uF c h a k v) a = am_fu (gV h a) k v := hupd_eq c_V _ (ok_uF q qv)
/-! the numbers -/
theorem wr_id {z : Int} (h1 : -2147483648 ≤ z) (h2 : z ≤ 2147483647) : wr z = z := by
  unfold wr mI
  exact Int32.toInt_ofInt_of_le h1 (by omega)
theorem wl_id {z : Int} (h1 : -9223372036854775808 ≤ z) (h2 : z ≤ 9223372036854775807) : wl z = z := by
  unfold wl mL
  exact Int64.toInt_ofInt_of_le h1 (by omega)
theorem mI_toInt (x : Int32) : mI x.toInt = x := Int32.ofInt_toInt x
theorem mL_toInt (x : Int64) : mL x.toInt = x := Int64.ofInt_toInt x
theorem mI_wr (z : Int) : mI (wr z) = mI z := mI_toInt _
theorem mL_wl (z : Int) : mL (wl z) = mL z := mL_toInt _
theorem wr_gZ (h : am_H) (a : Nat) (i : Int) : wr (gZ h a i) = gZ h a i := by unfold wr gZ; rw [mI_toInt]
theorem wl_gJ (h : am_H) (a : Nat) (i : Int) : wl (gJ h a i) = gJ h a i := by unfold wl gJ; rw [mL_toInt]
theorem wr_wr (z : Int) : wr (wr z) = wr z := by unfold wr; rw [mI_toInt]
theorem wr_0 : wr 0 = 0 := wr_id (by decide) (by decide)
theorem wr_vZ (v : Value) : wr (vZ v) = vZ v := by
  cases v with
  | int x => unfold vZ wr; rw [mI_toInt]
  | _ => exact wr_0
theorem wl_vJ (v : Value) : wl (vJ v) = vJ v := by
  cases v with
  | long x => unfold vJ wl; rw [mL_toInt]
  | _ => exact (show wl 0 = 0 from wl_id (by decide) (by decide))
theorem wr_fZ (h : am_H) (a k : Nat) : wr (fZ h a k) = fZ h a k := wr_vZ _
theorem wl_fJ (h : am_H) (a k : Nat) : wl (fJ h a k) = fJ h a k := wl_vJ _
theorem wr_lo (z : Int) : -2147483648 ≤ wr z := Int32.le_toInt _
theorem wr_hi (z : Int) : wr z ≤ 2147483647 := by have := Int32.toInt_lt (mI z); unfold wr; omega
theorem gZ_lo (h : am_H) (a : Nat) (i : Int) : -2147483648 ≤ gZ h a i := by rw [← wr_gZ]; exact wr_lo _
theorem gZ_hi (h : am_H) (a : Nat) (i : Int) : gZ h a i ≤ 2147483647 := by rw [← wr_gZ]; exact wr_hi _
theorem fZ_lo (h : am_H) (a k : Nat) : -2147483648 ≤ fZ h a k := by rw [← wr_fZ]; exact wr_lo _
theorem fZ_hi (h : am_H) (a k : Nat) : fZ h a k ≤ 2147483647 := by rw [← wr_fZ]; exact wr_hi _
theorem gI_mI (h : am_H) (a : Nat) (i : Int) : gI h a i = mI (gZ h a i) := (mI_toInt _).symm
theorem gJJ_mL (h : am_H) (a : Nat) (i : Int) : gJJ h a i = mL (gJ h a i) := (mL_toInt _).symm
/-! what a field holds -/
theorem fv_I {c : Nat} {h : am_H} {a k : Nat} (q : sh h a = (5, c)) (hk : k < am_nf c) (ht : am_ft c k = .int ∨ am_ft c k = .boolean ∨ am_ft c k = .char) : gV h a k = .int (mI (fZ h a k)) := by
  have h1 := am_wf_iff.mp (sh_5 q).2 k hk
  unfold fZ
  generalize gV h a k = v at h1 ⊢
  cases v with
  | int x => simp only [vZ, mI_toInt]
  | _ => rcases ht with e | e | e <;> rw [e] at h1 <;> simp [am_okV] at h1
theorem fv_b {c : Nat} {h : am_H} {a k : Nat} (q : sh h a = (5, c)) (hk : k < am_nf c) (ht : am_ft c k = .boolean) : fZ h a k = 0 ∨ fZ h a k = 1 := by
  have h1 := am_wf_iff.mp (sh_5 q).2 k hk
  unfold fZ
  generalize gV h a k = v at h1 ⊢
  cases v with
  | int x =>
    rw [ht] at h1
    simp only [am_okV, Bool.or_eq_true, decide_eq_true_eq] at h1
    rcases h1 with rfl | rfl
    · left; rfl
    · right; rfl
  | _ => rw [ht] at h1; simp [am_okV] at h1
theorem fv_c {c : Nat} {h : am_H} {a k : Nat} (q : sh h a = (5, c)) (hk : k < am_nf c) (ht : am_ft c k = .char) : 0 ≤ fZ h a k ∧ fZ h a k ≤ 65535 := by
  have h1 := am_wf_iff.mp (sh_5 q).2 k hk
  unfold fZ
  generalize gV h a k = v at h1 ⊢
  cases v with
  | int x =>
    rw [ht] at h1
    simp only [am_okV, Bool.and_eq_true, decide_eq_true_eq] at h1
    exact h1
  | _ => rw [ht] at h1; simp [am_okV] at h1
theorem fv_J {c : Nat} {h : am_H} {a k : Nat} (q : sh h a = (5, c)) (hk : k < am_nf c) (ht : am_ft c k = .long) : gV h a k = .long (mL (fJ h a k)) := by
  have h1 := am_wf_iff.mp (sh_5 q).2 k hk
  unfold fJ
  generalize gV h a k = v at h1 ⊢
  cases v with
  | long x => simp only [vJ, mL_toInt]
  | _ => rw [ht] at h1; simp [am_okV] at h1
theorem fv_A {c : Nat} {h : am_H} {a k : Nat} (q : sh h a = (5, c)) (hk : k < am_nf c) (ht : (∃ d, am_ft c k = .object d) ∨ ∃ d, am_ft c k = .array d) : gV h a k = am_rv (fA h a k) := by
  have h1 := am_wf_iff.mp (sh_5 q).2 k hk
  unfold fA
  generalize gV h a k = v at h1 ⊢
  cases v with
  | ref x => rfl
  | null => rfl
  | _ => rcases ht with ⟨d, e⟩ | ⟨d, e⟩ <;> rw [e] at h1 <;> simp [am_okV] at h1
/-! hupdates as seen by the numbers -/
theorem gZ_uZ_eq {h : am_H} {a : Nat} {i j : Int} (v : Int) (q : (sh h a).1 = 1) (e : j = i) : gZ (uZ h a i v) a j = wr v := by
  unfold gZ uZ
  rw [gI_uI q, e]
  unfold am_up
  rw [if_pos rfl]
  rfl
theorem gZ_uZ_nj {h : am_H} {a : Nat} {i j : Int} (v : Int) (q : (sh h a).1 = 1) (e : j ≠ i) : gZ (uZ h a i v) a j = gZ h a j := by
  unfold gZ uZ
  rw [gI_uI q]
  unfold am_up
  rw [if_neg e]
theorem gZ_uZ_ne {h : am_H} {a b : Nat} {i : Int} (v j : Int) (q : b ≠ a) : gZ (uZ h a i v) b j = gZ h b j := by
  unfold gZ uZ
  rw [gI_uI_ne _ _ _ q]
theorem gJ_uJ_eq {h : am_H} {a : Nat} {i j : Int} (v : Int) (q : (sh h a).1 = 2) (e : j = i) : gJ (uJ h a i v) a j = wl v := by
  unfold gJ
  rw [gJJ_uJ q, e]
  unfold am_up
  rw [if_pos rfl]
  rfl
theorem gJ_uJ_nj {h : am_H} {a : Nat} {i j : Int} (v : Int) (q : (sh h a).1 = 2) (e : j ≠ i) : gJ (uJ h a i v) a j = gJ h a j := by
  unfold gJ
  rw [gJJ_uJ q]
  unfold am_up
  rw [if_neg e]
theorem gJ_uJ_ne {h : am_H} {a b : Nat} {i : Int} (v j : Int) (q : b ≠ a) : gJ (uJ h a i v) b j = gJ h b j := by
  unfold gJ
  rw [gJJ_uJ_ne _ _ _ _ q]
theorem gA_uA_eq {h : am_H} {a : Nat} {i j : Int} (r : Option Nat) (q : (sh h a).1 = 4) (e : j = i) : gA (uA h a i r) a j = r := by
  rw [gA_uA q, e]
  unfold am_up
  rw [if_pos rfl]
theorem gA_uA_nj {h : am_H} {a : Nat} {i j : Int} (r : Option Nat) (q : (sh h a).1 = 4) (e : j ≠ i) : gA (uA h a i r) a j = gA h a j := by
  rw [gA_uA q]
  unfold am_up
  rw [if_neg e]
theorem gV_uF_eq {c : Nat} {h : am_H} {a k : Nat} {v : Value} (q : sh h a = (5, c)) (qv : am_okV (am_ft c k) v = true) : gV (uF c h a k v) a k = v := by
  rw [gV_uF q qv]
  unfold am_fu
  rw [if_pos rfl]
theorem gV_uF_nk {c : Nat} {h : am_H} {a b k j : Nat} {v : Value} (q : sh h a = (5, c)) (qv : am_okV (am_ft c k) v = true) (e : j ≠ k) : gV (uF c h a k v) b j = gV h b j := by
  by_cases eb : b = a
  · subst eb
    rw [gV_uF q qv]
    unfold am_fu
    rw [if_neg e]
  · rw [gV_uF_ne _ _ _ _ _ eb]
theorem fZ_uF_eq {c : Nat} {h : am_H} {a k : Nat} {z : Int} (q : sh h a = (5, c)) (qv : am_okV (am_ft c k) (.int (mI z)) = true) : fZ (uF c h a k (.int (mI z))) a k = wr z := by
  unfold fZ
  rw [gV_uF_eq q qv]
  rfl
theorem fJ_uF_eq {c : Nat} {h : am_H} {a k : Nat} {z : Int} (q : sh h a = (5, c)) (qv : am_okV (am_ft c k) (.long (mL z)) = true) : fJ (uF c h a k (.long (mL z))) a k = wl z := by
  unfold fJ
  rw [gV_uF_eq q qv]
  rfl
theorem fA_uF_eq {c : Nat} {h : am_H} {a k : Nat} {r : Option Nat} (q : sh h a = (5, c)) (qv : am_okV (am_ft c k) (am_rv r) = true) : fA (uF c h a k (am_rv r)) a k = r := by
  unfold fA
  rw [gV_uF_eq q qv]
  cases r <;> rfl
theorem fZ_uF_nk {c : Nat} {h : am_H} {a b k j : Nat} {v : Value} (q : sh h a = (5, c)) (qv : am_okV (am_ft c k) v = true) (e : j ≠ k) : fZ (uF c h a k v) b j = fZ h b j := by
  unfold fZ
  rw [gV_uF_nk q qv e]
theorem fZ_uF_ne {c : Nat} {h : am_H} {a b k : Nat} (j : Nat) {v : Value} (q : b ≠ a) : fZ (uF c h a k v) b j = fZ h b j := by
  unfold fZ
  rw [gV_uF_ne _ _ _ _ _ q]
theorem fZ_uI (h : am_H) (a : Nat) (f : Int → Int32) (b j : Nat) : fZ (uI h a f) b j = fZ h b j := by unfold fZ; rw [gV_uI]
theorem fZ_uJ (h : am_H) (a : Nat) (i v : Int) (b j : Nat) : fZ (uJ h a i v) b j = fZ h b j := by unfold fZ; rw [gV_uJ]
theorem fZ_uD (h : am_H) (a : Nat) (i : Int) (v : UInt64) (b j : Nat) : fZ (uD h a i v) b j = fZ h b j := by unfold fZ; rw [gV_uD]
theorem fZ_uA (h : am_H) (a : Nat) (i : Int) (r : Option Nat) (b j : Nat) : fZ (uA h a i r) b j = fZ h b j := by unfold fZ; rw [gV_uA]
theorem fZ_uZ (h : am_H) (a : Nat) (i v : Int) (b j : Nat) : fZ (uZ h a i v) b j = fZ h b j := fZ_uI _ _ _ _ _
theorem fJ_uF_nk {c : Nat} {h : am_H} {a b k j : Nat} {v : Value} (q : sh h a = (5, c)) (qv : am_okV (am_ft c k) v = true) (e : j ≠ k) : fJ (uF c h a k v) b j = fJ h b j := by
  unfold fJ
  rw [gV_uF_nk q qv e]
theorem fJ_uF_ne {c : Nat} {h : am_H} {a b k : Nat} (j : Nat) {v : Value} (q : b ≠ a) : fJ (uF c h a k v) b j = fJ h b j := by
  unfold fJ
  rw [gV_uF_ne _ _ _ _ _ q]
theorem fJ_uI (h : am_H) (a : Nat) (f : Int → Int32) (b j : Nat) : fJ (uI h a f) b j = fJ h b j := by unfold fJ; rw [gV_uI]
theorem fJ_uJ (h : am_H) (a : Nat) (i v : Int) (b j : Nat) : fJ (uJ h a i v) b j = fJ h b j := by unfold fJ; rw [gV_uJ]
theorem fJ_uD (h : am_H) (a : Nat) (i : Int) (v : UInt64) (b j : Nat) : fJ (uD h a i v) b j = fJ h b j := by unfold fJ; rw [gV_uD]
theorem fJ_uA (h : am_H) (a : Nat) (i : Int) (r : Option Nat) (b j : Nat) : fJ (uA h a i r) b j = fJ h b j := by unfold fJ; rw [gV_uA]
theorem fJ_uZ (h : am_H) (a : Nat) (i v : Int) (b j : Nat) : fJ (uZ h a i v) b j = fJ h b j := fJ_uI _ _ _ _ _
theorem fA_uF_nk {c : Nat} {h : am_H} {a b k j : Nat} {v : Value} (q : sh h a = (5, c)) (qv : am_okV (am_ft c k) v = true) (e : j ≠ k) : fA (uF c h a k v) b j = fA h b j := by
  unfold fA
  rw [gV_uF_nk q qv e]
theorem fA_uF_ne {c : Nat} {h : am_H} {a b k : Nat} (j : Nat) {v : Value} (q : b ≠ a) : fA (uF c h a k v) b j = fA h b j := by
  unfold fA
  rw [gV_uF_ne _ _ _ _ _ q]
theorem fA_uI (h : am_H) (a : Nat) (f : Int → Int32) (b j : Nat) : fA (uI h a f) b j = fA h b j := by unfold fA; rw [gV_uI]
theorem fA_uJ (h : am_H) (a : Nat) (i v : Int) (b j : Nat) : fA (uJ h a i v) b j = fA h b j := by unfold fA; rw [gV_uJ]
theorem fA_uD (h : am_H) (a : Nat) (i : Int) (v : UInt64) (b j : Nat) : fA (uD h a i v) b j = fA h b j := by unfold fA; rw [gV_uD]
theorem fA_uA (h : am_H) (a : Nat) (i : Int) (r : Option Nat) (b j : Nat) : fA (uA h a i r) b j = fA h b j := by unfold fA; rw [gV_uA]
theorem fA_uZ (h : am_H) (a : Nat) (i v : Int) (b j : Nat) : fA (uZ h a i v) b j = fA h b j := fA_uI _ _ _ _ _
theorem sh_uZ (h : am_H) (a : Nat) (i v : Int) (b : Nat) : sh (uZ h a i v) b = sh h b := sh_uI _ _ _ _
theorem gn_uZ (h : am_H) (a : Nat) (i v : Int) (b : Nat) : gn (uZ h a i v) b = gn h b := gn_uI _ _ _ _
theorem gA_uZ (h : am_H) (a : Nat) (i v : Int) (b : Nat) : gA (uZ h a i v) b = gA h b := gA_uI _ _ _ _
theorem gJJ_uZ (h : am_H) (a : Nat) (i v : Int) (b : Nat) : gJJ (uZ h a i v) b = gJJ h b := gJJ_uI _ _ _ _
theorem gDD_uZ (h : am_H) (a : Nat) (i v : Int) (b : Nat) : gDD (uZ h a i v) b = gDD h b := gDD_uI _ _ _ _
theorem gV_uZ (h : am_H) (a : Nat) (i v : Int) (b : Nat) : gV (uZ h a i v) b = gV h b := gV_uI _ _ _ _
theorem hnx_uZ (h : am_H) (a : Nat) (i v : Int) : hnx (uZ h a i v) = hnx h := hnx_uI _ _ _
theorem hcl_uZ (h : am_H) (a : Nat) (i v : Int) : hcl (uZ h a i v) = hcl h := hcl_uI _ _ _
theorem hsl_uZ (h : am_H) (a : Nat) (i v : Int) : hsl (uZ h a i v) = hsl h := hsl_uI _ _ _
theorem gZ_uJ (h : am_H) (a : Nat) (i v : Int) (b : Nat) (j : Int) : gZ (uJ h a i v) b j = gZ h b j := by unfold gZ; rw [gI_uJ]
theorem gZ_uD (h : am_H) (a : Nat) (i : Int) (v : UInt64) (b : Nat) (j : Int) : gZ (uD h a i v) b j = gZ h b j := by unfold gZ; rw [gI_uD]
theorem gZ_uA (h : am_H) (a : Nat) (i : Int) (r : Option Nat) (b : Nat) (j : Int) : gZ (uA h a i r) b j = gZ h b j := by unfold gZ; rw [gI_uA]
theorem gZ_uF (c : Nat) (h : am_H) (a k : Nat) (v : Value) (b : Nat) (j : Int) : gZ (uF c h a k v) b j = gZ h b j := by unfold gZ; rw [gI_uF]
theorem gJ_uI (h : am_H) (a : Nat) (f : Int → Int32) (b : Nat) (j : Int) : gJ (uI h a f) b j = gJ h b j := by unfold gJ; rw [gJJ_uI]
theorem gJ_uD (h : am_H) (a : Nat) (i : Int) (v : UInt64) (b : Nat) (j : Int) : gJ (uD h a i v) b j = gJ h b j := by unfold gJ; rw [gJJ_uD]
theorem gJ_uA (h : am_H) (a : Nat) (i : Int) (r : Option Nat) (b : Nat) (j : Int) : gJ (uA h a i r) b j = gJ h b j := by unfold gJ; rw [gJJ_uA]
theorem gJ_uF (c : Nat) (h : am_H) (a k : Nat) (v : Value) (b : Nat) (j : Int) : gJ (uF c h a k v) b j = gJ h b j := by unfold gJ; rw [gJJ_uF]
theorem gJ_uZ (h : am_H) (a : Nat) (i v : Int) (b : Nat) (j : Int) : gJ (uZ h a i v) b j = gJ h b j := gJ_uI _ _ _ _ _
theorem sh_aI_ne (t n : Nat) (h : am_H) {b : Nat} (q : b ≠ hnx h) : sh (aI t n h) b = sh h b := (oc_alc _ _ _ _ _ _).trans (if_neg q)
theorem gn_aI_ne (t n : Nat) (h : am_H) {b : Nat} (q : b ≠ hnx h) : gn (aI t n h) b = gn h b := (oc_alc _ _ _ _ _ _).trans (if_neg q)
theorem gI_aI_ne (t n : Nat) (h : am_H) {b : Nat} (q : b ≠ hnx h) : gI (aI t n h) b = gI h b := (oc_alc _ _ _ _ _ _).trans (if_neg q)
theorem gJJ_aI_ne (t n : Nat) (h : am_H) {b : Nat} (q : b ≠ hnx h) : gJJ (aI t n h) b = gJJ h b := (oc_alc _ _ _ _ _ _).trans (if_neg q)
theorem gDD_aI_ne (t n : Nat) (h : am_H) {b : Nat} (q : b ≠ hnx h) : gDD (aI t n h) b = gDD h b := (oc_alc _ _ _ _ _ _).trans (if_neg q)
theorem gA_aI_ne (t n : Nat) (h : am_H) {b : Nat} (q : b ≠ hnx h) : gA (aI t n h) b = gA h b := (oc_alc _ _ _ _ _ _).trans (if_neg q)
theorem gV_aI_ne (t n : Nat) (h : am_H) {b : Nat} (q : b ≠ hnx h) : gV (aI t n h) b = gV h b := (oc_alc _ _ _ _ _ _).trans (if_neg q)
theorem gZ_aI_ne (t n : Nat) (h : am_H) {b : Nat} (j : Int) (q : b ≠ hnx h) : gZ (aI t n h) b j = gZ h b j := by unfold gZ; rw [gI_aI_ne _ _ _ q]
theorem gJ_aI_ne (t n : Nat) (h : am_H) {b : Nat} (j : Int) (q : b ≠ hnx h) : gJ (aI t n h) b j = gJ h b j := by unfold gJ; rw [gJJ_aI_ne _ _ _ q]
theorem fZ_aI_ne (t n : Nat) (h : am_H) {b : Nat} (j : Nat) (q : b ≠ hnx h) : fZ (aI t n h) b j = fZ h b j := by unfold fZ; rw [gV_aI_ne _ _ _ q]
theorem fJ_aI_ne (t n : Nat) (h : am_H) {b : Nat} (j : Nat) (q : b ≠ hnx h) : fJ (aI t n h) b j = fJ h b j := by unfold fJ; rw [gV_aI_ne _ _ _ q]
theorem fA_aI_ne (t n : Nat) (h : am_H) {b : Nat} (j : Nat) (q : b ≠ hnx h) : fA (aI t n h) b j = fA h b j := by unfold fA; rw [gV_aI_ne _ _ _ q]
theorem hnx_aI (t n : Nat) (h : am_H) : hnx (aI t n h) = hnx h + 1 := rfl
theorem hcl_aI (t n : Nat) (h : am_H) : hcl (aI t n h) = hcl h + 1 := rfl
theorem hsl_aI (t n : Nat) (h : am_H) : hsl (aI t n h) = hsl h + n := rfl
theorem sh_aJ_ne (n : Nat) (h : am_H) {b : Nat} (q : b ≠ hnx h) : sh (aJ n h) b = sh h b := (oc_alc _ _ _ _ _ _).trans (if_neg q)
theorem gn_aJ_ne (n : Nat) (h : am_H) {b : Nat} (q : b ≠ hnx h) : gn (aJ n h) b = gn h b := (oc_alc _ _ _ _ _ _).trans (if_neg q)
theorem gI_aJ_ne (n : Nat) (h : am_H) {b : Nat} (q : b ≠ hnx h) : gI (aJ n h) b = gI h b := (oc_alc _ _ _ _ _ _).trans (if_neg q)
theorem gJJ_aJ_ne (n : Nat) (h : am_H) {b : Nat} (q : b ≠ hnx h) : gJJ (aJ n h) b = gJJ h b := (oc_alc _ _ _ _ _ _).trans (if_neg q)
theorem gDD_aJ_ne (n : Nat) (h : am_H) {b : Nat} (q : b ≠ hnx h) : gDD (aJ n h) b = gDD h b := (oc_alc _ _ _ _ _ _).trans (if_neg q)
theorem gA_aJ_ne (n : Nat) (h : am_H) {b : Nat} (q : b ≠ hnx h) : gA (aJ n h) b = gA h b := (oc_alc _ _ _ _ _ _).trans (if_neg q)
theorem gV_aJ_ne (n : Nat) (h : am_H) {b : Nat} (q : b ≠ hnx h) : gV (aJ n h) b = gV h b := (oc_alc _ _ _ _ _ _).trans (if_neg q)
theorem gZ_aJ_ne (n : Nat) (h : am_H) {b : Nat} (j : Int) (q : b ≠ hnx h) : gZ (aJ n h) b j = gZ h b j := by unfold gZ; rw [gI_aJ_ne _ _ q]
theorem gJ_aJ_ne (n : Nat) (h : am_H) {b : Nat} (j : Int) (q : b ≠ hnx h) : gJ (aJ n h) b j = gJ h b j := by unfold gJ; rw [gJJ_aJ_ne _ _ q]
theorem fZ_aJ_ne (n : Nat) (h : am_H) {b : Nat} (j : Nat) (q : b ≠ hnx h) : fZ (aJ n h) b j = fZ h b j := by unfold fZ; rw [gV_aJ_ne _ _ q]
theorem fJ_aJ_ne (n : Nat) (h : am_H) {b : Nat} (j : Nat) (q : b ≠ hnx h) : fJ (aJ n h) b j = fJ h b j := by unfold fJ; rw [gV_aJ_ne _ _ q]
theorem fA_aJ_ne (n : Nat) (h : am_H) {b : Nat} (j : Nat) (q : b ≠ hnx h) : fA (aJ n h) b j = fA h b j := by unfold fA; rw [gV_aJ_ne _ _ q]
theorem hnx_aJ (n : Nat) (h : am_H) : hnx (aJ n h) = hnx h + 1 := rfl
theorem hcl_aJ (n : Nat) (h : am_H) : hcl (aJ n h) = hcl h + 1 := rfl
theorem hsl_aJ (n : Nat) (h : am_H) : hsl (aJ n h) = hsl h + n := rfl
theorem sh_aD_ne (n : Nat) (h : am_H) {b : Nat} (q : b ≠ hnx h) : sh (aD n h) b = sh h b := (oc_alc _ _ _ _ _ _).trans (if_neg q)
theorem gn_aD_ne (n : Nat) (h : am_H) {b : Nat} (q : b ≠ hnx h) : gn (aD n h) b = gn h b := (oc_alc _ _ _ _ _ _).trans (if_neg q)
theorem gI_aD_ne (n : Nat) (h : am_H) {b : Nat} (q : b ≠ hnx h) : gI (aD n h) b = gI h b := (oc_alc _ _ _ _ _ _).trans (if_neg q)
theorem gJJ_aD_ne (n : Nat) (h : am_H) {b : Nat} (q : b ≠ hnx h) : gJJ (aD n h) b = gJJ h b := (oc_alc _ _ _ _ _ _).trans (if_neg q)
theorem gDD_aD_ne (n : Nat) (h : am_H) {b : Nat} (q : b ≠ hnx h) : gDD (aD n h) b = gDD h b := (oc_alc _ _ _ _ _ _).trans (if_neg q)
theorem gA_aD_ne (n : Nat) (h : am_H) {b : Nat} (q : b ≠ hnx h) : gA (aD n h) b = gA h b := (oc_alc _ _ _ _ _ _).trans (if_neg q)
theorem gV_aD_ne (n : Nat) (h : am_H) {b : Nat} (q : b ≠ hnx h) : gV (aD n h) b = gV h b := (oc_alc _ _ _ _ _ _).trans (if_neg q)
theorem gZ_aD_ne (n : Nat) (h : am_H) {b : Nat} (j : Int) (q : b ≠ hnx h) : gZ (aD n h) b j = gZ h b j := by unfold gZ; rw [gI_aD_ne _ _ q]
theorem gJ_aD_ne (n : Nat) (h : am_H) {b : Nat} (j : Int) (q : b ≠ hnx h) : gJ (aD n h) b j = gJ h b j := by unfold gJ; rw [gJJ_aD_ne _ _ q]
theorem fZ_aD_ne (n : Nat) (h : am_H) {b : Nat} (j : Nat) (q : b ≠ hnx h) : fZ (aD n h) b j = fZ h b j := by unfold fZ; rw [gV_aD_ne _ _ q]
theorem fJ_aD_ne (n : Nat) (h : am_H) {b : Nat} (j : Nat) (q : b ≠ hnx h) : fJ (aD n h) b j = fJ h b j := by unfold fJ; rw [gV_aD_ne _ _ q]
theorem fA_aD_ne (n : Nat) (h : am_H) {b : Nat} (j : Nat) (q : b ≠ hnx h) : fA (aD n h) b j = fA h b j := by unfold fA; rw [gV_aD_ne _ _ q]
theorem hnx_aD (n : Nat) (h : am_H) : hnx (aD n h) = hnx h + 1 := rfl
theorem hcl_aD (n : Nat) (h : am_H) : hcl (aD n h) = hcl h + 1 := rfl
theorem hsl_aD (n : Nat) (h : am_H) : hsl (aD n h) = hsl h + n := rfl
theorem sh_aA_ne (t n : Nat) (h : am_H) {b : Nat} (q : b ≠ hnx h) : sh (aA t n h) b = sh h b := (oc_alc _ _ _ _ _ _).trans (if_neg q)
theorem gn_aA_ne (t n : Nat) (h : am_H) {b : Nat} (q : b ≠ hnx h) : gn (aA t n h) b = gn h b := (oc_alc _ _ _ _ _ _).trans (if_neg q)
theorem gI_aA_ne (t n : Nat) (h : am_H) {b : Nat} (q : b ≠ hnx h) : gI (aA t n h) b = gI h b := (oc_alc _ _ _ _ _ _).trans (if_neg q)
theorem gJJ_aA_ne (t n : Nat) (h : am_H) {b : Nat} (q : b ≠ hnx h) : gJJ (aA t n h) b = gJJ h b := (oc_alc _ _ _ _ _ _).trans (if_neg q)
theorem gDD_aA_ne (t n : Nat) (h : am_H) {b : Nat} (q : b ≠ hnx h) : gDD (aA t n h) b = gDD h b := (oc_alc _ _ _ _ _ _).trans (if_neg q)
theorem gA_aA_ne (t n : Nat) (h : am_H) {b : Nat} (q : b ≠ hnx h) : gA (aA t n h) b = gA h b := (oc_alc _ _ _ _ _ _).trans (if_neg q)
theorem gV_aA_ne (t n : Nat) (h : am_H) {b : Nat} (q : b ≠ hnx h) : gV (aA t n h) b = gV h b := (oc_alc _ _ _ _ _ _).trans (if_neg q)
theorem gZ_aA_ne (t n : Nat) (h : am_H) {b : Nat} (j : Int) (q : b ≠ hnx h) : gZ (aA t n h) b j = gZ h b j := by unfold gZ; rw [gI_aA_ne _ _ _ q]
theorem gJ_aA_ne (t n : Nat) (h : am_H) {b : Nat} (j : Int) (q : b ≠ hnx h) : gJ (aA t n h) b j = gJ h b j := by unfold gJ; rw [gJJ_aA_ne _ _ _ q]
theorem fZ_aA_ne (t n : Nat) (h : am_H) {b : Nat} (j : Nat) (q : b ≠ hnx h) : fZ (aA t n h) b j = fZ h b j := by unfold fZ; rw [gV_aA_ne _ _ _ q]
theorem fJ_aA_ne (t n : Nat) (h : am_H) {b : Nat} (j : Nat) (q : b ≠ hnx h) : fJ (aA t n h) b j = fJ h b j := by unfold fJ; rw [gV_aA_ne _ _ _ q]
theorem fA_aA_ne (t n : Nat) (h : am_H) {b : Nat} (j : Nat) (q : b ≠ hnx h) : fA (aA t n h) b j = fA h b j := by unfold fA; rw [gV_aA_ne _ _ _ q]
theorem hnx_aA (t n : Nat) (h : am_H) : hnx (aA t n h) = hnx h + 1 := rfl
theorem hcl_aA (t n : Nat) (h : am_H) : hcl (aA t n h) = hcl h + 1 := rfl
theorem hsl_aA (t n : Nat) (h : am_H) : hsl (aA t n h) = hsl h + n := rfl
theorem sh_aO_ne (c : Nat) (h : am_H) {b : Nat} (q : b ≠ hnx h) : sh (aO c h) b = sh h b := (oc_alc _ _ _ _ _ _).trans (if_neg q)
theorem gn_aO_ne (c : Nat) (h : am_H) {b : Nat} (q : b ≠ hnx h) : gn (aO c h) b = gn h b := (oc_alc _ _ _ _ _ _).trans (if_neg q)
theorem gI_aO_ne (c : Nat) (h : am_H) {b : Nat} (q : b ≠ hnx h) : gI (aO c h) b = gI h b := (oc_alc _ _ _ _ _ _).trans (if_neg q)
theorem gJJ_aO_ne (c : Nat) (h : am_H) {b : Nat} (q : b ≠ hnx h) : gJJ (aO c h) b = gJJ h b := (oc_alc _ _ _ _ _ _).trans (if_neg q)
theorem gDD_aO_ne (c : Nat) (h : am_H) {b : Nat} (q : b ≠ hnx h) : gDD (aO c h) b = gDD h b := (oc_alc _ _ _ _ _ _).trans (if_neg q)
theorem gA_aO_ne (c : Nat) (h : am_H) {b : Nat} (q : b ≠ hnx h) : gA (aO c h) b = gA h b := (oc_alc _ _ _ _ _ _).trans (if_neg q)
theorem gV_aO_ne (c : Nat) (h : am_H) {b : Nat} (q : b ≠ hnx h) : gV (aO c h) b = gV h b := (oc_alc _ _ _ _ _ _).trans (if_neg q)
theorem gZ_aO_ne (c : Nat) (h : am_H) {b : Nat} (j : Int) (q : b ≠ hnx h) : gZ (aO c h) b j = gZ h b j := by unfold gZ; rw [gI_aO_ne _ _ q]
theorem gJ_aO_ne (c : Nat) (h : am_H) {b : Nat} (j : Int) (q : b ≠ hnx h) : gJ (aO c h) b j = gJ h b j := by unfold gJ; rw [gJJ_aO_ne _ _ q]
theorem fZ_aO_ne (c : Nat) (h : am_H) {b : Nat} (j : Nat) (q : b ≠ hnx h) : fZ (aO c h) b j = fZ h b j := by unfold fZ; rw [gV_aO_ne _ _ q]
theorem fJ_aO_ne (c : Nat) (h : am_H) {b : Nat} (j : Nat) (q : b ≠ hnx h) : fJ (aO c h) b j = fJ h b j := by unfold fJ; rw [gV_aO_ne _ _ q]
theorem fA_aO_ne (c : Nat) (h : am_H) {b : Nat} (j : Nat) (q : b ≠ hnx h) : fA (aO c h) b j = fA h b j := by unfold fA; rw [gV_aO_ne _ _ q]
theorem hnx_aO (c : Nat) (h : am_H) : hnx (aO c h) = hnx h + 1 := rfl
theorem hcl_aO (c : Nat) (h : am_H) : hcl (aO c h) = hcl h + 1 := rfl
theorem hsl_aO (c : Nat) (h : am_H) : hsl (aO c h) = hsl h + am_nf c := rfl
theorem sh_aC_ne (a : Nat) (h : am_H) {b : Nat} (q : b ≠ hnx h) : sh (aC a h) b = sh h b := (oc_alc _ _ _ _ _ _).trans (if_neg q)
theorem gn_aC_ne (a : Nat) (h : am_H) {b : Nat} (q : b ≠ hnx h) : gn (aC a h) b = gn h b := (oc_alc _ _ _ _ _ _).trans (if_neg q)
theorem gI_aC_ne (a : Nat) (h : am_H) {b : Nat} (q : b ≠ hnx h) : gI (aC a h) b = gI h b := (oc_alc _ _ _ _ _ _).trans (if_neg q)
theorem gJJ_aC_ne (a : Nat) (h : am_H) {b : Nat} (q : b ≠ hnx h) : gJJ (aC a h) b = gJJ h b := (oc_alc _ _ _ _ _ _).trans (if_neg q)
theorem gDD_aC_ne (a : Nat) (h : am_H) {b : Nat} (q : b ≠ hnx h) : gDD (aC a h) b = gDD h b := (oc_alc _ _ _ _ _ _).trans (if_neg q)
theorem gA_aC_ne (a : Nat) (h : am_H) {b : Nat} (q : b ≠ hnx h) : gA (aC a h) b = gA h b := (oc_alc _ _ _ _ _ _).trans (if_neg q)
theorem gV_aC_ne (a : Nat) (h : am_H) {b : Nat} (q : b ≠ hnx h) : gV (aC a h) b = gV h b := (oc_alc _ _ _ _ _ _).trans (if_neg q)
theorem gZ_aC_ne (a : Nat) (h : am_H) {b : Nat} (j : Int) (q : b ≠ hnx h) : gZ (aC a h) b j = gZ h b j := by unfold gZ; rw [gI_aC_ne _ _ q]
theorem gJ_aC_ne (a : Nat) (h : am_H) {b : Nat} (j : Int) (q : b ≠ hnx h) : gJ (aC a h) b j = gJ h b j := by unfold gJ; rw [gJJ_aC_ne _ _ q]
theorem fZ_aC_ne (a : Nat) (h : am_H) {b : Nat} (j : Nat) (q : b ≠ hnx h) : fZ (aC a h) b j = fZ h b j := by unfold fZ; rw [gV_aC_ne _ _ q]
theorem fJ_aC_ne (a : Nat) (h : am_H) {b : Nat} (j : Nat) (q : b ≠ hnx h) : fJ (aC a h) b j = fJ h b j := by unfold fJ; rw [gV_aC_ne _ _ q]
theorem fA_aC_ne (a : Nat) (h : am_H) {b : Nat} (j : Nat) (q : b ≠ hnx h) : fA (aC a h) b j = fA h b j := by unfold fA; rw [gV_aC_ne _ _ q]
theorem hnx_aC (a : Nat) (h : am_H) : hnx (aC a h) = hnx h + 1 := rfl
theorem hcl_aC (a : Nat) (h : am_H) : hcl (aC a h) = hcl h + 1 := rfl
theorem hsl_aC (a : Nat) (h : am_H) : hsl (aC a h) = hsl h + gn h a := rfl
theorem sh_aI {t n : Nat} {h : am_H} (hn : n ≤ 65536) : sh (aI t n h) (hnx h) = (1, t) := (oc_alc _ _ _ _ _ _).trans ((if_pos rfl).trans (by simp only [c_sh, hn, if_true]))
theorem sh_aJ {n : Nat} {h : am_H} (hn : n ≤ 65536) : sh (aJ n h) (hnx h) = (2, 3) := (oc_alc _ _ _ _ _ _).trans ((if_pos rfl).trans (by simp only [c_sh, hn, and_self, if_true]))
theorem sh_aD {n : Nat} {h : am_H} (hn : n ≤ 65536) : sh (aD n h) (hnx h) = (3, 4) := (oc_alc _ _ _ _ _ _).trans ((if_pos rfl).trans (by simp only [c_sh, hn, and_self, if_true]))
theorem sh_aA {t n : Nat} {h : am_H} (hn : n ≤ 65536) (ht : t = 5 ∨ t = 6) : sh (aA t n h) (hnx h) = (4, t) := (oc_alc _ _ _ _ _ _).trans ((if_pos rfl).trans (by simp only [c_sh, hn, ht, and_self, if_true]))
theorem sh_aC {a : Nat} {h : am_H} (q : (sh h a).1 = 1) : sh (aC a h) (hnx h) = (1, 0) := (oc_alc _ _ _ _ _ _).trans ((if_pos rfl).trans (by simp only [c_sh, (sh_1 q).2, if_true]))
theorem sh_aO {c : Nat} {h : am_H} (hc : am_wf c (fun k => defaultValue (am_ft c k)) = true) : sh (aO c h) (hnx h) = (5, c) := (oc_alc _ _ _ _ _ _).trans ((if_pos rfl).trans (by simp only [c_sh, hc, if_true]))
theorem gn_aI (t n : Nat) (h : am_H) : gn (aI t n h) (hnx h) = n := (oc_alc _ _ _ _ _ _).trans (if_pos rfl)
theorem gn_aJ (n : Nat) (h : am_H) : gn (aJ n h) (hnx h) = n := (oc_alc _ _ _ _ _ _).trans (if_pos rfl)
theorem gn_aD (n : Nat) (h : am_H) : gn (aD n h) (hnx h) = n := (oc_alc _ _ _ _ _ _).trans (if_pos rfl)
theorem gn_aA (t n : Nat) (h : am_H) : gn (aA t n h) (hnx h) = n := (oc_alc _ _ _ _ _ _).trans (if_pos rfl)
theorem gn_aC (a : Nat) (h : am_H) : gn (aC a h) (hnx h) = gn h a := (oc_alc _ _ _ _ _ _).trans (if_pos rfl)
theorem gI_aI (t n : Nat) (h : am_H) : gI (aI t n h) (hnx h) = fun _ => 0 := (oc_alc _ _ _ _ _ _).trans (if_pos rfl)
theorem gJJ_aJ (n : Nat) (h : am_H) : gJJ (aJ n h) (hnx h) = fun _ => 0 := (oc_alc _ _ _ _ _ _).trans (if_pos rfl)
theorem gA_aA (t n : Nat) (h : am_H) : gA (aA t n h) (hnx h) = fun _ => none := (oc_alc _ _ _ _ _ _).trans (if_pos rfl)
theorem gI_aC (a : Nat) (h : am_H) : gI (aC a h) (hnx h) = gI h a := (oc_alc _ _ _ _ _ _).trans (if_pos rfl)
theorem gV_aO (c : Nat) (h : am_H) : gV (aO c h) (hnx h) = fun k => defaultValue (am_ft c k) := (oc_alc _ _ _ _ _ _).trans (if_pos rfl)
theorem gZ_aI (t n : Nat) (h : am_H) (i : Int) : gZ (aI t n h) (hnx h) i = 0 := by unfold gZ; rw [gI_aI]; rfl
theorem gJ_aJ (n : Nat) (h : am_H) (i : Int) : gJ (aJ n h) (hnx h) i = 0 := by unfold gJ; rw [gJJ_aJ]; rfl
theorem gZ_aC (a : Nat) (h : am_H) (i : Int) : gZ (aC a h) (hnx h) i = gZ h a i := by unfold gZ; rw [gI_aC]
theorem fV_aO (c : Nat) (h : am_H) (k : Nat) : gV (aO c h) (hnx h) k = defaultValue (am_ft c k) := by rw [gV_aO]
/-! frames -/
def Fx (S : Nat → Nat → Prop) (c s : Nat) (h h' : am_H) : Prop := hnx h ≤ hnx h' ∧ hcl h' ≤ hcl h + c ∧ hsl h' ≤ hsl h + s ∧ ∀ a, a < hnx h → (sh h' a = sh h a ∧ gn h' a = gn h a) ∧ (¬ S a 0 → gI h' a = gI h a ∧ gJJ h' a = gJJ h a ∧ gDD h' a = gDD h a ∧ gA h' a = gA h a) ∧ ∀ k, ¬ S a k → gV h' a k = gV h a k
section FX
variable {S T : Nat → Nat → Prop} {c s c' s' : Nat} {h h' h'' : am_H}
theorem Fx.refl (S : Nat → Nat → Prop) (c s : Nat) (h : am_H) : Fx S c s h h := ⟨Nat.le_refl _, Nat.le_add_right _ _, Nat.le_add_right _ _, fun _ _ => ⟨⟨rfl, rfl⟩, fun _ => ⟨rfl, rfl, rfl, rfl⟩, fun _ _ => rfl⟩⟩
theorem Fx.mono (F : Fx S c s h h') (q : ∀ a k, a < hnx h → S a k → T a k) (hc : c ≤ c') (hs : s ≤ s') : Fx T c' s' h h' :=
  ⟨F.1, Nat.le_trans F.2.1 (by omega), Nat.le_trans F.2.2.1 (by omega), fun a ha => ⟨(F.2.2.2 a ha).1, fun n => (F.2.2.2 a ha).2.1 fun x => n (q _ _ ha x), fun k n => (F.2.2.2 a ha).2.2 k fun x => n (q _ _ ha x)⟩⟩
theorem Fx.trans (F : Fx S c s h h') (G : Fx T c' s' h' h'') : Fx (fun a k => S a k ∨ T a k) (c + c') (s + s') h h'' := by
  refine ⟨Nat.le_trans F.1 G.1, ?_, ?_, fun a ha => ?_⟩
  · have := F.2.1; have := G.2.1; omega
  · have := F.2.2.1; have := G.2.2.1; omega
  · have f := F.2.2.2 a ha
    have g := G.2.2.2 a (Nat.lt_of_lt_of_le ha F.1)
    refine ⟨⟨g.1.1.trans f.1.1, g.1.2.trans f.1.2⟩, fun n => ?_, fun k n => ?_⟩
    · have f2 := f.2.1 fun x => n (Or.inl x)
      have g2 := g.2.1 fun x => n (Or.inr x)
      exact ⟨g2.1.trans f2.1, g2.2.1.trans f2.2.1, g2.2.2.1.trans f2.2.2.1, g2.2.2.2.trans f2.2.2.2⟩
    · exact (g.2.2 k fun x => n (Or.inr x)).trans (f.2.2 k fun x => n (Or.inl x))
theorem Fx.then (F : Fx S c s h h') (G : Fx S c' s' h' h'') : Fx S (c + c') (s + s') h h'' := (F.trans G).mono (fun _ _ _ x => x.elim id id) (Nat.le_refl _) (Nat.le_refl _)
theorem Fx.nx (F : Fx S c s h h') : hnx h ≤ hnx h' := F.1
theorem Fx.sh1 (F : Fx S c s h h') {a : Nat} (ha : a < hnx h) : sh h' a = sh h a := (F.2.2.2 a ha).1.1
theorem Fx.gn1 (F : Fx S c s h h') {a : Nat} (ha : a < hnx h) : gn h' a = gn h a := (F.2.2.2 a ha).1.2
theorem Fx.gI1 (F : Fx S c s h h') {a : Nat} (ha : a < hnx h) (n : ¬ S a 0) : gI h' a = gI h a := ((F.2.2.2 a ha).2.1 n).1
theorem Fx.gZ1 (F : Fx S c s h h') {a : Nat} (i : Int) (ha : a < hnx h) (n : ¬ S a 0) : gZ h' a i = gZ h a i := by unfold gZ; rw [F.gI1 ha n]
theorem Fx.gJJ1 (F : Fx S c s h h') {a : Nat} (ha : a < hnx h) (n : ¬ S a 0) : gJJ h' a = gJJ h a := ((F.2.2.2 a ha).2.1 n).2.1
theorem Fx.gJ1 (F : Fx S c s h h') {a : Nat} (i : Int) (ha : a < hnx h) (n : ¬ S a 0) : gJ h' a i = gJ h a i := by unfold gJ; rw [F.gJJ1 ha n]
theorem Fx.gDD1 (F : Fx S c s h h') {a : Nat} (ha : a < hnx h) (n : ¬ S a 0) : gDD h' a = gDD h a := ((F.2.2.2 a ha).2.1 n).2.2.1
theorem Fx.gA1 (F : Fx S c s h h') {a : Nat} (ha : a < hnx h) (n : ¬ S a 0) : gA h' a = gA h a := ((F.2.2.2 a ha).2.1 n).2.2.2
theorem Fx.gV1 (F : Fx S c s h h') {a k : Nat} (ha : a < hnx h) (n : ¬ S a k) : gV h' a k = gV h a k := (F.2.2.2 a ha).2.2 k n
theorem Fx.fZ1 (F : Fx S c s h h') {a k : Nat} (ha : a < hnx h) (n : ¬ S a k) : fZ h' a k = fZ h a k := by unfold fZ; rw [F.gV1 ha n]
theorem Fx.fJ1 (F : Fx S c s h h') {a k : Nat} (ha : a < hnx h) (n : ¬ S a k) : fJ h' a k = fJ h a k := by unfold fJ; rw [F.gV1 ha n]
theorem Fx.fA1 (F : Fx S c s h h') {a k : Nat} (ha : a < hnx h) (n : ¬ S a k) : fA h' a k = fA h a k := by unfold fA; rw [F.gV1 ha n]
end FX
theorem Fx_uI (h : am_H) (a : Nat) (f : Int → Int32) : Fx (fun b _ => b = a) 0 0 h (uI h a f) :=
  ⟨Nat.le_of_eq (hnx_uI _ _ _).symm, Nat.le_of_eq (hcl_uI _ _ _), Nat.le_of_eq (hsl_uI _ _ _), fun b _ => ⟨⟨sh_uI _ _ _ _, gn_uI _ _ _ _⟩, fun n => ⟨gI_uI_ne _ _ _ n, gJJ_uI _ _ _ _, gDD_uI _ _ _ _, gA_uI _ _ _ _⟩, fun k _ => by rw [gV_uI]⟩⟩
theorem Fx_uZ (h : am_H) (a : Nat) (i v : Int) : Fx (fun b _ => b = a) 0 0 h (uZ h a i v) := Fx_uI _ _ _
theorem Fx_uJ (h : am_H) (a : Nat) (i v : Int) : Fx (fun b _ => b = a) 0 0 h (uJ h a i v) :=
  ⟨Nat.le_of_eq (hnx_uJ _ _ _ _).symm, Nat.le_of_eq (hcl_uJ _ _ _ _), Nat.le_of_eq (hsl_uJ _ _ _ _), fun b _ => ⟨⟨sh_uJ _ _ _ _ _, gn_uJ _ _ _ _ _⟩, fun n => ⟨gI_uJ _ _ _ _ _, gJJ_uJ_ne _ _ _ _ n, gDD_uJ _ _ _ _ _, gA_uJ _ _ _ _ _⟩, fun k _ => by rw [gV_uJ]⟩⟩
theorem Fx_uD (h : am_H) (a : Nat) (i : Int) (v : UInt64) : Fx (fun b _ => b = a) 0 0 h (uD h a i v) :=
  ⟨Nat.le_of_eq (hnx_uD _ _ _ _).symm, Nat.le_of_eq (hcl_uD _ _ _ _), Nat.le_of_eq (hsl_uD _ _ _ _), fun b _ => ⟨⟨sh_uD _ _ _ _ _, gn_uD _ _ _ _ _⟩, fun n => ⟨gI_uD _ _ _ _ _, gJJ_uD _ _ _ _ _, gDD_uD_ne _ _ _ _ n, gA_uD _ _ _ _ _⟩, fun k _ => by rw [gV_uD]⟩⟩
theorem Fx_uA (h : am_H) (a : Nat) (i : Int) (r : Option Nat) : Fx (fun b _ => b = a) 0 0 h (uA h a i r) :=
  ⟨Nat.le_of_eq (hnx_uA _ _ _ _).symm, Nat.le_of_eq (hcl_uA _ _ _ _), Nat.le_of_eq (hsl_uA _ _ _ _), fun b _ => ⟨⟨sh_uA _ _ _ _ _, gn_uA _ _ _ _ _⟩, fun n => ⟨gI_uA _ _ _ _ _, gJJ_uA _ _ _ _ _, gDD_uA _ _ _ _ _, gA_uA_ne _ _ _ _ n⟩, fun k _ => by rw [gV_uA]⟩⟩
theorem Fx_uF {c : Nat} {h : am_H} {a k : Nat} {v : Value} (q : sh h a = (5, c)) (qv : am_okV (am_ft c k) v = true) : Fx (fun b j => b = a ∧ j = k) 0 0 h (uF c h a k v) :=
  ⟨Nat.le_of_eq (hnx_uF _ _ _ _ _).symm, Nat.le_of_eq (hcl_uF _ _ _ _ _), Nat.le_of_eq (hsl_uF _ _ _ _ _), fun b _ => ⟨⟨sh_uF _ _ _ _ _ _, gn_uF _ _ _ _ _ _⟩, fun _ => ⟨gI_uF _ _ _ _ _ _, gJJ_uF _ _ _ _ _ _, gDD_uF _ _ _ _ _ _, gA_uF _ _ _ _ _ _⟩, fun j n => by
    by_cases e : j = k
    · rw [gV_uF_ne _ _ _ _ _ fun eb => n ⟨eb, e⟩]
    · rw [gV_uF_nk q qv e]⟩⟩
theorem Fx_alc (h : am_H) (n : Nat) (c : am_C) : Fx (fun _ _ => False) 1 n h (halc h n c) :=
  ⟨Nat.le_succ _, Nat.le_refl _, Nat.le_refl _, fun b hb => by
    have hn : b ≠ hnx h := Nat.ne_of_lt hb
    have k : ∀ {α : Type} (f : am_C → α) (d : α), oc f d (hget (halc h n c) b) = oc f d (hget h b) := fun f d => (oc_alc _ _ _ _ _ _).trans (if_neg hn)
    exact ⟨⟨k _ _, k _ _⟩, fun _ => ⟨k _ _, k _ _, k _ _, k _ _⟩, fun j _ => congrFun (k c_V _) j⟩⟩
theorem Fx_exc (h : am_H) : Fx (fun _ _ => False) 1 6 h (hexc h) := ⟨Nat.le_refl _, Nat.le_refl _, Nat.le_refl _, fun _ _ => ⟨⟨rfl, rfl⟩, fun _ => ⟨rfl, rfl, rfl, rfl⟩, fun _ _ => rfl⟩⟩
/-! runs: an answer that is as Q says -/
def wp (x : Option am_Rs) (Q : Option Value ⊕ Nat → am_H → Prop) : Prop := ∃ r h', x = some (r, h') ∧ Q r h'
theorem wp_some {r : Option Value ⊕ Nat} {h : am_H} {Q : Option Value ⊕ Nat → am_H → Prop} : wp (some (r, h)) Q ↔ Q r h := ⟨fun ⟨_, _, e, q⟩ => by cases e; exact q, fun q => ⟨_, _, rfl, q⟩⟩
theorem wp_mono {x : Option am_Rs} {Q Q' : Option Value ⊕ Nat → am_H → Prop} (w : wp x Q) (k : ∀ r h, Q r h → Q' r h) : wp x Q' := let ⟨r, h, e, q⟩ := w; ⟨r, h, e, k r h q⟩
noncomputable def cl (m pc : Nat) (L st : List Value) (x : Option am_Rs) : Option am_Rs := match x with
  | none => none
  | some (.inl v, h') => rn m pc L (v.toList ++ st) h'
  | some (.inr x, h') => match am_hd m x with
    | some (pc', i) => rn m pc' (am_st L i am_J) [] h'
    | none => am_g (am_hl m).isEmpty (some (.inr x, h'))
theorem cl_v (m pc : Nat) (L st : List Value) (v : Value) (h : am_H) : cl m pc L st (some (.inl (some v), h)) = rn m pc L (v :: st) h := rfl
theorem cl_n (m pc : Nat) (L st : List Value) (h : am_H) : cl m pc L st (some (.inl none, h)) = rn m pc L st h := rfl
theorem cl_x {m : Nat} (q : am_hl m = []) (pc : Nat) (L st : List Value) (x : Nat) (h : am_H) : cl m pc L st (some (.inr x, h)) = some (.inr x, h) := by
  have e : am_hd m x = none := by unfold am_hd; rw [q]; rfl
  simp only [cl, e, q]
  rfl
theorem wp_cl {m pc : Nat} {L st : List Value} {x : Option am_Rs} {P Q : Option Value ⊕ Nat → am_H → Prop} (w : wp x P) (k : ∀ r h, P r h → wp (cl m pc L st (some (r, h))) Q) : wp (cl m pc L st x) Q := by
  obtain ⟨r, h, e, q⟩ := w
  rw [e]
  exact k r h q
