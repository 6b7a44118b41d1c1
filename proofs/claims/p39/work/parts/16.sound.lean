/-! ===== the abstract machine is sound ===== -/
section AIV
variable {F : Nat → Nat → List Value → List Value → am_H → Option am_Rs} {m pc : Nat} {L st : List Value} {h : am_H} {r : am_Rs}
theorem iv_pI {k : Int32 → List Value → am_O} (hs : am_bd F m pc L (am_pI st k) = some r) : ∃ x st', st = .int x :: st' ∧ am_bd F m pc L (k x st') = some r := by
  unfold am_pI at hs
  split at hs
  · exact ⟨_, _, rfl, hs⟩
  · cases hs
theorem iv_ldI {i : Nat} {k : Int32 → am_O} (hs : am_bd F m pc L (am_ldI L i k) = some r) : ∃ x, L[i]? = some (.int x) ∧ am_bd F m pc L (k x) = some r := by
  unfold am_ldI at hs
  split at hs
  · exact ⟨_, by assumption, hs⟩
  · cases hs
theorem iv_pL {k : Int64 → List Value → am_O} (hs : am_bd F m pc L (am_pL st k) = some r) : ∃ x st', st = .long x :: st' ∧ am_bd F m pc L (k x st') = some r := by
  unfold am_pL at hs
  split at hs
  · exact ⟨_, _, rfl, hs⟩
  · cases hs
theorem iv_ldL {i : Nat} {k : Int64 → am_O} (hs : am_bd F m pc L (am_ldL L i k) = some r) : ∃ x, L[i]? = some (.long x) ∧ am_bd F m pc L (k x) = some r := by
  unfold am_ldL at hs
  split at hs
  · exact ⟨_, by assumption, hs⟩
  · cases hs
theorem iv_pF {k : UInt32 → List Value → am_O} (hs : am_bd F m pc L (am_pF st k) = some r) : ∃ x st', st = .float x :: st' ∧ am_bd F m pc L (k x st') = some r := by
  unfold am_pF at hs
  split at hs
  · exact ⟨_, _, rfl, hs⟩
  · cases hs
theorem iv_ldF {i : Nat} {k : UInt32 → am_O} (hs : am_bd F m pc L (am_ldF L i k) = some r) : ∃ x, L[i]? = some (.float x) ∧ am_bd F m pc L (k x) = some r := by
  unfold am_ldF at hs
  split at hs
  · exact ⟨_, by assumption, hs⟩
  · cases hs
theorem iv_pD {k : UInt64 → List Value → am_O} (hs : am_bd F m pc L (am_pD st k) = some r) : ∃ x st', st = .double x :: st' ∧ am_bd F m pc L (k x st') = some r := by
  unfold am_pD at hs
  split at hs
  · exact ⟨_, _, rfl, hs⟩
  · cases hs
theorem iv_ldD {i : Nat} {k : UInt64 → am_O} (hs : am_bd F m pc L (am_ldD L i k) = some r) : ∃ x, L[i]? = some (.double x) ∧ am_bd F m pc L (k x) = some r := by
  unfold am_ldD at hs
  split at hs
  · exact ⟨_, by assumption, hs⟩
  · cases hs
theorem iv_pR {k : Nat → List Value → am_O} (hs : am_bd F m pc L (am_pR st k) = some r) : ∃ x st', st = .ref x :: st' ∧ am_bd F m pc L (k x st') = some r := by
  unfold am_pR at hs
  split at hs
  · exact ⟨_, _, rfl, hs⟩
  · cases hs
theorem iv_pA {k : Value → List Value → am_O} (hs : am_bd F m pc L (am_pA st k) = some r) : ∃ x st', st = x :: st' ∧ ((∃ a, x = .ref a) ∨ x = .null) ∧ am_bd F m pc L (k x st') = some r := by
  unfold am_pA at hs
  split at hs
  · exact ⟨_, _, rfl, Or.inl ⟨_, rfl⟩, hs⟩
  · exact ⟨_, _, rfl, Or.inr rfl, hs⟩
  · cases hs
theorem iv_ldA {i : Nat} {k : Value → am_O} (hs : am_bd F m pc L (am_ldA L i k) = some r) : (∃ a, L[i]? = some (.ref a) ∧ am_bd F m pc L (k (.ref a)) = some r) ∨ (L[i]? = some .null ∧ am_bd F m pc L (k .null) = some r) := by
  unfold am_ldA at hs
  split at hs
  · exact Or.inl ⟨_, by assumption, hs⟩
  · exact Or.inr ⟨by assumption, hs⟩
  · cases hs
theorem iv_pE {k : am_O} (hs : am_bd F m pc L (am_pE st k) = some r) : st = [] ∧ am_bd F m pc L k = some r := by
  unfold am_pE at hs
  split at hs
  · exact ⟨rfl, hs⟩
  · cases hs
theorem iv_g {b : Bool} {k : am_O} (hs : am_bd F m pc L (am_g b k) = some r) : b = true ∧ am_bd F m pc L k = some r := by
  cases b with
  | true => exact ⟨rfl, hs⟩
  | false => cases hs
theorem iv_pop {k : List Value → List Value → am_O} : ∀ (n : Nat) (acc st : List Value), am_bd F m pc L (am_pop n acc st k) = some r → ∃ as rest, st = as.reverse ++ rest ∧ as.length = n ∧ am_bd F m pc L (k (as ++ acc) rest) = some r
  | 0, acc, st, hs => ⟨[], st, rfl, rfl, hs⟩
  | n + 1, acc, v :: st, hs => by
    obtain ⟨as, rest, h1, h2, h3⟩ := iv_pop n (v :: acc) st hs
    exact ⟨as ++ [v], rest, by rw [h1]; simp, by simp [h2], by simpa using h3⟩
  | _ + 1, _, [], hs => by cases hs
theorem iv_ob {a ci : Nat} {k : (Nat → Value) → am_O} (hs : am_bd F m pc L (am_ob h a ci k) = some r) : ∃ fs, hget h a = some (.inr (ci, fs)) ∧ am_bd F m pc L (k fs) = some r := by
  unfold am_ob at hs
  split at hs
  · rename_i c fs hc
    obtain ⟨h1, h2⟩ := iv_g hs
    have : c = ci := by simpa using h1
    subst this
    exact ⟨fs, hc, h2⟩
  · cases hs
theorem iv_ar {a : Nat} {k : Nat → Nat → am_A → am_O} (hs : am_bd F m pc L (am_ar h a k) = some r) : ∃ t n c, hget h a = some (.inl (t, n, c)) ∧ am_bd F m pc L (k t n c) = some r := by
  unfold am_ar at hs
  split at hs
  · exact ⟨_, _, _, by assumption, hs⟩
  · cases hs
theorem iv_rI {p : Nat → Bool} {a : Nat} {i : Int32} {k : Int32 → am_O} (hs : am_bd F m pc L (am_rI p h a i k) = some r) : ∃ t n f, hget h a = some (.inl (t, n, .inl f)) ∧ p t = true ∧ am_in i n = true ∧ am_bd F m pc L (k (f i.toInt)) = some r := by
  unfold am_rI at hs
  split at hs
  · obtain ⟨h1, h2⟩ := iv_g hs
    simp only [Bool.and_eq_true] at h1
    exact ⟨_, _, _, by assumption, h1.1, h1.2, h2⟩
  · cases hs
theorem iv_rL {a : Nat} {i : Int32} {k : Int64 → am_O} (hs : am_bd F m pc L (am_rL h a i k) = some r) : ∃ n f, hget h a = some (.inl (3, n, .inr (.inl f))) ∧ am_in i n = true ∧ am_bd F m pc L (k (f i.toInt)) = some r := by
  unfold am_rL at hs
  split at hs
  · rename_i t n f hc
    obtain ⟨h1, h2⟩ := iv_g hs
    simp only [Bool.and_eq_true, beq_iff_eq] at h1
    obtain ⟨rfl, h1⟩ := h1
    exact ⟨_, _, hc, h1, h2⟩
  · cases hs
theorem iv_rD {a : Nat} {i : Int32} {k : UInt64 → am_O} (hs : am_bd F m pc L (am_rD h a i k) = some r) : ∃ n f, hget h a = some (.inl (4, n, .inr (.inr (.inl f)))) ∧ am_in i n = true ∧ am_bd F m pc L (k (f i.toInt)) = some r := by
  unfold am_rD at hs
  split at hs
  · rename_i t n f hc
    obtain ⟨h1, h2⟩ := iv_g hs
    simp only [Bool.and_eq_true, beq_iff_eq] at h1
    obtain ⟨rfl, h1⟩ := h1
    exact ⟨_, _, hc, h1, h2⟩
  · cases hs
theorem iv_rA {a : Nat} {i : Int32} {k : Option Nat → am_O} (hs : am_bd F m pc L (am_rA h a i k) = some r) : ∃ t n f, hget h a = some (.inl (t, n, .inr (.inr (.inr f)))) ∧ t = 5 ∧ am_in i n = true ∧ am_bd F m pc L (k (f i.toInt)) = some r := by
  unfold am_rA at hs
  split at hs
  · rename_i t n f hc
    obtain ⟨h1, h2⟩ := iv_g hs
    simp only [Bool.and_eq_true, Bool.or_eq_true, beq_iff_eq] at h1
    exact ⟨_, _, _, hc, h1.1, h1.2, h2⟩
  · cases hs
theorem iv_wI {t a : Nat} {i x : Int32} {k : am_H → am_O} (hs : am_bd F m pc L (am_wI t h a i x k) = some r) : ∃ n f, hget h a = some (.inl (t, n, .inl f)) ∧ am_in i n = true ∧ am_bd F m pc L (k (hset h a (.inl (t, n, .inl (am_up f i.toInt x))))) = some r := by
  unfold am_wI at hs
  split at hs
  · rename_i t n f hc
    obtain ⟨h1, h2⟩ := iv_g hs
    simp only [Bool.and_eq_true, beq_iff_eq] at h1
    obtain ⟨rfl, h1⟩ := h1
    exact ⟨_, _, hc, h1, h2⟩
  · cases hs
theorem iv_wL {a : Nat} {i : Int32} {x : Int64} {k : am_H → am_O} (hs : am_bd F m pc L (am_wL h a i x k) = some r) : ∃ n f, hget h a = some (.inl (3, n, .inr (.inl f))) ∧ am_in i n = true ∧ am_bd F m pc L (k (hset h a (.inl (3, n, .inr (.inl (am_up f i.toInt x)))))) = some r := by
  unfold am_wL at hs
  split at hs
  · rename_i t n f hc
    obtain ⟨h1, h2⟩ := iv_g hs
    simp only [Bool.and_eq_true, beq_iff_eq] at h1
    obtain ⟨rfl, h1⟩ := h1
    exact ⟨_, _, hc, h1, h2⟩
  · cases hs
theorem iv_wD {a : Nat} {i : Int32} {x : UInt64} {k : am_H → am_O} (hs : am_bd F m pc L (am_wD h a i x k) = some r) : ∃ n f, hget h a = some (.inl (4, n, .inr (.inr (.inl f)))) ∧ am_in i n = true ∧ am_bd F m pc L (k (hset h a (.inl (4, n, .inr (.inr (.inl (am_up f i.toInt x))))))) = some r := by
  unfold am_wD at hs
  split at hs
  · rename_i t n f hc
    obtain ⟨h1, h2⟩ := iv_g hs
    simp only [Bool.and_eq_true, beq_iff_eq] at h1
    obtain ⟨rfl, h1⟩ := h1
    exact ⟨_, _, hc, h1, h2⟩
  · cases hs
theorem iv_wA {a : Nat} {i : Int32} {v : Value} {k : am_H → am_O} (hs : am_bd F m pc L (am_wA h a i v k) = some r) : ∃ t n f, hget h a = some (.inl (t, n, .inr (.inr (.inr f)))) ∧ am_in i n = true ∧
    ((v = .null ∧ t = 5 ∧ am_bd F m pc L (k (hset h a (.inl (t, n, .inr (.inr (.inr (am_up f i.toInt none))))))) = some r) ∨
     (∃ b fs, v = .ref b ∧ t = 5 ∧ hget h b = some (.inr (6, fs)) ∧ am_bd F m pc L (k (hset h a (.inl (t, n, .inr (.inr (.inr (am_up f i.toInt (some b)))))))) = some r)) := by
  unfold am_wA at hs
  split at hs
  · rename_i t n f hc
    obtain ⟨h1, h2⟩ := iv_g hs
    simp only [Bool.and_eq_true, Bool.or_eq_true, beq_iff_eq] at h1
    refine ⟨t, n, f, hc, h1.2, ?_⟩
    unfold am_el at h2
    split at h2
    · exact Or.inl ⟨rfl, h1.1, h2⟩
    · split at h2
      · rename_i b c fs hb
        obtain ⟨g1, g2⟩ := iv_g h2
        simp only [Bool.and_eq_true, beq_iff_eq] at g1
        obtain ⟨g1, rfl⟩ := g1
        exact Or.inr ⟨_, _, rfl, g1, hb, g2⟩
      · cases h2
      · cases h2
    · cases h2
  · cases hs
end AIV
theorem am_hlh (m : Nat) (hm : am_hl m = []) : am_h m = [] := by
  rcases Nat.lt_or_ge m am_hl_l.length with q | q
  · have h : (List.range am_hl_l.length).all (fun m => !(am_hl m).isEmpty || (am_h m).isEmpty) = true := by decide +kernel
    have h1 := List.all_eq_true.mp h m (List.mem_range.mpr q)
    rw [hm] at h1
    simpa using h1
  · have e : am_hl_l.length = am_h_l.length := by decide +kernel
    unfold am_h
    rw [List.getD_eq_getElem?_getD, List.getElem?_eq_none (by omega)]
    rfl
/-- the frames in which a method ends -/
def am_isR (mi : Nat) (ins : Instr) (st : List Value) (v : Option Value) : Prop :=
  (ins = .ireturn ∧ ∃ x ty, st = [.int x] ∧ am_r mi = some ty ∧ am_okV ty (.int x) = true ∧ v = some (.int x)) ∨
  (ins = .lreturn ∧ ∃ x, st = [.long x] ∧ am_r mi = some .long ∧ v = some (.long x)) ∨ (ins = .freturn ∧ ∃ x, st = [.float x] ∧ am_r mi = some .float ∧ v = some (.float x)) ∨
  (ins = .dreturn ∧ ∃ x, st = [.double x] ∧ am_r mi = some .double ∧ v = some (.double x)) ∨
  (ins = .areturn ∧ ∃ x ty, st = [x] ∧ ((∃ a, x = .ref a) ∨ x = .null) ∧ am_r mi = some ty ∧ am_okV ty x = true ∧ v = some x) ∨ (ins = .return_ ∧ st = [] ∧ am_r mi = none ∧ v = none)
section ASN
variable {A : Nat → Prop} {D : va_G} {ty : Nat → ClassId} {a0 a1 N : Nat} {xs : Int → Int32} {l : Launch}
/-- n steps of the abstract machine are the real one's -/
def am_Snd (A : Nat → Prop) (D : va_G) (ty : Nat → ClassId) (a0 a1 N : Nat) (xs : Int → Int32) (l : Launch) (n : Nat) : Prop :=
  ∀ (p : Program) (e : Env) (R : Room) (s : State) (m : MethodId) (args : Array Value) (below : List Frame) (meth : Method) (c : Code) (mi : Nat) (adb : Nat → Nat) (nb c0 s0 : Nat) (Q : State → Prop) (pc : Nat) (L st : List Value) (h : am_H) (r : Option Value ⊕ Nat) (h' : am_H),
    am_ex n mi pc L st h = some (r, h') → am_B A D ty a0 a1 N xs p l R s m args meth c mi → hcl h' ≤ c0 + R.cells → hsl h' ≤ s0 + R.slots →
    (∀ pc L st ins v, decode (am_b mi) pc = .ok (ins, 1) → am_isR mi ins st v → r = .inl v → am_Go A D ty a0 a1 N xs p l e R s m args below meth c mi adb nb c0 s0 Q pc L st h') →
    (∀ pc L h0 ix x, decode (am_b mi) pc = .ok (.new ix, 3) → am_thr mi pc ix x → r = .inr x → h' = hexc h0 → am_Go A D ty a0 a1 N xs p l e R s m args below meth c mi adb nb c0 s0 Q pc L [] h0) →
    (∀ x pc ad H locs ls q ce rest, r = .inr x → am_hl mi = [] → (∀ k, k < nb → ad k = adb k) → am_RH A D ty a0 a1 N xs ad h' H → va_S A s.heap H locs → H[q]? = some ce → ce.vm = .none → s.vm.findClass (am_exn x) = some ce.cls →
      vx_W p l e R s m args below meth c H locs (hcl h' - c0) (hsl h' - s0) Q (F0 m pc ls rest) q) →
    am_Go A D ty a0 a1 N xs p l e R s m args below meth c mi adb nb c0 s0 Q pc L st h
/-- a callee's start and ends -/
def am_Pc (A : Nat → Prop) (D : va_G) (ty : Nat → ClassId) (a0 a1 N : Nat) (xs : Int → Int32) (ad : Nat → Nat) (as : List Value) (h : am_H) : Array Value → State → Prop := fun a U =>
  a = (as.map (am_cv ad)).toArray ∧ am_G A D ty a0 a1 N xs U U.heap ∧ am_RH A D ty a0 a1 N xs ad h U.heap ∧ ∀ q, U.heap.size ≤ q → A q
def am_Qc (A : Nat → Prop) (D : va_G) (ty : Nat → ClassId) (a0 a1 N : Nat) (xs : Int → Int32) (ad : Nat → Nat) (h : am_H) (r : Option Value ⊕ Nat) (h1 : am_H) : Array Value → State → Outcome → State → Prop := fun _ st o t =>
  ∃ (v : Option Value) (ad' : Nat → Nat), r = .inl v ∧ o = .returned (v.map (am_cv ad')) ∧ (∀ k, k < hnx h → ad' k = ad k) ∧ (∀ w, v = some w → am_vo (hnx h1) w) ∧ am_RH A D ty a0 a1 N xs ad' h1 t.heap ∧ va_F A st t
def am_XC (A : Nat → Prop) (D : va_G) (ty : Nat → ClassId) (a0 a1 N : Nat) (xs : Int → Int32) (ad : Nat → Nat) (h : am_H) (r : Option Value ⊕ Nat) (h1 : am_H) : String → State → State → Prop := fun E st t =>
  ∃ (x : Nat) (ad' : Nat → Nat), r = .inr x ∧ E = am_exn x ∧ (∀ k, k < hnx h → ad' k = ad k) ∧ am_RH A D ty a0 a1 N xs ad' h1 t.heap ∧ va_F A st t
def am_rm (mj mc ms : Nat) : Room := { frames := am_d mj, cells := mc, slots := ms, locals := am_d mj * 48 }
/-- a body that ends as the abstract machine says -/
theorem am_body {n : Nat} (ih : am_Snd A D ty a0 a1 N xs l n) {mj : Nat} (hm : am_mOK mj) {ad : Nat → Nat} {as : List Value} {h : am_H} {r : Option Value ⊕ Nat} {h1 : am_H} (hx : am_ex n mj 0 (am_en (am_sg mj) as (am_n mj)) [] h = some (r, h1)) (hg : am_gd (am_sg mj) as = true) (hv : ∀ v ∈ as, am_vo (hnx h) v)
    {p : Program} {e : Env} {s : State} {m : MethodId} {args : Array Value} {below : List Frame} {meth : Method} {c : Code} (B : am_B A D ty a0 a1 N xs p l (am_rm mj (hcl h1 - hcl h) (hsl h1 - hsl h)) s m args meth c mj) (hp : am_Pc A D ty a0 a1 N xs ad as h args s) :
    W p l e (am_rm mj (hcl h1 - hcl h) (hsl h1 - hsl h)) s m args below meth c s.heap [] 0 0 (vx_MQ below (am_Qc A D ty a0 a1 N xs ad h r h1) (am_XC A D ty a0 a1 N xs ad h r h1) args s (hcl h1 - hcl h) (hsl h1 - hsl h) A) (entryFrame m args (am_n mj)) := by
  obtain ⟨rfl, hG, hR, hA⟩ := hp
  have hgr := am_ex_gr _ _ _ _ _ _ _ _ hx
  rw [lg_entry_eq]
  have hsz := am_sl_len ad _ _ hg
  have hl := lv_entry (as.map (am_cv ad)) (n := am_n mj) (by rw [hsz]; exact hm.2.2.2.2.2.1)
  generalize (lg_sl (as.map (am_cv ad)) ++ List.replicate (am_n mj - (lg_sl (as.map (am_cv ad))).length) Slot.unset).toArray = ls at hl ⊢
  have key : am_Go A D ty a0 a1 N xs p l e (am_rm mj (hcl h1 - hcl h) (hsl h1 - hsl h)) s m (as.map (am_cv ad)).toArray below meth c mj ad (hnx h) (hcl h) (hsl h) (vx_MQ below (am_Qc A D ty a0 a1 N xs ad h r h1) (am_XC A D ty a0 a1 N xs ad h r h1) (as.map (am_cv ad)).toArray s (hcl h1 - hcl h) (hsl h1 - hsl h) A) 0 (am_en (am_sg mj) as (am_n mj)) [] h := by
    refine ih p e _ s m _ below meth c mj ad (hnx h) (hcl h) (hsl h) _ 0 _ [] h r h1 hx B (by have := hgr.2.1; show _ ≤ _ + (_ - _); omega) (by have := hgr.2.2; show _ ≤ _ + (_ - _); omega) ?_ ?_ ?_
    · intro pc L st ins v hd hr hrv ad' H locs ls hag g1 g2 g3 rs
      have hq : ∀ w, v = some w → am_vo (hnx h1) w → ∀ t : State, t.heap = H → am_Qc A D ty a0 a1 N xs ad h r h1 (as.map (am_cv ad)).toArray s (.returned (v.map (am_cv ad'))) t := fun w hw hvo t ht =>
        ⟨v, ad', hrv, rfl, hag, fun w' hw' => by rw [hw] at hw'; cases hw'; exact hvo, by rw [ht]; exact rs.1, rs.2.1.F ht⟩
      have hlk : meth.locks = false := B.2.2.2.2.2.1
      have hrt := B.2.2.1
      refine vx_ret ?_
      rcases hr with ⟨rfl, x, t, rfl, h2, h3, rfl⟩ | ⟨rfl, x, rfl, h2, rfl⟩ | ⟨rfl, x, rfl, h2, rfl⟩ | ⟨rfl, x, rfl, h2, rfl⟩ | ⟨rfl, x, t, rfl, h4, h2, h3, rfl⟩ | ⟨rfl, rfl, h2, rfl⟩
      · exact W.zret B.ex B.by (hrt.trans h2) (am_ok_fit ad' h3).1 (fun t ht _ => hq _ rfl trivial t ht) rs.2.1.2.2 hd hlk
      · exact W.lret B.ex B.by (hrt.trans h2) (fun t ht _ => hq _ rfl trivial t ht) rs.2.1.2.2 hd hlk
      · exact W.fret B.ex B.by (hrt.trans h2) (fun t ht _ => hq _ rfl trivial t ht) rs.2.1.2.2 hd hlk
      · exact W.dret B.ex B.by (hrt.trans h2) (fun t ht _ => hq _ rfl trivial t ht) rs.2.1.2.2 hd hlk
      · refine W.aret B.ex B.by (hrt.trans h2) ?_ ?_ (fun t ht _ => hq _ rfl (vo_h rs.2.2.2.2.2) t ht) rs.2.1.2.2 hd hlk
        · rcases h4 with ⟨a, rfl⟩ | rfl <;> cases t <;> simp [am_okV] at h3 <;> first | exact Or.inl ⟨_, rfl⟩ | exact Or.inr ⟨_, rfl⟩
        · rcases h4 with ⟨a, rfl⟩ | rfl
          · exact Or.inr ⟨_, rfl⟩
          · exact Or.inl rfl
      · exact W.vret B.ex B.by (hrt.trans h2) (fun t ht _ => ⟨none, ad', hrv, rfl, hag, fun w' hw' => (nomatch hw'), (by rw [ht]; exact rs.1), rs.2.1.F ht⟩) rs.2.1.2.2 hd hlk
    · intro pc L h0 ix x hd ht hrx hh ad' H locs ls hag g1 g2 g3 rs
      obtain ⟨is, ic, text, names, jx, rx, w1, w2, w3, w4, w5, w6, w7, w8, w9, w10, d1, d2, x0, x1, x2, x5⟩ := ht
      subst hh
      obtain ⟨sa, hsa⟩ := hG.2.2.2.2.1 _ w3
      have hex : c.exceptionTable.toList = [] := by rw [(B.2.2.2.2.2.2.1 w10).2, w8]; rfl
      obtain ⟨lv, hl2, -⟩ := rs.2.2.1
      have hx' : ∀ t : State, s.vm.Alike t.vm → H.size ≤ t.heap.size → (∀ q : Nat, q < H.size → t.heap[q]? = H[q]?) → am_XC A D ty a0 a1 N xs ad h r (hexc h0) (am_exn x) s t := by
        intro t _ hz ho
        have hk : ∀ (k : Nat) (q : Nat × va_E), (am_ws ad' ty h0)[k]? = some q → t.heap[q.1]? = H[q.1]? := fun k q hq => ho q.1 ((rs.1.2.2.2.2.2.2.1 k q hq).lt)
        refine ⟨x, ad', hrx, rfl, hag, ⟨rs.1.1, rs.1.2.1, rs.1.2.2.1, rs.1.2.2.2.1, rs.1.2.2.2.2.1, rs.1.2.2.2.2.2.1, rs.1.2.2.2.2.2.2.1.kept hk, rs.1.2.2.2.2.2.2.2⟩, ?_⟩
        exact ⟨Nat.le_trans rs.2.1.1 hz, fun q q1 q2 => (ho q (Nat.lt_of_lt_of_le q1 rs.2.1.1)).trans (rs.2.1.2.1 q q1 q2)⟩
      have hgr1 := hgr.2.1
      have hgr2 := hgr.2.2
      rw [hcl_exc] at hgr1
      rw [hsl_exc] at hgr2
      have hf1 : names.length + 3 < (am_rm mj (hcl (hexc h0) - hcl h) (hsl (hexc h0) - hsl h)).frames := by show _ < am_d mj; omega
      have hf2 : ((([] : List Value).map (am_cv ad')).map fun v => v.category).sum + (13 * (names.length + 1) + 43) ≤ (am_rm mj (hcl (hexc h0) - hcl h) (hsl (hexc h0) - hsl h)).locals := by show 0 + _ ≤ am_d mj * 48; omega
      have hc1 : hcl h0 - hcl h + 1 ≤ hcl (hexc h0) - hcl h := by rw [hcl_exc]; omega
      have hc2 : hsl h0 - hsl h + 6 ≤ hsl (hexc h0) - hsl h := by rw [hsl_exc]; omega
      rcases d2 with ⟨d2, d3, d4⟩ | ⟨d2, d3, d4⟩
      · exact am_throwX B.ex B.by B.2.2.2.2.2.2.2.1 x0 x1 x2 x5 B.own w5 w6 (B.hts _ w1) (B.hts _ w2) hsa (fun w hw => B.hts _ (w4 w hw).1) (fun w hw => by
          rcases List.mem_cons.mp hw with rfl | hw
          · rfl
          · rcases List.mem_cons.mp hw with rfl | hw
            · rfl
            · exact (w4 w hw).2) hG.2.2.1 hG.2.2.2.1 rs.2.1 (hl2.1.trans B.2.2.2.1.symm) hd d1 d2 d3 d4 (fun z hz => by rw [hex] at hz; cases hz) hf1 hf2 hc1 hc2 B.2.2.2.2.2.1 hx' rs.2.1.2.2 hc1 hc2
      · exact am_throwXW B.ex B.by B.2.2.2.2.2.2.2.1 x0 x1 x2 x5 B.own w5 w6 (B.hts _ w1) (B.hts _ w2) hsa (fun w hw => B.hts _ (w4 w hw).1) (fun w hw => by
          rcases List.mem_cons.mp hw with rfl | hw
          · rfl
          · rcases List.mem_cons.mp hw with rfl | hw
            · rfl
            · exact (w4 w hw).2) hG.2.2.1 hG.2.2.2.1 rs.2.1 (hl2.1.trans B.2.2.2.1.symm) hd d1 d2 d3 d4 (fun z hz => by rw [hex] at hz; cases hz) hf1 hf2 hc1 hc2 B.2.2.2.2.2.1 hx' rs.2.1.2.2 hc1 hc2
    · intro x pc ad' H locs ls q ce rest hrx hhl hag hRH hS hq hce hcl
      have hex : c.exceptionTable.toList = [] := by rw [(B.2.2.2.2.2.2.1 hm.2.2.2.2.2.2.2).2, am_hlh mj hhl]; rfl
      exact vx_out (E := am_exn x) (ce := ce) (fun z hz => by rw [hex] at hz; cases hz) B.2.2.2.2.2.1 hq hce hcl (fun t ht _ => ⟨x, ad', hrx, rfl, hag, by rw [ht]; exact hRH, hS.F ht⟩) hS.2.2 (Nat.le_refl _) (Nat.le_refl _)
  have k := key ad s.heap [] ls (fun _ _ => rfl) (Nat.le_refl _) (Nat.le_refl _) (Nat.le_refl _) ⟨hR, va_S.rf, ⟨_, hl, fun i v hi hv => by have := am_en_lr ad (am_sg mj) as (am_n mj) 0 hg i v hi hv; rwa [Nat.zero_add] at this⟩, am_en_len _ _ _ hg hm.2.2.2.2.2.1, am_en_vo _ _ _ hv, fun v hv => by cases hv⟩
  rw [Nat.sub_self, Nat.sub_self] at k
  exact k
theorem am_blind {ad : Nat → Nat} {as : List Value} {h : am_H} : FrameBlind (am_Pc A D ty a0 a1 N xs ad as h) := fun a U g mk q => by
  obtain ⟨q1, q2, q3, q4⟩ := q
  have h2 := am_G.same (s := U) (U := U.calling g mk a) (by rfl) q2
  exact ⟨q1, h2, q3, q4⟩
/-- a method without handlers, as a callee -/
theorem am_met {n : Nat} (ih : am_Snd A D ty a0 a1 N xs l n) (hlt : l.stackTraces = false) {mj : Nat} (hm : am_mOK mj) (hh : am_h mj = []) {ad : Nat → Nat} {as : List Value} {h : am_H} {r : Option Value ⊕ Nat} {h1 : am_H} (hx : am_ex n mj 0 (am_en (am_sg mj) as (am_n mj)) [] h = some (r, h1)) (hg : am_gd (am_sg mj) as = true) (hv : ∀ v ∈ as, am_vo (hnx h) v) :
    vx_Met l (am_y mj) [Jvm.Cond.code (am_y mj) (am_b mj) (am_n mj) (am_r mj)] (am_rm mj (hcl h1 - hcl h) (hsl h1 - hsl h)) (am_Pc A D ty a0 a1 N xs ad as h) (am_Qc A D ty a0 a1 N xs ad h r h1) (am_XC A D ty a0 a1 N xs ad h r h1) (hcl h1 - hcl h) (hsl h1 - hsl h) A := by
  refine vx_ofW (cc := am_b mj) (maxL := am_n mj) (ret := am_r mj) hm.2.2.2.2.1 rfl ?_
  intro p e s m args below meth c s₁ B hml hex hp
  refine am_body ih hm hx hg hv ⟨B.exec, B.bytes, B.returns, hml, by rw [hm.2.2.2.1]; exact findClass_of_methodNamed B.named, B.notSynchronized, fun _ => ⟨(name_of_methodNamed B.named B.method).1, ?_⟩, hlt, hp.2.1, hp.2.2.2, Nat.le_refl _, Nat.le_refl _⟩ hp
  rw [hh]
  cases hq : c.exceptionTable.toList with
  | nil => rfl
  | cons z zs => exact (hex z (by rw [hq]; exact List.mem_cons_self)).elim
/-- a method with handlers, as a callee -/
theorem am_metH {n : Nat} (ih : am_Snd A D ty a0 a1 N xs l n) (hlt : l.stackTraces = false) {mj : Nat} (hm : am_mOK mj) {ad : Nat → Nat} {as : List Value} {h : am_H} {r : Option Value ⊕ Nat} {h1 : am_H} (hx : am_ex n mj 0 (am_en (am_sg mj) as (am_n mj)) [] h = some (r, h1)) (hg : am_gd (am_sg mj) as = true) (hv : ∀ v ∈ as, am_vo (hnx h) v) :
    vx_Met l (am_y mj) [Jvm.Cond.codeWith (am_y mj) (am_b mj) (am_n mj) (am_r mj) (am_h mj)] (am_rm mj (hcl h1 - hcl h) (hsl h1 - hsl h)) (am_Pc A D ty a0 a1 N xs ad as h) (am_Qc A D ty a0 a1 N xs ad h r h1) (am_XC A D ty a0 a1 N xs ad h r h1) (hcl h1 - hcl h) (hsl h1 - hsl h) A := by
  refine vx_ofWH (cc := am_b mj) (maxL := am_n mj) (ret := am_r mj) (hh := am_h mj) hm.2.2.2.2.1 rfl ?_
  intro p e s m args below meth c s₁ B hml hp
  exact am_body ih hm hx hg hv ⟨B.exec, B.bytes, B.returns, hml, by rw [hm.2.2.2.1]; exact findClass_of_methodNamed B.named, B.notSynchronized, fun _ => ⟨(name_of_methodNamed B.named B.method).1, vx_table (x := am_y mj) B (atoms_spec B.pre _ List.mem_cons_self)⟩, hlt, hp.2.1, hp.2.2.2, Nat.le_refl _, Nat.le_refl _⟩ hp
end ASN
