/-! ===== a run with its addresses moved ===== -/
def mvA (ρ : Nat → Nat) (c : am_A) : am_A := match c with
  | .inl f => .inl f
  | .inr (.inl f) => .inr (.inl f)
  | .inr (.inr (.inl f)) => .inr (.inr (.inl f))
  | .inr (.inr (.inr f)) => .inr (.inr (.inr fun j => (f j).map ρ))
def mvC (ρ : Nat → Nat) (c : am_C) : am_C := match c with
  | .inl (t, n, c) => .inl (t, n, mvA ρ c)
  | .inr (ci, fs) => .inr (ci, fun k => am_cv ρ (fs k))
/-- a heap and the same one with its cells elsewhere -/
def Rl (ρ : Nat → Nat) (h g : am_H) : Prop :=
  ρ 0 = 0 ∧ (∀ k, ρ (hnx h + k) = hnx g + k) ∧ (hcl g = hcl h ∧ hsl g = hsl h) ∧
  (∀ a c, hget h a = some c → a < hnx h ∧ ρ a < hnx g ∧ hget g (ρ a) = some (mvC ρ c)) ∧
  ∀ a b c d, hget h a = some c → hget h b = some d → ρ a = ρ b → a = b
def mvR (ρ : Nat → Nat) (r : Option Value ⊕ Nat) : Option Value ⊕ Nat := match r with
  | .inl v => .inl (v.map (am_cv ρ))
  | .inr x => .inr x
/-- an outcome and the same one moved -/
def RO (ρ : Nat → Nat) (o o' : am_O) : Prop := match o with
  | none => True
  | some (.inl (pc, L, st, h)) => ∃ g, o' = some (.inl (pc, L.map (am_cv ρ), st.map (am_cv ρ), g)) ∧ Rl ρ h g
  | some (.inr (.inl (r, h))) => ∃ g, o' = some (.inr (.inl (mvR ρ r, g))) ∧ Rl ρ h g
  | some (.inr (.inr (mj, as, rest, h))) => ∃ g, o' = some (.inr (.inr (mj, as.map (am_cv ρ), rest.map (am_cv ρ), g))) ∧ Rl ρ h g
section REN
variable {ρ : Nat → Nat} {h g : am_H}
theorem cv_cat (v : Value) : (am_cv ρ v).category = v.category := by cases v <;> rfl
theorem cv_k1 (v : Value) : am_cv ρ (am_k1 v) = am_k1 (am_cv ρ v) := by cases v <;> rfl
theorem cv_okV (ty : FieldType) (v : Value) : am_okV ty (am_cv ρ v) = am_okV ty v := by cases v <;> cases ty <;> rfl
theorem cv_J (v : Value) : am_cv ρ v = am_J ↔ v = am_J := by cases v <;> simp [am_cv]
theorem cv_dflt (ty : FieldType) : am_cv ρ (defaultValue ty) = defaultValue ty := by cases ty <;> rfl
theorem cv_rv (r : Option Nat) : am_cv ρ (am_rv r) = am_rv (r.map ρ) := by cases r <;> rfl
theorem mp_st : ∀ (L : List Value) (i : Nat) (v : Value), (am_st L i v).map (am_cv ρ) = am_st (L.map (am_cv ρ)) i (am_cv ρ v)
  | [], _, _ => rfl
  | _ :: _, 0, _ => rfl
  | a :: l, 1, v => by
    show am_cv ρ (am_k1 a) :: (am_st l 0 v).map (am_cv ρ) = am_k1 (am_cv ρ a) :: am_st (l.map (am_cv ρ)) 0 (am_cv ρ v)
    rw [cv_k1, mp_st l 0 v]
  | a :: l, n + 2, v => by
    show am_cv ρ a :: (am_st l (n + 1) v).map (am_cv ρ) = am_cv ρ a :: am_st (l.map (am_cv ρ)) (n + 1) (am_cv ρ v)
    rw [mp_st l (n + 1) v]
theorem mp_s2 : ∀ (L : List Value) (i : Nat) (v : Value), (am_s2 L i v).map (am_cv ρ) = am_s2 (L.map (am_cv ρ)) i (am_cv ρ v)
  | [], _, _ => rfl
  | [_], 0, _ => rfl
  | _ :: _ :: _, 0, _ => rfl
  | a :: l, 1, v => by
    simp [am_s2, cv_k1, mp_s2 l 0 v]
  | a :: l, n + 2, v => by
    simp [am_s2, mp_s2 l (n + 1) v]
theorem mp_en : ∀ (bs : List Bool) (vs : List Value) (n : Nat), (am_en bs vs n).map (am_cv ρ) = am_en bs (vs.map (am_cv ρ)) n
  | true :: bs, v :: vs, n => by
    show am_cv ρ v :: am_J :: (am_en bs vs (n - 2)).map (am_cv ρ) = am_cv ρ v :: am_J :: am_en bs (vs.map (am_cv ρ)) (n - 2)
    rw [mp_en bs vs (n - 2)]
  | false :: bs, v :: vs, n => by
    show am_cv ρ v :: (am_en bs vs (n - 1)).map (am_cv ρ) = am_cv ρ v :: am_en bs (vs.map (am_cv ρ)) (n - 1)
    rw [mp_en bs vs (n - 1)]
  | [], [], n => by simp [am_en, am_cv]
  | [], _ :: _, n => by simp [am_en, am_cv]
  | true :: _, [], n => by simp [am_en, am_cv]
  | false :: _, [], n => by simp [am_en, am_cv]
theorem mp_gd : ∀ (bs : List Bool) (vs : List Value), am_gd bs (vs.map (am_cv ρ)) = am_gd bs vs
  | [], [] => rfl
  | b :: bs, v :: vs => by
    show ((b == decide ((am_cv ρ v).category = 2)) && (decide (am_cv ρ v ≠ am_J) && am_gd bs (vs.map (am_cv ρ)))) = ((b == decide (v.category = 2)) && (decide (v ≠ am_J) && am_gd bs vs))
    rw [mp_gd bs vs, cv_cat]
    congr 2
    exact decide_eq_decide.mpr (not_congr (cv_J v))
  | [], _ :: _ => rfl
  | _ :: _, [] => rfl
theorem Rl.nx0 (R : Rl ρ h g) : ρ (hnx h) = hnx g := R.2.1 0
theorem Rl.exc (R : Rl ρ h g) : Rl ρ (hexc h) (hexc g) := by
  obtain ⟨r0, r1, ⟨r2, r3⟩, r4, r5⟩ := R
  exact ⟨r0, r1, ⟨by rw [hcl_exc, hcl_exc, r2], by rw [hsl_exc, hsl_exc, r3]⟩, r4, r5⟩
theorem Rl.set (R : Rl ρ h g) {a : Nat} {c0 c c' : am_C} (h0 : hget h a = some c0) (e : c' = mvC ρ c) : Rl ρ (hset h a c) (hset g (ρ a) c') := by
  obtain ⟨r0, r1, ⟨r2, r3⟩, r4, r5⟩ := R
  subst e
  have q : ∀ b d, hget (hset h a c) b = some d → ∃ d', hget h b = some d' := fun b d hb => by
    rw [hget_set] at hb
    by_cases e : b = a
    · exact ⟨c0, by rw [e]; exact h0⟩
    · rw [if_neg e] at hb; exact ⟨d, hb⟩
  refine ⟨r0, r1, ⟨r2, r3⟩, fun b d hb => ?_, fun b b' d d' hb hb' e => ?_⟩
  · obtain ⟨d', hd'⟩ := q b d hb
    obtain ⟨q1, q2, q3⟩ := r4 b d' hd'
    refine ⟨q1, q2, ?_⟩
    rw [hget_set] at hb ⊢
    by_cases e : b = a
    · rw [if_pos e] at hb
      cases hb
      rw [if_pos (by rw [e])]
    · rw [if_neg e] at hb
      rw [if_neg fun w => e (r5 _ _ _ _ hd' h0 w)]
      exact (r4 b d hb).2.2
  · obtain ⟨d1, hd1⟩ := q b d hb
    obtain ⟨d2, hd2⟩ := q b' d' hb'
    exact r5 _ _ _ _ hd1 hd2 e
theorem Rl.alc (R : Rl ρ h g) {n : Nat} {c c' : am_C} (e : c' = mvC ρ c) : Rl ρ (halc h n c) (halc g n c') := by
  have n0 := R.nx0
  obtain ⟨r0, r1, ⟨r2, r3⟩, r4, r5⟩ := R
  subst e
  refine ⟨r0, fun k => ?_, ⟨by rw [hcl_alc, hcl_alc, r2], by rw [hsl_alc, hsl_alc, r3]⟩, fun b d hb => ?_, fun b b' d d' hb hb' e => ?_⟩
  · rw [hnx_alc, hnx_alc]
    have := r1 (1 + k)
    rw [show hnx h + 1 + k = hnx h + (1 + k) by omega, this]
    omega
  · rw [hget_alc] at hb ⊢
    rw [hnx_alc, hnx_alc]
    by_cases e : b = hnx h
    · rw [if_pos e] at hb
      cases hb
      rw [e, n0]
      exact ⟨by omega, by omega, if_pos rfl⟩
    · rw [if_neg e] at hb
      obtain ⟨q1, q2, q3⟩ := r4 b d hb
      exact ⟨by omega, by omega, by rw [if_neg (by omega)]; exact q3⟩
  · rw [hget_alc] at hb hb'
    by_cases e1 : b = hnx h
    · by_cases e2 : b' = hnx h
      · rw [e1, e2]
      · rw [if_neg e2] at hb'
        have := (r4 b' d' hb').2.1
        rw [e1, n0] at e
        omega
    · rw [if_neg e1] at hb
      have := (r4 b d hb).2.1
      by_cases e2 : b' = hnx h
      · rw [e2, n0] at e
        omega
      · rw [if_neg e2] at hb'
        exact r5 _ _ _ _ hb hb' e
theorem ro_no {o : am_O} : RO ρ none o := trivial
theorem ro_nx {pc : Nat} {L st : List Value} (R : Rl ρ h g) : RO ρ (am_nx pc L st h) (am_nx pc (L.map (am_cv ρ)) (st.map (am_cv ρ)) g) := ⟨g, rfl, R⟩
theorem ro_nxe {pc : Nat} {L st L' st' : List Value} (R : Rl ρ h g) (e1 : L' = L.map (am_cv ρ)) (e2 : st' = st.map (am_cv ρ)) : RO ρ (am_nx pc L st h) (am_nx pc L' st' g) := ⟨g, by rw [e1, e2]; rfl, R⟩
theorem ro_dn {v v' : Option Value} (R : Rl ρ h g) (e : v' = v.map (am_cv ρ)) : RO ρ (am_dn v h) (am_dn v' g) := ⟨g, by rw [e]; rfl, R⟩
theorem ro_th {x : Nat} (R : Rl ρ h g) : RO ρ (am_th x h) (am_th x g) := ⟨g, rfl, R⟩
theorem ro_g {b : Bool} {o o' : am_O} (k : RO ρ o o') : RO ρ (am_g b o) (am_g b o') := by cases b <;> first | exact k | trivial
theorem ro_ge {b b' : Bool} {o o' : am_O} (e : b' = b) (k : RO ρ o o') : RO ρ (am_g b o) (am_g b' o') := by rw [e]; exact ro_g k
theorem ro_call {mj : Nat} {as rest : List Value} (R : Rl ρ h g) : RO ρ (am_call mj as rest h) (am_call mj (as.map (am_cv ρ)) (rest.map (am_cv ρ)) g) := by
  unfold am_call
  refine ro_ge ?_ ⟨g, rfl, R⟩
  rw [mp_gd, List.length_map, List.all_map]
  congr 4
  funext v
  show decide ((am_cv ρ v).category = 1) = decide (v.category = 1)
  rw [cv_cat]
theorem ro_go {pc : Nat} {off : Int} {L st : List Value} (R : Rl ρ h g) : RO ρ (am_go pc off L st h) (am_go pc off (L.map (am_cv ρ)) (st.map (am_cv ρ)) g) := ro_g (ro_nx R)
theorem ro_if {b : Prop} [Decidable b] {pc : Nat} {off : Int} {L st : List Value} (R : Rl ρ h g) : RO ρ (am_if b pc off L st h) (am_if b pc off (L.map (am_cv ρ)) (st.map (am_cv ρ)) g) := by
  unfold am_if
  split
  · exact ro_go R
  · exact ro_nx R
theorem ro_sw {pc : Nat} {d lo hi : Int} {offs : Array Int} {x : Int32} {L st : List Value} (R : Rl ρ h g) : RO ρ (am_sw pc d lo hi offs x L st h) (am_sw pc d lo hi offs x (L.map (am_cv ρ)) (st.map (am_cv ρ)) g) := by
  unfold am_sw
  split
  · exact ro_go R
  · split
    · exact ro_go R
    · trivial
theorem ro_pI {st : List Value} {k k' : Int32 → List Value → am_O} (hk : ∀ x st, RO ρ (k x st) (k' x (st.map (am_cv ρ)))) : RO ρ (am_pI st k) (am_pI (st.map (am_cv ρ)) k') := by
  match st with
  | [] => trivial
  | v :: st => cases v <;> first | exact hk _ _ | trivial
theorem ro_pL {st : List Value} {k k' : Int64 → List Value → am_O} (hk : ∀ x st, RO ρ (k x st) (k' x (st.map (am_cv ρ)))) : RO ρ (am_pL st k) (am_pL (st.map (am_cv ρ)) k') := by
  match st with
  | [] => trivial
  | v :: st => cases v <;> first | exact hk _ _ | trivial
theorem ro_pF {st : List Value} {k k' : UInt32 → List Value → am_O} (hk : ∀ x st, RO ρ (k x st) (k' x (st.map (am_cv ρ)))) : RO ρ (am_pF st k) (am_pF (st.map (am_cv ρ)) k') := by
  match st with
  | [] => trivial
  | v :: st => cases v <;> first | exact hk _ _ | trivial
theorem ro_pD {st : List Value} {k k' : UInt64 → List Value → am_O} (hk : ∀ x st, RO ρ (k x st) (k' x (st.map (am_cv ρ)))) : RO ρ (am_pD st k) (am_pD (st.map (am_cv ρ)) k') := by
  match st with
  | [] => trivial
  | v :: st => cases v <;> first | exact hk _ _ | trivial
theorem ro_pR {st : List Value} {k k' : Nat → List Value → am_O} (hk : ∀ x st, RO ρ (k x st) (k' (ρ x) (st.map (am_cv ρ)))) : RO ρ (am_pR st k) (am_pR (st.map (am_cv ρ)) k') := by
  match st with
  | [] => trivial
  | v :: st => cases v <;> first | exact hk _ _ | trivial
theorem ro_pA {st : List Value} {k k' : Value → List Value → am_O} (hk : ∀ x st, RO ρ (k x st) (k' (am_cv ρ x) (st.map (am_cv ρ)))) : RO ρ (am_pA st k) (am_pA (st.map (am_cv ρ)) k') := by
  match st with
  | [] => trivial
  | v :: st => cases v <;> first | exact hk _ _ | trivial
theorem ro_pE {st : List Value} {k k' : am_O} (hk : RO ρ k k') : RO ρ (am_pE st k) (am_pE (st.map (am_cv ρ)) k') := by
  match st with
  | [] => exact hk
  | v :: st => trivial
theorem ro_ldI {L : List Value} {i : Nat} {k k' : Int32 → am_O} (hk : ∀ x, RO ρ (k x) (k' x)) : RO ρ (am_ldI L i k) (am_ldI (L.map (am_cv ρ)) i k') := by
  unfold am_ldI
  rw [List.getElem?_map]
  match L[i]? with
  | none => trivial
  | some v => cases v <;> first | exact hk _ | trivial
theorem ro_ldL {L : List Value} {i : Nat} {k k' : Int64 → am_O} (hk : ∀ x, RO ρ (k x) (k' x)) : RO ρ (am_ldL L i k) (am_ldL (L.map (am_cv ρ)) i k') := by
  unfold am_ldL
  rw [List.getElem?_map]
  match L[i]? with
  | none => trivial
  | some v => cases v <;> first | exact hk _ | trivial
theorem ro_ldF {L : List Value} {i : Nat} {k k' : UInt32 → am_O} (hk : ∀ x, RO ρ (k x) (k' x)) : RO ρ (am_ldF L i k) (am_ldF (L.map (am_cv ρ)) i k') := by
  unfold am_ldF
  rw [List.getElem?_map]
  match L[i]? with
  | none => trivial
  | some v => cases v <;> first | exact hk _ | trivial
theorem ro_ldD {L : List Value} {i : Nat} {k k' : UInt64 → am_O} (hk : ∀ x, RO ρ (k x) (k' x)) : RO ρ (am_ldD L i k) (am_ldD (L.map (am_cv ρ)) i k') := by
  unfold am_ldD
  rw [List.getElem?_map]
  match L[i]? with
  | none => trivial
  | some v => cases v <;> first | exact hk _ | trivial
theorem ro_ldA {L : List Value} {i : Nat} {k k' : Value → am_O} (hk : ∀ x, RO ρ (k x) (k' (am_cv ρ x))) : RO ρ (am_ldA L i k) (am_ldA (L.map (am_cv ρ)) i k') := by
  unfold am_ldA
  rw [List.getElem?_map]
  match L[i]? with
  | none => trivial
  | some v => cases v <;> first | exact hk _ | trivial
theorem ro_pop {k k' : List Value → List Value → am_O} (hk : ∀ l st, RO ρ (k l st) (k' (l.map (am_cv ρ)) (st.map (am_cv ρ)))) : ∀ (n : Nat) (acc st : List Value), RO ρ (am_pop n acc st k) (am_pop n (acc.map (am_cv ρ)) (st.map (am_cv ρ)) k')
  | 0, acc, st => hk acc st
  | n + 1, acc, v :: st => ro_pop hk n (v :: acc) st
  | _ + 1, _, [] => trivial
theorem ro_ob (R : Rl ρ h g) {a ci : Nat} {k k' : (Nat → Value) → am_O} (hk : ∀ f, hget h a = some (.inr (ci, f)) → RO ρ (k f) (k' fun j => am_cv ρ (f j))) : RO ρ (am_ob h a ci k) (am_ob g (ρ a) ci k') := by
  unfold am_ob
  match e : hget h a with
  | none => trivial
  | some (.inl _) => trivial
  | some (.inr (c, fs)) =>
    rw [(R.2.2.2.1 a _ e).2.2]
    show RO ρ (am_g (c == ci) (k fs)) (am_g (c == ci) (k' fun j => am_cv ρ (fs j)))
    by_cases q : c = ci
    · subst q
      exact ro_g (hk fs e)
    · rw [show (c == ci) = false from beq_false_of_ne q]
      trivial
theorem ro_ar (R : Rl ρ h g) {a : Nat} {k k' : Nat → Nat → am_A → am_O} (hk : ∀ t n c, RO ρ (k t n c) (k' t n (mvA ρ c))) : RO ρ (am_ar h a k) (am_ar g (ρ a) k') := by
  unfold am_ar
  match e : hget h a with
  | none => trivial
  | some (.inr _) => trivial
  | some (.inl (t, n, c)) =>
    rw [(R.2.2.2.1 a _ e).2.2]
    exact hk t n c
theorem ro_rI (R : Rl ρ h g) {p : Nat → Bool} {a : Nat} {i : Int32} {k k' : Int32 → am_O} (hk : ∀ x, RO ρ (k x) (k' x)) : RO ρ (am_rI p h a i k) (am_rI p g (ρ a) i k') := by
  unfold am_rI
  match e : hget h a with
  | none => trivial
  | some (.inr _) => trivial
  | some (.inl (t, n, .inl f)) =>
    rw [(R.2.2.2.1 a _ e).2.2]
    exact ro_g (hk _)
  | some (.inl (t, n, .inr _)) => trivial
theorem ro_rA (R : Rl ρ h g) {a : Nat} {i : Int32} {k k' : Option Nat → am_O} (hk : ∀ x, RO ρ (k x) (k' (x.map ρ))) : RO ρ (am_rA h a i k) (am_rA g (ρ a) i k') := by
  unfold am_rA
  match e : hget h a with
  | none => trivial
  | some (.inr _) => trivial
  | some (.inl (t, n, .inl f)) => trivial
  | some (.inl (t, n, .inr (.inl f))) => trivial
  | some (.inl (t, n, .inr (.inr (.inl f)))) => trivial
  | some (.inl (t, n, .inr (.inr (.inr f)))) =>
    rw [(R.2.2.2.1 a _ e).2.2]
    exact ro_g (hk _)
theorem ro_wI (R : Rl ρ h g) {t0 a : Nat} {i x : Int32} {k k' : am_H → am_O} (hk : ∀ h' g', Rl ρ h' g' → RO ρ (k h') (k' g')) : RO ρ (am_wI t0 h a i x k) (am_wI t0 g (ρ a) i x k') := by
  unfold am_wI
  match e : hget h a with
  | none => trivial
  | some (.inr _) => trivial
  | some (.inl (t, n, .inl f)) =>
    rw [(R.2.2.2.1 a _ e).2.2]
    exact ro_g (hk _ _ (R.set e rfl))
  | some (.inl (t, n, .inr _)) => trivial
theorem ro_el (R : Rl ρ h g) {t : Nat} {v : Value} {k k' : Option Nat → am_O} (hk : ∀ x, RO ρ (k x) (k' (x.map ρ))) : RO ρ (am_el h t v k) (am_el g t (am_cv ρ v) k') := by
  unfold am_el
  cases v with
  | null => exact hk none
  | ref b =>
    simp only [am_cv]
    match e : hget h b with
    | none => trivial
    | some (.inl _) => trivial
    | some (.inr (c, fs)) =>
      rw [(R.2.2.2.1 b _ e).2.2]
      exact ro_g (hk (some b))
  | int _ => trivial
  | long _ => trivial
  | float _ => trivial
  | double _ => trivial
  | retAddr _ => trivial
theorem up_map (f : Int → Option Nat) (i : Int) (x : Option Nat) : am_up (fun j => (f j).map ρ) i (x.map ρ) = fun j => (am_up f i x j).map ρ := by
  funext j
  unfold am_up
  by_cases q : j = i
  · rw [if_pos q, if_pos q]
  · rw [if_neg q, if_neg q]
theorem ro_wA (R : Rl ρ h g) {a : Nat} {i : Int32} {v : Value} {k k' : am_H → am_O} (hk : ∀ h' g', Rl ρ h' g' → RO ρ (k h') (k' g')) : RO ρ (am_wA h a i v k) (am_wA g (ρ a) i (am_cv ρ v) k') := by
  unfold am_wA
  match e : hget h a with
  | none => trivial
  | some (.inr _) => trivial
  | some (.inl (t, n, .inl f)) => trivial
  | some (.inl (t, n, .inr (.inl f))) => trivial
  | some (.inl (t, n, .inr (.inr (.inl f)))) => trivial
  | some (.inl (t, n, .inr (.inr (.inr f)))) =>
    rw [(R.2.2.2.1 a _ e).2.2]
    exact ro_g (ro_el R fun x => hk _ _ (R.set e (by
      show (Sum.inl (t, n, _) : am_C) = Sum.inl (t, n, _)
      rw [up_map]
      rfl)))
theorem ro_alc (R : Rl ρ h g) {c c' : am_C} {n pc : Nat} {L st : List Value} (e : c' = mvC ρ c) : RO ρ (am_nx pc L (.ref (hnx h) :: st) (halc h n c)) (am_nx pc (L.map (am_cv ρ)) (.ref (hnx g) :: st.map (am_cv ρ)) (halc g n c')) :=
  ro_nxe (R.alc e) rfl (by rw [← R.nx0]; rfl)
theorem mvA_z0 (t : ArrayType) : mvA ρ (am_z0 t) = am_z0 t := by cases t <;> rfl
theorem ro_alcO (R : Rl ρ h g) {ci n pc : Nat} {L st : List Value} : RO ρ (am_nx pc L (.ref (hnx h) :: st) (halc h n (.inr (ci, fun k => defaultValue (am_ft ci k))))) (am_nx pc (L.map (am_cv ρ)) (.ref (hnx g) :: st.map (am_cv ρ)) (halc g n (.inr (ci, fun k => defaultValue (am_ft ci k))))) := ro_alc R (by simp only [mvC, cv_dflt])
theorem ro_alcI (R : Rl ρ h g) {t : ArrayType} {k n pc : Nat} {L st : List Value} : RO ρ (am_nx pc L (.ref (hnx h) :: st) (halc h n (.inl (am_tg t, k, am_z0 t)))) (am_nx pc (L.map (am_cv ρ)) (.ref (hnx g) :: st.map (am_cv ρ)) (halc g n (.inl (am_tg t, k, am_z0 t)))) := ro_alc R (by simp only [mvC, mvA_z0])
theorem ro_st (R : Rl ρ h g) {i pc : Nat} {v v' : Value} {L st : List Value} (e : v' = am_cv ρ v) : RO ρ (am_nx pc (am_st L i v) st h) (am_nx pc (am_st (L.map (am_cv ρ)) i v') (st.map (am_cv ρ)) g) := ro_nxe R (by rw [e, mp_st]) rfl
theorem ro_s2 (R : Rl ρ h g) {i pc : Nat} {v v' : Value} {L st : List Value} (e : v' = am_cv ρ v) : RO ρ (am_nx pc (am_s2 L i v) st h) (am_nx pc (am_s2 (L.map (am_cv ρ)) i v') (st.map (am_cv ρ)) g) := ro_nxe R (by rw [e, mp_s2]) rfl
theorem ro_rv (R : Rl ρ h g) {pc : Nat} {x : Option Nat} {L st : List Value} : RO ρ (am_nx pc L (am_rv x :: st) h) (am_nx pc (L.map (am_cv ρ)) (am_rv (x.map ρ) :: st.map (am_cv ρ)) g) := ro_nxe R rfl (by rw [List.map_cons, cv_rv])
theorem ro_r0 (R : Rl ρ h g) {pc : Nat} {L st : List Value} : RO ρ (am_nx pc L (.ref 0 :: st) h) (am_nx pc (L.map (am_cv ρ)) (.ref 0 :: st.map (am_cv ρ)) g) := ro_nxe R rfl (by
  show _ = Value.ref (ρ 0) :: _
  rw [R.1])
theorem ro_g1 {v : Value} {o o' : am_O} (k : RO ρ o o') : RO ρ (am_g (decide (v.category = 1)) o) (am_g (decide ((am_cv ρ v).category = 1)) o') := ro_ge (by rw [cv_cat]) k
theorem ro_g2 {v w : Value} {o o' : am_O} (k : RO ρ o o') : RO ρ (am_g (decide (v.category = 1) && decide (w.category = 1)) o) (am_g (decide ((am_cv ρ v).category = 1) && decide ((am_cv ρ w).category = 1)) o') := ro_ge (by rw [cv_cat, cv_cat]) k
theorem ro_gl {st : List Value} {o o' : am_O} (k : RO ρ o o') : RO ρ (am_g (decide (st.length ≤ 8)) o) (am_g (decide ((st.map (am_cv ρ)).length ≤ 8)) o') := ro_ge (by rw [List.length_map]) k
theorem ro_gk {ty : FieldType} {v : Value} {o o' : am_O} (k : RO ρ o o') : RO ρ (am_g (am_okV ty v) o) (am_g (am_okV ty (am_cv ρ v)) o') := ro_ge (cv_okV _ _) k
theorem fu_map (fs : Nat → Value) (k : Nat) (v : Value) : am_fu (fun j => am_cv ρ (fs j)) k (am_cv ρ v) = fun j => am_cv ρ (am_fu fs k v j) := by
  funext j
  unfold am_fu
  by_cases q : j = k
  · rw [if_pos q, if_pos q]
  · rw [if_neg q, if_neg q]
theorem ro_pf (R : Rl ρ h g) {a ci k pc : Nat} {v : Value} {fs : Nat → Value} {L st : List Value} (h0 : hget h a = some (.inr (ci, fs))) : RO ρ (am_nx pc L st (hset h a (.inr (ci, am_fu fs k v)))) (am_nx pc (L.map (am_cv ρ)) (st.map (am_cv ρ)) (hset g (ρ a) (.inr (ci, am_fu (fun j => am_cv ρ (fs j)) k (am_cv ρ v))))) :=
  ro_nx (R.set h0 (by rw [fu_map]; rfl))
theorem ro_cl (R : Rl ρ h g) {a pc : Nat} {L st : List Value} : RO ρ (am_ar h a fun t n c => match c with
      | .inl f => am_g (t == 0) (am_nx pc L (.ref (hnx h) :: st) (halc h n (.inl (0, n, .inl f))))
      | _ => none) (am_ar g (ρ a) fun t n c => match c with
      | .inl f => am_g (t == 0) (am_nx pc (L.map (am_cv ρ)) (.ref (hnx g) :: st.map (am_cv ρ)) (halc g n (.inl (0, n, .inl f))))
      | _ => none) := by
  refine ro_ar R fun t n c => ?_
  match c with
  | .inl f => exact ro_g (ro_alc R rfl)
  | .inr _ => trivial
set_option maxHeartbeats 20000000 in
theorem ro_stp (R : Rl ρ h g) (m : Nat) (ins : Instr) (len : Nat) (pl : List Nat) (kz : Int) (pc : Nat) (L st : List Value) : RO ρ (am_stp m ins len pl kz pc L st h) (am_stp m ins len pl kz pc (L.map (am_cv ρ)) (st.map (am_cv ρ)) g) := by
  cases ins with
  | getfield ix =>
    unfold am_stp
    refine ro_pR fun a st => ?_
    match pl with
    | [ci, k, _] =>
      refine ro_ob R fun f _ => ?_
      dsimp only
      generalize f k = v
      cases v <;> first | exact ro_nx R | trivial
    | [] => trivial
    | [_] => trivial
    | [_, _] => trivial
    | _ :: _ :: _ :: _ :: _ => trivial
  | putfield ix =>
    unfold am_stp
    refine ro_pop (fun l st => ?_) _ _ _
    match l with
    | [v] =>
      refine ro_pR fun a st => ?_
      match pl with
      | [ci, k, _] => exact ro_ob R fun f hf => ro_gk (ro_pf R hf)
      | [] => trivial
      | [_] => trivial
      | [_, _] => trivial
      | _ :: _ :: _ :: _ :: _ => trivial
    | [] => trivial
    | _ :: _ :: _ => trivial
  | aastore =>
    unfold am_stp
    refine ro_pop (fun l st => ?_) _ _ _
    match l with
    | [v] => exact ro_pI fun i st => ro_pR fun a st => ro_wA R fun _ _ R' => ro_nx R'
    | [] => trivial
    | _ :: _ :: _ => trivial
  | dup =>
    unfold am_stp
    refine ro_pop (fun l st => ?_) _ _ _
    match l with
    | [v] => exact ro_g1 (ro_nx R)
    | [] => trivial
    | _ :: _ :: _ => trivial
  | dup2 =>
    unfold am_stp
    refine ro_pop (fun l st => ?_) _ _ _
    match l with
    | [v, w] => exact ro_g2 (ro_nx R)
    | [] => trivial
    | [_] => trivial
    | _ :: _ :: _ :: _ => trivial
  | invokevirtual ix =>
    unfold am_stp
    match pl with
    | [mj, ci] => exact ro_pop (fun l st => ro_pR fun b st => ro_ob R fun _ _ => ro_call (as := .ref b :: l) R) _ _ _
    | [] => exact ro_pR fun a st => ro_gl (ro_cl R)
    | [_] => trivial
    | _ :: _ :: _ :: _ => trivial
  | invokespecial ix =>
    unfold am_stp
    match pl with
    | [mj] => exact ro_pop (fun l st => ro_pR fun b st => ro_call (as := .ref b :: l) R) _ _ _
    | [] => exact ro_pR fun a st => ro_gl (ro_nx R)
    | _ :: _ :: _ => trivial
  | ifnull off =>
    unfold am_stp
    match st with
    | [] => trivial
    | v :: st => cases v <;> first | exact ro_go R | exact ro_nx R | trivial
  | ifnonnull off =>
    unfold am_stp
    match st with
    | [] => trivial
    | v :: st => cases v <;> first | exact ro_go R | exact ro_nx R | trivial
  | dconst f =>
    unfold am_stp
    match f with
    | 0 => exact ro_nx R
    | 1 => trivial
  | fconst f =>
    unfold am_stp
    match f with
    | 0 => exact ro_nx R
    | 1 => trivial
    | 2 => trivial
  | ifCond cond off =>
    cases cond <;> (unfold am_stp; exact ro_pI fun _ _ => ro_if R)
  | if_icmp cond off =>
    cases cond <;> (unfold am_stp; exact ro_pI fun _ _ => ro_pI fun _ _ => ro_if R)
  | ldc2_w i =>
    unfold am_stp
    match pl with
    | [] => exact ro_nx R
    | [_] => exact ro_nx R
    | _ :: _ :: _ => exact ro_nx R
  | invokestatic ix =>
    unfold am_stp
    dsimp only
    split
    · exact ro_pop (fun l st => ro_call R) _ _ _
    · exact ro_pI fun _ _ => ro_gl (ro_nx R)
    · exact ro_pI fun _ _ => ro_pI fun _ _ => ro_gl (ro_nx R)
    · exact ro_pI fun _ _ => ro_pI fun _ _ => ro_gl (ro_nx R)
    · trivial
  | new ix =>
    unfold am_stp
    match pl with
    | [ci] => exact ro_alcO R
    | [x, _] => exact ro_pE (ro_th R.exc)
    | [] => trivial
    | _ :: _ :: _ :: _ => trivial
  | _ =>
    unfold am_stp
    repeat (first
    | exact ro_no | exact ro_call (by assumption) | exact ro_go (by assumption) | exact ro_if (by assumption) | exact ro_sw (by assumption) | exact ro_th R.exc
    | exact ro_nx (by assumption)
    | exact ro_st (by assumption) rfl
    | exact ro_s2 (by assumption) rfl
    | exact ro_rv R
    | exact ro_r0 R
    | exact ro_alcO R
    | exact ro_alcI R
    | exact ro_alc R rfl
    | exact ro_dn (by assumption) rfl
    | (refine ro_pI fun _ _ => ?_) | (refine ro_pL fun _ _ => ?_) | (refine ro_pF fun _ _ => ?_) | (refine ro_pD fun _ _ => ?_) | (refine ro_pR fun _ _ => ?_) | (refine ro_pA fun _ _ => ?_) | (refine ro_pE ?_)
    | (refine ro_ldI fun _ => ?_) | (refine ro_ldL fun _ => ?_) | (refine ro_ldF fun _ => ?_) | (refine ro_ldD fun _ => ?_) | (refine ro_ldA fun _ => ?_)
    | (refine ro_pop (fun _ _ => ?_) _ _ _) | (refine ro_ar R fun _ _ _ => ?_) | (refine ro_rI R fun _ => ?_) | (refine ro_rA R fun _ => ?_)
    | (refine ro_wI R fun _ _ _ => ?_) | (refine ro_g ?_) | (refine ro_gk ?_) | (refine ro_gl ?_) | split)
theorem ro_so (R : Rl ρ h g) (m pc : Nat) (L st : List Value) : RO ρ (am_so m pc L st h) (am_so m pc (L.map (am_cv ρ)) (st.map (am_cv ρ)) g) := by
  unfold am_so
  split
  · exact ro_stp R _ _ _ _ _ _ _ _
  · trivial
end REN
theorem ro_ex {ρ : Nat → Nat} : ∀ (n m pc : Nat) (L st : List Value) (h g : am_H) (r : Option Value ⊕ Nat) (h' : am_H), Rl ρ h g → am_ex n m pc L st h = some (r, h') → ∃ g', am_ex n m pc (L.map (am_cv ρ)) (st.map (am_cv ρ)) g = some (mvR ρ r, g') ∧ Rl ρ h' g'
  | 0, _, _, _, _, _, _, _, _, _, q => by cases q
  | n + 1, m, pc, L, st, h, g, r, h', R, q => by
    simp only [am_ex] at q ⊢
    have hM := ro_so R m pc L st
    generalize am_so m pc L st h = o at q hM
    match o, q, hM with
    | some (.inl (pc', L', st', h1)), q, hM =>
      obtain ⟨g1, e, R1⟩ := hM
      rw [e]
      exact ro_ex n _ _ _ _ _ _ _ _ R1 q
    | some (.inr (.inl (r1, h1))), q, hM =>
      obtain ⟨g1, e, R1⟩ := hM
      rw [e]
      cases q
      exact ⟨g1, rfl, R1⟩
    | some (.inr (.inr (mj, as, rest, h0))), q, hM =>
      obtain ⟨g1, e, R1⟩ := hM
      rw [e]
      simp only [am_bd] at q ⊢
      cases hd : decide (am_d mj < am_d m) with
      | false => rw [hd] at q; simp [am_g] at q
      | true =>
        rw [hd] at q
        simp only [am_g] at q ⊢
        cases hf : am_ex n mj 0 (am_en (am_sg mj) as (am_n mj)) [] h0 with
        | none => rw [hf] at q; simp at q
        | some w =>
          obtain ⟨w1, h2⟩ := w
          obtain ⟨g2, e2, R2⟩ := ro_ex n _ _ _ _ _ _ _ _ R1 hf
          rw [mp_en, List.map_nil] at e2
          rw [e2]
          rw [hf] at q
          match w1, q with
          | .inl v, q =>
            obtain ⟨g3, e3, R3⟩ := ro_ex n _ _ _ _ _ _ _ _ R2 q
            refine ⟨g3, ?_, R3⟩
            rw [← e3]
            show am_ex n m (pc + 3) (L.map (am_cv ρ)) ((v.map (am_cv ρ)).toList ++ rest.map (am_cv ρ)) g2 = _
            rw [List.map_append]
            cases v <;> rfl
          | .inr x, q =>
            simp only [mvR] at q ⊢
            cases hh : am_hd m x with
            | none =>
              rw [hh] at q
              simp only at q ⊢
              cases he : (am_hl m).isEmpty with
              | false => rw [he] at q; simp at q
              | true =>
                rw [he] at q
                simp only [Option.some.injEq, Prod.mk.injEq] at q
                refine ⟨g2, ?_, q.2 ▸ R2⟩
                rw [← q.1]
            | some w =>
              rw [hh] at q
              simp only at q ⊢
              obtain ⟨g3, e3, R3⟩ := ro_ex n _ _ _ _ _ _ _ _ R2 q
              rw [mp_st] at e3
              exact ⟨g3, e3, R3⟩
/-- what comes of a frame comes of it elsewhere too -/
theorem ro_rn {ρ : Nat → Nat} {m pc : Nat} {L st : List Value} {h g h' : am_H} {r : Option Value ⊕ Nat} (R : Rl ρ h g) (q : rn m pc L st h = some (r, h')) : ∃ g', rn m pc (L.map (am_cv ρ)) (st.map (am_cv ρ)) g = some (mvR ρ r, g') ∧ Rl ρ h' g' := by
  obtain ⟨n, hn⟩ := rn_iff.mp q
  obtain ⟨g', e, R'⟩ := ro_ex n _ _ _ _ _ _ _ _ R hn
  exact ⟨g', rn_iff.mpr ⟨n, e⟩, R'⟩
