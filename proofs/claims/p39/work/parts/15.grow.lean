/-! ===== cells and slots only grow ===== -/
def am_gr (h h' : am_H) : Prop := hnx h ≤ hnx h' ∧ hcl h ≤ hcl h' ∧ hsl h ≤ hsl h'
theorem am_gr.rf {h : am_H} : am_gr h h := ⟨Nat.le_refl _, Nat.le_refl _, Nat.le_refl _⟩
theorem am_gr.tr {h h1 h2 : am_H} (a : am_gr h h1) (b : am_gr h1 h2) : am_gr h h2 := ⟨Nat.le_trans a.1 b.1, Nat.le_trans a.2.1 b.2.1, Nat.le_trans a.2.2 b.2.2⟩
theorem am_gr.set {h : am_H} {a : Nat} {c : am_C} : am_gr h (hset h a c) := ⟨Nat.le_refl _, Nat.le_refl _, Nat.le_refl _⟩
theorem am_gr.alc {h : am_H} {n : Nat} {c : am_C} : am_gr h (halc h n c) := ⟨Nat.le_succ _, Nat.le_succ _, Nat.le_add_right _ _⟩
theorem am_gr.exc {h : am_H} : am_gr h (hexc h) := ⟨Nat.le_refl _, Nat.le_succ _, Nat.le_add_right _ _⟩
/-- an outcome whose heap has grown -/
def am_M (h : am_H) (o : am_O) : Prop := match o with
  | none => True
  | some (.inl (_, _, _, h')) => am_gr h h'
  | some (.inr (.inl (_, h'))) => am_gr h h'
  | some (.inr (.inr (_, _, _, h'))) => am_gr h h'
theorem am_M_no {h : am_H} : am_M h none := trivial
theorem am_M_nx {h h' : am_H} {pc : Nat} {L st : List Value} (g : am_gr h h') : am_M h (am_nx pc L st h') := g
theorem am_M_dn {h : am_H} {v : Option Value} : am_M h (am_dn v h) := am_gr.rf
theorem am_M_th {h : am_H} {x : Nat} : am_M h (am_th x (hexc h)) := am_gr.exc
theorem am_M_g {h : am_H} {b : Bool} {o : am_O} (k : am_M h o) : am_M h (am_g b o) := by cases b <;> first | exact k | trivial
theorem am_M_call {h : am_H} {mj : Nat} {as rest : List Value} : am_M h (am_call mj as rest h) := am_M_g am_gr.rf
theorem am_M_go {h : am_H} {pc : Nat} {off : Int} {L st : List Value} : am_M h (am_go pc off L st h) := am_M_g (am_M_nx am_gr.rf)
theorem am_M_if {h : am_H} {b : Prop} [Decidable b] {pc : Nat} {off : Int} {L st : List Value} : am_M h (am_if b pc off L st h) := by
  unfold am_if
  split
  · exact am_M_go
  · exact am_M_nx am_gr.rf
theorem am_M_sw {h : am_H} {pc : Nat} {d lo hi : Int} {offs : Array Int} {x : Int32} {L st : List Value} : am_M h (am_sw pc d lo hi offs x L st h) := by
  unfold am_sw
  split
  · exact am_M_go
  · split
    · exact am_M_go
    · trivial
theorem am_M_pI {h : am_H} {st : List Value} {k : Int32 → List Value → am_O} (hk : ∀ x st, am_M h (k x st)) : am_M h (am_pI st k) := by unfold am_pI; split <;> first | exact hk _ _ | trivial
theorem am_M_pL {h : am_H} {st : List Value} {k : Int64 → List Value → am_O} (hk : ∀ x st, am_M h (k x st)) : am_M h (am_pL st k) := by unfold am_pL; split <;> first | exact hk _ _ | trivial
theorem am_M_pF {h : am_H} {st : List Value} {k : UInt32 → List Value → am_O} (hk : ∀ x st, am_M h (k x st)) : am_M h (am_pF st k) := by unfold am_pF; split <;> first | exact hk _ _ | trivial
theorem am_M_pD {h : am_H} {st : List Value} {k : UInt64 → List Value → am_O} (hk : ∀ x st, am_M h (k x st)) : am_M h (am_pD st k) := by unfold am_pD; split <;> first | exact hk _ _ | trivial
theorem am_M_pR {h : am_H} {st : List Value} {k : Nat → List Value → am_O} (hk : ∀ x st, am_M h (k x st)) : am_M h (am_pR st k) := by unfold am_pR; split <;> first | exact hk _ _ | trivial
theorem am_M_pA {h : am_H} {st : List Value} {k : Value → List Value → am_O} (hk : ∀ x st, am_M h (k x st)) : am_M h (am_pA st k) := by unfold am_pA; split <;> first | exact hk _ _ | trivial
theorem am_M_pE {h : am_H} {st : List Value} {k : am_O} (hk : am_M h k) : am_M h (am_pE st k) := by unfold am_pE; split <;> first | exact hk | trivial
theorem am_M_ldI {h : am_H} {L : List Value} {i : Nat} {k : Int32 → am_O} (hk : ∀ x, am_M h (k x)) : am_M h (am_ldI L i k) := by unfold am_ldI; split <;> first | exact hk _ | trivial
theorem am_M_ldL {h : am_H} {L : List Value} {i : Nat} {k : Int64 → am_O} (hk : ∀ x, am_M h (k x)) : am_M h (am_ldL L i k) := by unfold am_ldL; split <;> first | exact hk _ | trivial
theorem am_M_ldF {h : am_H} {L : List Value} {i : Nat} {k : UInt32 → am_O} (hk : ∀ x, am_M h (k x)) : am_M h (am_ldF L i k) := by unfold am_ldF; split <;> first | exact hk _ | trivial
theorem am_M_ldD {h : am_H} {L : List Value} {i : Nat} {k : UInt64 → am_O} (hk : ∀ x, am_M h (k x)) : am_M h (am_ldD L i k) := by unfold am_ldD; split <;> first | exact hk _ | trivial
theorem am_M_ldA {h : am_H} {L : List Value} {i : Nat} {k : Value → am_O} (hk : ∀ x, am_M h (k x)) : am_M h (am_ldA L i k) := by unfold am_ldA; split <;> first | exact hk _ | trivial
theorem am_M_pop {h : am_H} {k : List Value → List Value → am_O} (hk : ∀ l st, am_M h (k l st)) : ∀ (n : Nat) (acc st : List Value), am_M h (am_pop n acc st k)
  | 0, acc, st => hk acc st
  | n + 1, acc, v :: st => am_M_pop hk n (v :: acc) st
  | _ + 1, _, [] => trivial
theorem am_M_ob {h : am_H} {a ci : Nat} {k : (Nat → Value) → am_O} (hk : ∀ f, am_M h (k f)) : am_M h (am_ob h a ci k) := by unfold am_ob; split <;> first | exact am_M_g (hk _) | trivial
theorem am_M_ar {h : am_H} {a : Nat} {k : Nat → Nat → am_A → am_O} (hk : ∀ t n c, am_M h (k t n c)) : am_M h (am_ar h a k) := by unfold am_ar; split <;> first | exact hk _ _ _ | trivial
theorem am_M_rI {h : am_H} {p : Nat → Bool} {a : Nat} {i : Int32} {k : Int32 → am_O} (hk : ∀ x, am_M h (k x)) : am_M h (am_rI p h a i k) := by unfold am_rI; split <;> first | exact am_M_g (hk _) | trivial
theorem am_M_rL {h : am_H} {a : Nat} {i : Int32} {k : Int64 → am_O} (hk : ∀ x, am_M h (k x)) : am_M h (am_rL h a i k) := by unfold am_rL; split <;> first | exact am_M_g (hk _) | trivial
theorem am_M_rD {h : am_H} {a : Nat} {i : Int32} {k : UInt64 → am_O} (hk : ∀ x, am_M h (k x)) : am_M h (am_rD h a i k) := by unfold am_rD; split <;> first | exact am_M_g (hk _) | trivial
theorem am_M_rA {h : am_H} {a : Nat} {i : Int32} {k : Option Nat → am_O} (hk : ∀ x, am_M h (k x)) : am_M h (am_rA h a i k) := by unfold am_rA; split <;> first | exact am_M_g (hk _) | trivial
theorem am_M_wI {h : am_H} {t a : Nat} {i x : Int32} {k : am_H → am_O} (hk : ∀ h', am_gr h h' → am_M h (k h')) : am_M h (am_wI t h a i x k) := by unfold am_wI; split <;> first | exact am_M_g (hk _ am_gr.set) | trivial
theorem am_M_wL {h : am_H} {a : Nat} {i : Int32} {x : Int64} {k : am_H → am_O} (hk : ∀ h', am_gr h h' → am_M h (k h')) : am_M h (am_wL h a i x k) := by unfold am_wL; split <;> first | exact am_M_g (hk _ am_gr.set) | trivial
theorem am_M_wD {h : am_H} {a : Nat} {i : Int32} {x : UInt64} {k : am_H → am_O} (hk : ∀ h', am_gr h h' → am_M h (k h')) : am_M h (am_wD h a i x k) := by unfold am_wD; split <;> first | exact am_M_g (hk _ am_gr.set) | trivial
theorem am_M_el {h : am_H} {t : Nat} {v : Value} {k : Option Nat → am_O} (hk : ∀ x, am_M h (k x)) : am_M h (am_el h t v k) := by
  unfold am_el
  split
  · exact hk _
  · split
    · exact am_M_g (hk _)
    · trivial
    · trivial
  · trivial
theorem am_M_wA {h : am_H} {a : Nat} {i : Int32} {v : Value} {k : am_H → am_O} (hk : ∀ h', am_gr h h' → am_M h (k h')) : am_M h (am_wA h a i v k) := by unfold am_wA; split <;> first | exact am_M_g (am_M_el fun _ => hk _ am_gr.set) | trivial
theorem am_stp_M (m : Nat) (ins : Instr) (len : Nat) (pl : List Nat) (kz : Int) (pc : Nat) (L st : List Value) (h : am_H) : am_M h (am_stp m ins len pl kz pc L st h) := by
  unfold am_stp
  split <;> repeat (first
    | exact am_M_no | exact am_M_nx am_gr.rf | exact am_M_nx am_gr.set | exact am_M_nx am_gr.alc | exact am_M_nx (by assumption) | exact am_M_dn | exact am_M_th | exact am_M_call | exact am_M_go | exact am_M_if | exact am_M_sw
    | (refine am_M_pI fun _ _ => ?_) | (refine am_M_pL fun _ _ => ?_) | (refine am_M_pF fun _ _ => ?_) | (refine am_M_pD fun _ _ => ?_) | (refine am_M_pR fun _ _ => ?_) | (refine am_M_pA fun _ _ => ?_) | (refine am_M_pE ?_)
    | (refine am_M_ldI fun _ => ?_) | (refine am_M_ldL fun _ => ?_) | (refine am_M_ldF fun _ => ?_) | (refine am_M_ldD fun _ => ?_) | (refine am_M_ldA fun _ => ?_)
    | (refine am_M_pop (fun _ _ => ?_) _ _ _) | (refine am_M_ob fun _ => ?_) | (refine am_M_ar fun _ _ _ => ?_) | (refine am_M_rI fun _ => ?_) | (refine am_M_rL fun _ => ?_) | (refine am_M_rD fun _ => ?_) | (refine am_M_rA fun _ => ?_)
    | (refine am_M_wI fun _ _ => ?_) | (refine am_M_wL fun _ _ => ?_) | (refine am_M_wD fun _ _ => ?_) | (refine am_M_wA fun _ _ => ?_) | (refine am_M_g ?_) | split)
theorem am_so_M (m pc : Nat) (L st : List Value) (h : am_H) : am_M h (am_so m pc L st h) := by
  unfold am_so
  split
  · exact am_stp_M _ _ _ _ _ _ _ _ _
  · trivial
theorem am_ex_gr : ∀ (n m pc : Nat) (L st : List Value) (h : am_H) (r : Option Value ⊕ Nat) (h' : am_H), am_ex n m pc L st h = some (r, h') → am_gr h h'
  | 0, _, _, _, _, _, _, _, q => by cases q
  | n + 1, m, pc, L, st, h, r, h', q => by
    simp only [am_ex] at q
    have hM := am_so_M m pc L st h
    generalize am_so m pc L st h = o at q hM
    match o, q, hM with
    | some (.inl (pc', L', st', h1)), q, hM => exact am_gr.tr hM (am_ex_gr n _ _ _ _ _ _ _ q)
    | some (.inr (.inl (r1, h1))), q, hM => cases q; exact hM
    | some (.inr (.inr (mj, as, rest, h0))), q, hM =>
      simp only [am_bd] at q
      cases hd : decide (am_d mj < am_d m) with
      | false => rw [hd] at q; simp [am_g] at q
      | true =>
        rw [hd] at q
        simp only [am_g] at q
        cases hf : am_ex n mj 0 (am_en (am_sg mj) as (am_n mj)) [] h0 with
        | none => rw [hf] at q; simp at q
        | some w =>
          obtain ⟨v | x, h2⟩ := w
          · rw [hf] at q
            exact am_gr.tr hM (am_gr.tr (am_ex_gr n _ _ _ _ _ _ _ hf) (am_ex_gr n _ _ _ _ _ _ _ q))
          · rw [hf] at q
            simp only at q
            cases hh : am_hd m x with
            | none =>
              rw [hh] at q
              simp only at q
              cases he : (am_hl m).isEmpty with
              | false => rw [he] at q; simp at q
              | true =>
                rw [he] at q
                simp only [Option.some.injEq, Prod.mk.injEq] at q
                rw [← q.2]
                exact am_gr.tr hM (am_ex_gr n _ _ _ _ _ _ _ hf)
            | some w =>
              rw [hh] at q
              exact am_gr.tr hM (am_gr.tr (am_ex_gr n _ _ _ _ _ _ _ hf) (am_ex_gr n _ _ _ _ _ _ _ q))
