/-! ===== both together: what a call leaves ===== -/
/-- the row of calls -/
def SR (h : am_H) (n : Nat) (xs : Int → Int) : Prop := sh h 1 = (1, 7) ∧ gn h 1 = n ∧ gZ h 1 = xs
theorem SR_fr {S : Nat → Nat → Prop} {c s n : Nat} {xs : Int → Int} {h h' : am_H} (F : Fr S c s h h') (al : 1 < hnx h) (nS : ¬ S 1 0) (r : SR h n xs) : SR h' n xs := ⟨(F.1.sh1 al).trans r.1, (F.1.gn1 al).trans r.2.1, (frZ F al nS).trans r.2.2⟩
section JO
variable {σ σ' : St} {h h' : am_H} {D D' n : Nat} {xs : Int → Int}
/-- the class has been called -/
theorem J_class {cc ss : Nat} (F : Fr (SCl D) cc ss h h') (h75 : 75 < D ∨ D = 7) (hD : D' = D ∨ hnx h ≤ D') (al : 75 < hnx h) (rm : RM σ h D) (o : OUT h) (sr : SR h n xs) : RM σ h' D' ∧ OUT h' ∧ SR h' n xs :=
  ⟨RM_fr F (fun _ _ q => q) h75 hD rm, OUT_fr F al o, SR_fr F (by omega) (by unfold SCl; omega) sr⟩
/-- its answer has been put down -/
theorem J_out (m : Md (fun a _ => a = 74 ∨ a = 75) h h') (rc : RC σ' h D) (rm : RM σ h D) (o : OUT h) (sr : SR h n xs) (px : pixels (gZ h (D + 8))) : RC σ' h' D ∧ RM σ h' D ∧ OUT h' ∧ SR h' n xs ∧ pixels (gZ h' (D + 8)) := by
  obtain ⟨a1, a2, al⟩ := RC_al rc
  have F := md_fr m
  exact ⟨RC_fr F al (fun a k q => by omega) rc, RM_fr F (fun a k q => by unfold SCl; omega) a1.1 (Or.inl rfl) rm, OUT_fr F (by omega) o, SR_fr F (by omega) (by omega) sr, by rw [md_Z m (by omega)]; exact px⟩
/-- the model has been called -/
theorem J_model {cc ss : Nat} (F : Fr SMl2 cc ss h h') (rc : RC σ' h D) (o : OUT h) (sr : SR h n xs) (px : pixels (gZ h (D + 8))) : RC σ' h' D ∧ OUT h' ∧ SR h' n xs ∧ pixels (gZ h' (D + 8)) ∧ gJ h' 74 0 = gJ h 74 0 ∧ gDD h' 75 = gDD h 75 := by
  obtain ⟨a1, a2, al⟩ := RC_al rc
  exact ⟨RC_fr F al (fun a k q => by unfold SMl2 at q; omega) rc, OUT_fr F (by omega) o, SR_fr F (by omega) (by unfold SMl2; omega) sr, by rw [frZ F (by omega) (by unfold SMl2; omega)]; exact px, F.1.gJ1 0 (by omega) (by unfold SMl2; omega), F.1.gDD1 (by omega) (by unfold SMl2; omega)⟩
/-- all of it: class and model stand for the same -/
def JI (σ : St) (c : Int) (h : am_H) (D n : Nat) (xs : Int → Int) : Prop := RC σ h D ∧ RM σ h D ∧ WfS σ c ∧ pixels (gZ h (D + 8)) ∧ OUT h ∧ SR h n xs
/-- both answer: the class with a number, then the model with one -/
theorem J_step {cc ss c2 s2 : Nat} {c c' : Int} {v z k : Int} {r : Option am_Rs} (j : JI σ c h D n xs) (F : Fr (SCl D) cc ss h h') (hD : D' = D ∨ hnx h ≤ D') (rc : RC σ' h' D') (px : pixels (gZ h' (D' + 8))) (wf : WfS σ' c') (m : RM σ (uJ h' 74 0 v) D' → D' + 8 < hnx (uJ h' 74 0 v) ∧ 75 < hnx (uJ h' 74 0 v) → MRs σ' (uJ h' 74 0 v) D' r (.int (mI z)) k c2 s2) : ∃ h2, r = some (.inl (some (.int (mI z))), h2) ∧ JI σ' c' h2 D' n xs ∧ fZ h2 51 0 = k ∧ gJ h2 74 0 = wl v ∧ Fr (fun _ _ => True) (cc + c2) (ss + s2) h h2 := by
  obtain ⟨r1, r2, r3, r4, r5, r6⟩ := j
  obtain ⟨a1, a2, al⟩ := RC_al r1
  obtain ⟨t1, t2, t3⟩ := J_class F a1.1 hD (by omega) r2 r5 r6
  have mJ : Md (fun a _ => a = 74) h' (uJ h' 74 0 v) := Md_uJ _ _ _ _
  obtain ⟨u1, u2, u3, u4, u5⟩ := J_out (Md_mono mJ fun a _ q => Or.inl q) rc t1 t2 t3 px
  have gj : gJ (uJ h' 74 0 v) 74 0 = wl v := gJ_uJ_eq _ (by rw [t2.1.1]) rfl
  obtain ⟨b1, b2, b3⟩ := RC_al u1
  obtain ⟨h2, e, q1, q2, q3⟩ := m u2 ⟨b2, b1.2⟩
  obtain ⟨y1, y2, y3, y4, y5, -⟩ := J_model q3 u1 u3 u4 u5
  exact ⟨h2, e, ⟨y1, q1, wf, y4, y2, y3⟩, q2, y5.trans gj, Fr_mono (Fr_tr (U := fun _ _ => True) F (Fr_tr (U := fun _ _ => True) (md_fr mJ) q3 (fun _ _ _ _ => trivial) (fun _ _ _ _ => trivial)) (fun _ _ _ _ => trivial) (fun _ _ _ _ => trivial)) (fun _ _ _ q => q) (by omega) (by omega)⟩
end JO
