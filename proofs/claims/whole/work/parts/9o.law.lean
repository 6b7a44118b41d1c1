/-! ===== the law's cases ===== -/
section LW
variable {σ σ' : St} {h h' : am_H} {D D' n : Nat} {xs : Int → Int}
/-- the class has thrown; the model has its number -/
theorem J_stepx {cc ss c2 s2 : Nat} {c : Int} {k : Int} {v : Value} {r : Option am_Rs} (j : JI σ c h D n xs) (F : Fr (SCl D) cc ss h h') (rc : RC σ h' D) (px : pixels (gZ h' (D + 8))) (m : RM σ h' D → D + 8 < hnx h' ∧ 75 < hnx h' → MRs σ h' D r v k c2 s2) : ∃ h2, r = some (.inl (some v), h2) ∧ JI σ c h2 D n xs ∧ fZ h2 51 0 = k ∧ Fr (fun _ _ => True) (cc + c2) (ss + s2) h h2 := by
  obtain ⟨r1, r2, r3, r4, r5, r6⟩ := j
  obtain ⟨a1, a2, al⟩ := RC_al r1
  obtain ⟨t1, t2, t3⟩ := J_class F a1.1 (Or.inl rfl) (by omega) r2 r5 r6
  obtain ⟨b1, b2, b3⟩ := RC_al rc
  obtain ⟨h2, e, q1, q2, q3⟩ := m t1 ⟨b2, b1.2⟩
  obtain ⟨y1, y2, y3, y4, y5, -⟩ := J_model q3 rc t2 t3 px
  exact ⟨h2, e, ⟨y1, q1, r3, y4, y2, y3⟩, q2, Fr_mono (Fr_tr (U := fun _ _ => True) F q3 (fun _ _ _ _ => trivial) (fun _ _ _ _ => trivial)) (fun _ _ _ q => q) (Nat.le_refl _) (Nat.le_refl _)⟩
/-- the class's exception costs little, and changes nothing -/
theorem J_exc {c : Int} (j : JI σ c h D n xs) : Fr (SCl D) 1 6 h (hexc h) ∧ RC σ (hexc h) D ∧ pixels (gZ (hexc h) (D + 8)) := by
  obtain ⟨r1, r2, r3, r4, r5, r6⟩ := j
  obtain ⟨a1, a2, al⟩ := RC_al r1
  exact ⟨Fr_mono (Fr_exc h) (fun _ _ _ q => q.elim) (Nat.le_refl _) (Nat.le_refl _), RC_exc al r1, r4⟩
/-- the number in the row -/
def xw (xs : Int → Int) (i : Int) : Int := xs i
theorem sr_w (r : SR h n xs) (i : Int) : wr (xs i) = xs i := by rw [← r.2.2]; exact wr_gZ _ _ _
end LW
