/-! ===== small facts ===== -/
theorem frZ {S : Nat → Nat → Prop} {c s : Nat} {h h' : am_H} {a : Nat} (F : Fr S c s h h') (ha : a < hnx h) (n : ¬ S a 0) : gZ h' a = gZ h a := funext fun i => F.1.gZ1 i ha n
theorem fr_new {h h' : am_H} {t n : Nat} (m : Md (fun c _ => c = hnx h) (aI t n h) h') : Fr (fun _ _ => False) 1 n h h' := by
  have := Fr_tr (U := fun _ _ => False) (Fr_alc h n (.inl (t, n, .inl fun _ => 0))) (md_fr m) (fun _ _ _ q => q) (fun a k ha q => by omega)
  exact this
theorem nx_new {h h' : am_H} {t n : Nat} {S : Nat → Nat → Prop} (m : Md S (aI t n h) h') : hnx h' = hnx h + 1 := (md_nx m).trans (hnx_aI _ _ _)
