section AGH
variable {A : Nat → Prop} {D : va_G} {ty : Nat → ClassId} {a0 a1 N : Nat} {xs : Int → Int32} {p : Program} {l : Launch} {e : Env} {R : Room} {s : State} {m : MethodId} {args : Array Value} {below : List Frame} {meth : Method} {c : Code} {mi : Nat} {adb : Nat → Nat} {nb c0 s0 : Nat} {Q : State → Prop}
variable {pc : Nat} {L st : List Value} {h : am_H}

theorem am_B.ex (B : am_B A D ty a0 a1 N xs p l R s m args meth c mi) : p.tables.exec = Jvm.exec := B.1
theorem am_B.by (B : am_B A D ty a0 a1 N xs p l R s m args meth c mi) : c.code = am_b mi := B.2.1
theorem am_B.own (B : am_B A D ty a0 a1 N xs p l R s m args meth c mi) : s.vm.findClass (am_o mi) = some m.cls := B.2.2.2.2.1
theorem am_B.G (B : am_B A D ty a0 a1 N xs p l R s m args meth c mi) : am_G A D ty a0 a1 N xs s s.heap := B.2.2.2.2.2.2.2.2.1
theorem am_B.K (B : am_B A D ty a0 a1 N xs p l R s m args meth c mi) : va_K D am_cs (am_tys ty) s := B.G.2.1
theorem am_B.hts (B : am_B A D ty a0 a1 N xs p l R s m args meth c mi) : ∀ w ∈ am_ok, w.before args s = true := fun _ hw => B.G.word hw
theorem am_B.hA (B : am_B A D ty a0 a1 N xs p l R s m args meth c mi) : ∀ q, s.heap.size ≤ q → A q := B.2.2.2.2.2.2.2.2.2.1
/-! indices -/
theorem am_in_vp {i : Int32} {n : Nat} (h : am_in i n = true) : vp_in i n := by
  unfold am_in at h
  simp only [Bool.and_eq_true, decide_eq_true_eq] at h
  exact vp_in_iff.mpr h
theorem am_in_cl {i : Int32} {n : Nat} (h : am_in i n = true) : ((i.toNatClampNeg : Nat) : Int) = i.toInt := by
  unfold am_in at h
  simp only [Bool.and_eq_true, decide_eq_true_eq] at h
  show ((i.toInt.toNat : Nat) : Int) = i.toInt
  omega
theorem am_up_i {i : Int32} {n : Nat} (h : am_in i n = true) (f : Int → Int32) (x : Int32) : upd (fun (j : Nat) => f (j : Int)) i.toNatClampNeg x = fun (j : Nat) => am_up f i.toInt x (j : Int) := by
  have e := am_in_cl h
  funext j
  unfold upd am_up
  by_cases hj : j = i.toNatClampNeg
  · rw [if_pos hj, if_pos (by omega)]
  · rw [if_neg hj, if_neg (by omega)]
theorem am_up_l {i : Int32} {n : Nat} (h : am_in i n = true) (f : Int → Int64) (x : Int64) : vp_updL (fun (j : Nat) => f (j : Int)) i.toNatClampNeg x = fun (j : Nat) => am_up f i.toInt x (j : Int) := by
  have e := am_in_cl h
  funext j
  unfold vp_updL am_up
  by_cases hj : j = i.toNatClampNeg
  · rw [if_pos hj, if_pos (by omega)]
  · rw [if_neg hj, if_neg (by omega)]
theorem am_up_d {i : Int32} {n : Nat} (h : am_in i n = true) (f : Int → UInt64) (x : UInt64) : vf_upd (fun (j : Nat) => f (j : Int)) i.toNatClampNeg x = fun (j : Nat) => am_up f i.toInt x (j : Int) := by
  have e := am_in_cl h
  funext j
  unfold vf_upd am_up
  by_cases hj : j = i.toNatClampNeg
  · rw [if_pos hj, if_pos (by omega)]
  · rw [if_neg hj, if_neg (by omega)]
theorem am_up_a {i : Int32} {n : Nat} (h : am_in i n = true) (ad : Nat → Nat) (f : Int → Option Nat) (x : Option Nat) : va_up (fun (j : Nat) => (f (j : Int)).map ad) i.toNatClampNeg (x.map ad) = fun (j : Nat) => (am_up f i.toInt x (j : Int)).map ad := by
  have e := am_in_cl h
  funext j
  unfold va_up am_up
  by_cases hj : j = i.toNatClampNeg
  · rw [if_pos hj, if_pos (by omega)]
  · rw [if_neg hj, if_neg (by omega)]
/-- a frame's state after a cell is written over -/
theorem am_RS.wr {ad : Nat → Nat} {H H1 : Heap} {locs locs1 : List Loc} {ls : Array Slot} {a : Nat} {cc : am_C} {st' : List Value} (r : am_RS A D ty a0 a1 N xs s mi L st h ad H locs ls) (ha : 2 ≤ a) (hlt : a < hnx h) (hc : am_co (hnx h) cc) (hd : am_kd cc) (hst : ∀ v ∈ st', am_vo (hnx h) v)
    (hP : va_P D am_cs ((am_ws ad ty h).set (a - 2) (ad a, am_ce ad ty cc)) H1) (hD : va_D A ((am_ws ad ty h).set (a - 2) (ad a, am_ce ad ty cc))) (hS : va_S A s.heap H1 locs1) : am_RS A D ty a0 a1 N xs s mi L st' (hset h a cc) ad H1 locs1 ls :=
  ⟨r.1.set ha hlt hc hd hP hD, hS, r.2.2.1, r.2.2.2.1, fun v hv => r.2.2.2.2.1 v hv, hst⟩

theorem sg_iaload (B : am_B A D ty a0 a1 N xs p l R s m args meth c mi) {i : Int32} {a n t : Nat} {f : Int → Int32} (hc : hget h a = some (.inl (t, n, .inl f))) (ht : t = 0 ∨ t = 7) (hin : am_in i n = true) (hd : decode (am_b mi) pc = .ok (.iaload, 1)) (k : am_Go A D ty a0 a1 N xs p l e R s m args below meth c mi adb nb c0 s0 Q (pc + 1) L (.int (f i.toInt) :: st) h) : am_Go A D ty a0 a1 N xs p l e R s m args below meth c mi adb nb c0 s0 Q pc L (.int i :: .ref a :: st) h := by
  intro ad H locs ls hag h1 h2 h3 r
  have e := am_in_cl hin
  have k' := k ad H locs ls hag h1 h2 h3 (r.stk (vo_c trivial (vo_t (vo_t r.2.2.2.2.2))))
  rw [← e] at k'
  rcases Nat.lt_or_ge a 2 with q | q
  · obtain ⟨⟨g1, g2, g3⟩, -, -, -, g4, g5, -⟩ := r.1
    have : a = 0 ∨ a = 1 := by omega
    rcases this with rfl | rfl
    · rw [hc] at g4
      cases g4
      have hT := B.G.2.2.2.2.2.2.1
      rw [← g2] at hT
      exact va_ti B.ex B.by hT r.2.1 (am_in_vp hin) rfl hd k'
    · rw [hc] at g5
      cases g5
      have hT := B.G.2.2.2.2.2.2.2.1
      rw [← g3] at hT
      exact va_ti B.ex B.by hT r.2.1 (am_in_vp hin) rfl hd k'
  · obtain ⟨hlt, hw, hkd⟩ := r.1.at hc q
    have h0 : t = 0 := by
      rcases ht with z | z
      · exact z
      · subst z; exact absurd hkd (by simp [am_kd])
    subst h0
    exact va_iald B.ex B.by B.K r.1.2.2.2.2.2.2.1 (a - 2) 0 hw rfl (am_in_vp hin) hd k'
theorem am_ct_1 (ad : Nat → Nat) (n : Nat) (x : am_A) : (am_ct ad n x).1 = n := by
  match x with
  | .inl _ => rfl
  | .inr (.inl _) => rfl
  | .inr (.inr (.inl _)) => rfl
  | .inr (.inr (.inr _)) => rfl
theorem mI_nat (n : Nat) : mI (n : Int) = Int32.ofNat n := by
  unfold mI
  first | rfl | simp
theorem sg_alen (B : am_B A D ty a0 a1 N xs p l R s m args meth c mi) {a n t : Nat} {x : am_A} (hc : hget h a = some (.inl (t, n, x))) (hd : decode (am_b mi) pc = .ok (.arraylength, 1)) (k : am_Go A D ty a0 a1 N xs p l e R s m args below meth c mi adb nb c0 s0 Q (pc + 1) L (.int (mI n) :: st) h) : am_Go A D ty a0 a1 N xs p l e R s m args below meth c mi adb nb c0 s0 Q pc L (.ref a :: st) h := by
  intro ad H locs ls hag h1 h2 h3 r
  have k' := k ad H locs ls hag h1 h2 h3 (r.stk (vo_c trivial (vo_t r.2.2.2.2.2)))
  rw [mI_nat] at k'
  rcases Nat.lt_or_ge a 2 with q | q
  · obtain ⟨⟨g1, g2, g3⟩, -, -, -, g4, g5, -⟩ := r.1
    have : a = 0 ∨ a = 1 := by omega
    rcases this with rfl | rfl
    · rw [hc] at g4
      cases g4
      have hT := B.G.2.2.2.2.2.2.1
      rw [← g2] at hT
      exact va_tlen B.ex B.by hT r.2.1 rfl hd k'
    · rw [hc] at g5
      cases g5
      have hT := B.G.2.2.2.2.2.2.2.1
      rw [← g3] at hT
      exact va_tlen B.ex B.by hT r.2.1 rfl hd k'
  · obtain ⟨hlt, hw, hkd⟩ := r.1.at hc q
    have hv : Int32.ofNat (am_ct ad n x).1 = Int32.ofNat n := by rw [am_ct_1]
    have ht : t = 0 ∨ t = 5 := hkd
    rcases ht with rfl | rfl
    · exact va_alen B.ex B.by B.K r.1.2.2.2.2.2.2.1 (a - 2) 0 hw rfl hv hd k'
    · exact va_alen B.ex B.by B.K r.1.2.2.2.2.2.2.1 (a - 2) 5 hw rfl hv hd k'
theorem sg_iastore (B : am_B A D ty a0 a1 N xs p l R s m args meth c mi) {i : Int32} {x : Int32} {a n : Nat} {f : Int → Int32} (hc : hget h a = some (.inl (0, n, .inl f))) (hin : am_in i n = true)  (hd : decode (am_b mi) pc = .ok (.iastore, 1)) (k : am_Go A D ty a0 a1 N xs p l e R s m args below meth c mi adb nb c0 s0 Q (pc + 1) L st (hset h a (.inl (0, n, .inl (am_up f i.toInt x))))) : am_Go A D ty a0 a1 N xs p l e R s m args below meth c mi adb nb c0 s0 Q pc L (.int x :: .int i :: .ref a :: st) h := by
  intro ad H locs ls hag h1 h2 h3 r
  have h4 := r.1.big hc (by decide)
  obtain ⟨hlt, hw, hkd⟩ := r.1.at hc h4
  refine va_iast B.ex B.by B.K r.1.2.2.2.2.2.2.1 r.1.2.2.2.2.2.2.2 r.2.1 (a - 2) 0 hw rfl (am_in_vp hin) hd (fun H1 locs1 hP hD hS => ?_)
  rw [am_up_i hin f x] at hP hD
  exact k ad H1 locs1 ls hag h1 h2 h3 (r.wr h4 hlt (cc := .inl (0, n, .inl (am_up f i.toInt x))) trivial (by simp [am_kd]) (vo_t (vo_t (vo_t r.2.2.2.2.2))) hP hD hS)
end AGH
