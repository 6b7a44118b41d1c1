/-! ===== calls, and the main theorem ===== -/
section ACL
variable {A : Nat → Prop} {D : va_G} {ty : Nat → ClassId} {a0 a1 N : Nat} {xs : Int → Int32} {p : Program} {l : Launch} {e : Env} {R : Room} {s : State} {m : MethodId} {args : Array Value} {below : List Frame} {meth : Method} {c : Code} {mi : Nat} {adb : Nat → Nat} {nb c0 s0 : Nat} {Q : State → Prop}
variable {pc : Nat} {L st : List Value} {h : am_H}

theorem am_lr.stJ {ad : Nat → Nat} {L : List Value} {lv : List (Nat × Value)} (h : am_lr ad L lv) (i : Nat) (X : Nat × Value) : am_lr ad (am_st L i am_J) (X :: lv.filter (fun q => !(q.1 == i) && !(q.1 + 1 == i && q.2.category == 2))) := by
  intro j w hj hw
  have h1 := h.st i am_J j w hj hw
  rcases List.mem_cons.mp h1 with q | q
  · have : w = am_J := by
      have e : am_cv ad w = am_J := (Prod.mk.inj q).2
      cases w <;> simp [am_cv] at e ⊢
      exact e
    exact absurd this hw
  · exact List.mem_cons_of_mem _ q
theorem am_sum4 (ad : Nat → Nat) {l : List Value} (h : (decide (l.length ≤ 4) || (decide (l.length ≤ 8) && l.all fun v => decide (v.category = 1))) = true) : ((l.map (am_cv ad)).map fun v => v.category).sum ≤ 8 := by
  simp only [Bool.or_eq_true, decide_eq_true_eq, Bool.and_eq_true] at h
  rcases h with h | ⟨h1, h2⟩
  · have := am_sum8 ad l
    omega
  · have key : ∀ l : List Value, (l.all fun v => decide (v.category = 1)) = true → ((l.map (am_cv ad)).map fun v => v.category).sum = l.length := by
      intro l
      induction l with
      | nil => intro _; rfl
      | cons v l ih =>
        intro hq
        simp only [List.all_cons, Bool.and_eq_true, decide_eq_true_eq] at hq
        simp only [List.map_cons, List.sum_cons, List.length_cons, am_cv_cat, hq.1, ih hq.2]
        omega
    rw [key l h2]
    exact h1
theorem am_call_end {ad : Nat → Nat} {H : Heap} {locs : List Loc} {ls : Array Slot} {rest st0 : List Value} {r : Option Value ⊕ Nat} {h1 : am_H} {a : Array Value} (rs : am_RS A D ty a0 a1 N xs s mi L rest h ad H locs ls) (hag : ∀ k, k < nb → ad k = adb k) (g1 : nb ≤ hnx h) (g2 : c0 ≤ hcl h) (g3 : s0 ≤ hsl h) (hgr : am_gr h h1)
    (hrun : vx_Run p l e R s m args below meth c H locs (hcl h - c0) (hsl h - s0) (hcl h1 - hcl h) (hsl h1 - hsl h) (F0 m pc ls st0) (rest.map (am_cv ad)) (am_Qc A D ty a0 a1 N xs ad h r h1 a) (am_XC A D ty a0 a1 N xs ad h r h1) A)
    (kr : ∀ v, r = .inl v → am_Go A D ty a0 a1 N xs p l e R s m args below meth c mi adb nb c0 s0 Q (pc + 3) L (v.toList ++ rest) h1)
    (kx : ∀ x, r = .inr x → ∀ (ad' : Nat → Nat) (H1 : Heap) (locs1 : List Loc) (q : Addr) (ce : Cell), (∀ k, k < nb → ad' k = adb k) → am_RS A D ty a0 a1 N xs s mi L [] h1 ad' H1 locs1 ls → H1[q]? = some ce → ce.vm = .none → s.vm.findClass (am_exn x) = some ce.cls →
      vx_W p l e R s m args below meth c H1 locs1 (hcl h1 - c0) (hsl h1 - s0) Q (F0 m pc ls (rest.map (am_cv ad))) q) :
    W p l e R s m args below meth c H locs (hcl h - c0) (hsl h - s0) Q (F0 m pc ls st0) := by
  have e1 : hcl h - c0 + (hcl h1 - hcl h) = hcl h1 - c0 := by have := hgr.2.1; omega
  have e2 : hsl h - s0 + (hsl h1 - hsl h) = hsl h1 - s0 := by have := hgr.2.2; omega
  intro T hT X
  have base : ∀ (ad' : Nat → Nat) (H1 : Heap) (locs1 : List Loc) (st' : List Value), (∀ k, k < hnx h → ad' k = ad k) → am_RH A D ty a0 a1 N xs ad' h1 H1 → va_S A s.heap H1 locs1 → (∀ v ∈ st', am_vo (hnx h1) v) → am_RS A D ty a0 a1 N xs s mi L st' h1 ad' H1 locs1 ls := by
    intro ad' H1 locs1 st' hag' hR hS hst
    obtain ⟨lv, l1, l2⟩ := rs.2.2.1
    exact ⟨hR, hS, ⟨lv, l1, l2.ag hag' rs.2.2.2.2.1⟩, rs.2.2.2.1, fun v hv => (rs.2.2.2.2.1 v hv).le hgr.1, hst⟩
  rcases hrun T hT X with ⟨v, st₀, t, T', L', h0, X', hL, q1, q2, ⟨v0, ad', hr, hv, hag', hvo, hR, hF⟩, stp⟩ | ⟨q, st₀, t, T', L', E, ce, h0, X', hL, q1, q2, ⟨x, ad', hr, hE, hag', hR, hF⟩, hce, hcv, hcl, stp⟩
  · obtain ⟨k1, k2, k3⟩ := vx_keep h0 q1 rs.2.1 (fun _ _ z => z) (fun _ z => z) hL hF
    have hv' : v = v0.map (am_cv ad') := Outcome.returned.inj hv
    have hst : ∀ w ∈ v0.toList ++ rest, am_vo (hnx h1) w := by
      intro w hw
      rcases List.mem_append.mp hw with z | z
      · exact hvo w (by cases v0 with
          | none => cases z
          | some y => rw [Option.toList_some] at z; rw [List.mem_singleton.mp z])
      · exact (rs.2.2.2.2.2 w z).le hgr.1
    have k' := kr v0 hr ad' T'.heap (locs ++ L') ls (fun k hk => (hag' k (by omega)).trans (hag k hk)) (by have := hgr.1; omega) (by have := hgr.2.1; omega) (by have := hgr.2.2; omega) (base ad' T'.heap _ _ hag' (by rw [q1]; exact hR) k3 hst)
    have es : (v0.toList ++ rest).map (am_cv ad') = v.toList ++ rest.map (am_cv ad) := by
      rw [List.map_append, hv']
      congr 1
      · cases v0 <;> rfl
      · exact List.map_congr_left (fun w hw => am_cv_ag hag' (rs.2.2.2.2.2 w hw))
    rw [es, ← e1, ← e2] at k'
    obtain ⟨t2, a1, b1⟩ := k' T' rfl X'
    exact ⟨t2, stp t2 a1, b1⟩
  · subst hE
    obtain ⟨k1, k2, k3⟩ := vx_keep h0 q1 rs.2.1 (fun _ _ z => z) (fun _ z => z) hL hF
    have k' := kx x hr ad' T'.heap (locs ++ L') q ce (fun k hk => (hag' k (by omega)).trans (hag k hk)) (base ad' T'.heap _ [] hag' (by rw [q1]; exact hR) k3 (fun v hv => by cases hv)) (by rw [q1]; exact hce) hcv hcl
    rw [← e1, ← e2] at k'
    obtain ⟨t2, a1, b1⟩ := k' T' rfl X'
    exact ⟨t2, stp.trans a1, b1⟩
/-- a callee's start holds at its call -/
theorem am_pre (B : am_B A D ty a0 a1 N xs p l R s m args meth c mi) {ad : Nat → Nat} {H : Heap} {locs : List Loc} (hR : am_RH A D ty a0 a1 N xs ad h H) (hS : va_S A s.heap H locs) (as : List Value) (U : State) (hU : U.heap = H) (hW : s.WarmedH U.vm) : am_Pc A D ty a0 a1 N xs ad as h (as.map (am_cv ad)).toArray U := by
  refine ⟨rfl, ?_, by rw [hU]; exact hR, fun q hq => B.hA q (Nat.le_trans hS.1 (by rw [← hU]; exact hq))⟩
  rw [hU]
  exact B.G.moved hW (fun a ha hn => hS.2.1 a ha hn)
theorem am_callB (B : am_B A D ty a0 a1 N xs p l R s m args meth c mi) {mj ix mc ms : Nat} (hm : am_mOK mj) (hd : am_d mj < am_d mi) (hcode : Jvm.Cond.code (am_y mj) (am_b mj) (am_n mj) (am_r mj) ∈ am_ok) :
    (am_rm mj mc ms).cells = mc ∧ (am_rm mj mc ms).slots = ms ∧ (am_rm mj mc ms).frames + 1 ≤ R.frames ∧ 8 + (am_n mj + 11) + (am_rm mj mc ms).locals ≤ R.locals ∧ (∀ w ∈ [Jvm.Cond.code (am_y mj) (am_b mj) (am_n mj) (am_r mj)], ∀ (a' : Array Value) (U : State), s.WarmedH U.vm → w.before a' U = true) ∧ Jvm.Cond.code (am_y mj) (am_b mj) (am_n mj) (am_r mj) ∈ [Jvm.Cond.code (am_y mj) (am_b mj) (am_n mj) (am_r mj)] := by
  have hRl := B.2.2.2.2.2.2.2.2.2.2.2
  have hRf := B.2.2.2.2.2.2.2.2.2.2.1
  have hn := hm.2.2.2.2.2.2.1
  refine ⟨rfl, rfl, by show am_d mj + 1 ≤ _; omega, by show 8 + (am_n mj + 11) + am_d mj * 48 ≤ _; omega, fun w hw a' U hW => ?_, List.mem_cons_self⟩
  rw [List.mem_singleton.mp hw]
  exact word_at hW (Or.inl rfl) (B.hts _ hcode)
theorem am_arity {mj : Nat} (hm : am_mOK mj) : ∀ sig, parseMethodDescriptor (am_y mj).desc = some sig → am_np mj = sig.parameters.length := fun sig h => by
  have h2 := hm.2.2.1.2.2
  rw [h] at h2
  exact (Option.some.inj h2).symm
theorem am_fix (B : am_B A D ty a0 a1 N xs p l R s m args meth c mi) : CallFix p m c (am_b mi) (am_n mi) s args am_ok (am_o mi) := ⟨B.ex, B.by, B.2.2.2.1, B.own, B.hts⟩
variable {n : Nat} {r : Option Value ⊕ Nat} {h1 : am_H} {mj ix : Nat} {as rest : List Value}
theorem am_stack (ad : Nat → Nat) (as rest : List Value) : (as.reverse ++ rest).map (am_cv ad) = (as.map (am_cv ad)).reverse ++ rest.map (am_cv ad) := by rw [List.map_append, List.map_reverse]
theorem sg_callS (B : am_B A D ty a0 a1 N xs p l R s m args meth c mi) (ih : am_Snd A D ty a0 a1 N xs l n) (hm : am_mOK mj) (hd : am_d mj < am_d mi) (hx : am_ex n mj 0 (am_en (am_sg mj) as (am_n mj)) [] h = some (r, h1)) (hg : am_gd (am_sg mj) as = true) (hlen : as.length = am_np mj)
    (hr4 : (decide (rest.length ≤ 4) || (decide (rest.length ≤ 8) && rest.all fun v => decide (v.category = 1))) = true) (hlk : am_lk mi ix mj) (hst : Jvm.Cond.static (am_y mj) ∈ am_ok) (hlk2 : am_h mj ≠ [] → Jvm.Cond.methodLink (am_o mi) ix (am_y mj) ∈ am_ok) (hdg : decode (am_b mi) pc = .ok (.invokestatic ix, 3)) (hrc : hcl h1 ≤ c0 + R.cells) (hrs : hsl h1 ≤ s0 + R.slots)
    (kr : ∀ v, r = .inl v → am_Go A D ty a0 a1 N xs p l e R s m args below meth c mi adb nb c0 s0 Q (pc + 3) L (v.toList ++ rest) h1)
    (kx : ∀ x, r = .inr x → ∀ (ad' : Nat → Nat) (H1 : Heap) (locs1 : List Loc) (ls : Array Slot) (q : Addr) (ce : Cell) (rest' : List Value), (∀ k, k < nb → ad' k = adb k) → nb ≤ hnx h1 → c0 ≤ hcl h1 → s0 ≤ hsl h1 → am_RS A D ty a0 a1 N xs s mi L [] h1 ad' H1 locs1 ls → H1[q]? = some ce → ce.vm = .none → s.vm.findClass (am_exn x) = some ce.cls →
      vx_W p l e R s m args below meth c H1 locs1 (hcl h1 - c0) (hsl h1 - s0) Q (F0 m pc ls rest') q) :
    am_Go A D ty a0 a1 N xs p l e R s m args below meth c mi adb nb c0 s0 Q pc L (as.reverse ++ rest) h := by
  intro ad H locs ls hag g1 g2 g3 rs
  have hgr := am_ex_gr _ _ _ _ _ _ _ _ hx
  have hvo : ∀ v ∈ as, am_vo (hnx h) v := fun v hv => rs.2.2.2.2.2 v (List.mem_append_left _ (List.mem_reverse.mpr hv))
  have rs' : am_RS A D ty a0 a1 N xs s mi L rest h ad H locs ls := rs.stk (fun v hv => rs.2.2.2.2.2 v (List.mem_append_right _ hv))
  obtain ⟨lv, l1, -⟩ := rs.2.2.1
  have hf : hcl h - c0 + (hcl h1 - hcl h) ≤ R.cells ∧ hsl h - s0 + (hsl h1 - hsl h) ≤ R.slots := by have := hgr.2.1; have := hgr.2.2; omega
  have hlt := B.2.2.2.2.2.2.2.1
  have hpre : PreS s H (am_Pc A D ty a0 a1 N xs ad as h) (as.map (am_cv ad)) := ⟨am_blind, fun U hU hW => am_pre B rs.1 rs.2.1 as U hU hW⟩
  have hl9 : (as.map (am_cv ad)).length = am_np mj := by rw [List.length_map]; exact hlen
  have kx' := fun x hr ad' H1 locs1 q ce q1 q2 q3 q4 q5 => kx x hr ad' H1 locs1 ls q ce (rest.map (am_cv ad)) q1 (by have := hgr.1; omega) (by have := hgr.2.1; omega) (by have := hgr.2.2; omega) q2 q3 q4 q5
  by_cases hh : am_h mj = []
  · have hcode : Jvm.Cond.code (am_y mj) (am_b mj) (am_n mj) (am_r mj) ∈ am_ok := by
      rcases hm.1 with q | q
      · exact q.2.2
      · exact absurd hh q.1
    rcases hlk with hk | ⟨host, hk⟩
    · exact am_call_end (st0 := (as.reverse ++ rest).map (am_cv ad)) rs' hag g1 g2 g3 hgr (vx_runS (am_fix B) (am_met ih hlt hm hh hx hg hvo) ⟨by
        obtain ⟨q1, q2, q3, q4, q5, q6⟩ := am_callB (mc := hcl h1 - hcl h) (ms := hsl h1 - hsl h) (ix := ix) B hm hd hcode
        exact ⟨q1, q2, q3, q4, q5, q6, B.hts _ hcode, B.hts _ hm.2.1, ⟨hm.2.2.1.1, hm.2.2.1.2.1⟩, am_arity hm, B.hts _ hk⟩, B.hts _ hst⟩ hpre rfl hl9 l1.1 (am_stack ad as rest) (lv_room (am_sum4 ad hr4)) hdg hf) kr kx'
    · exact am_call_end (st0 := (as.reverse ++ rest).map (am_cv ad)) rs' hag g1 g2 g3 hgr (vx_runSN (host := host) (am_fix B) (am_met ih hlt hm hh hx hg hvo) ⟨by
        obtain ⟨q1, q2, q3, q4, q5, q6⟩ := am_callB (mc := hcl h1 - hcl h) (ms := hsl h1 - hsl h) (ix := ix) B hm hd hcode
        exact ⟨⟨q1, q2, q3, q4, q5, q6⟩, B.hts _ hcode, B.hts _ hm.2.1, ⟨hm.2.2.1.1, hm.2.2.1.2.1⟩, am_arity hm, B.hts _ hk⟩, B.hts _ hst, trivial⟩ hpre rfl hl9 l1.1 (am_stack ad as rest) (lv_room (am_sum4 ad hr4)) hdg hf) kr kx'
  · have hcode : Jvm.Cond.codeWith (am_y mj) (am_b mj) (am_n mj) (am_r mj) (am_h mj) ∈ am_ok := by
      rcases hm.1 with q | q
      · exact absurd q.1 hh
      · exact q.2
    have hRl := B.2.2.2.2.2.2.2.2.2.2.2
    have hRf := B.2.2.2.2.2.2.2.2.2.2.1
    have hn := hm.2.2.2.2.2.2.1
    exact am_call_end (st0 := (as.reverse ++ rest).map (am_cv ad)) rs' hag g1 g2 g3 hgr (vx_runSX (hh := am_h mj) (am_fix B) (am_metH ih hlt hm hx hg hvo) ⟨⟨rfl, rfl, by show am_d mj + 1 ≤ _; omega, by show 8 + (am_n mj + 11) + am_d mj * 48 ≤ _; omega, fun w hw a' U hW => by
      rw [List.mem_singleton.mp hw]
      exact word_at hW (Or.inl rfl) (B.hts _ hcode), List.mem_cons_self⟩, B.hts _ hcode, B.hts _ hm.2.1, ⟨hm.2.2.1.1, hm.2.2.1.2.1⟩, am_arity hm, B.hts _ (hlk2 hh), B.hts _ hst⟩ hpre rfl hl9 l1.1 (am_stack ad as rest) (lv_room (am_sum4 ad hr4)) hdg hf) kr kx'
theorem sg_callV (B : am_B A D ty a0 a1 N xs p l R s m args meth c mi) (ih : am_Snd A D ty a0 a1 N xs l n) (hm : am_mOK mj) (hh : am_h mj = []) (hcode : Jvm.Cond.code (am_y mj) (am_b mj) (am_n mj) (am_r mj) ∈ am_ok) (hd : am_d mj < am_d mi) {b ci NF : Nat} {C : String} {T : u_T} {fs : Nat → Value} (hci : am_cs[ci]? = some (C, T, NF)) (hob : hget h b = some (.inr (ci, fs))) (hx : am_ex n mj 0 (am_en (am_sg mj) (.ref b :: as) (am_n mj)) [] h = some (r, h1)) (hg : am_gd (am_sg mj) (.ref b :: as) = true) (hlen : as.length = am_np mj)
    (hr4 : (decide (rest.length ≤ 4) || (decide (rest.length ≤ 8) && rest.all fun v => decide (v.category = 1))) = true) (hlk : am_lk mi ix mj) (hin : Jvm.Cond.instanceMethod (am_y mj) ∈ am_ok) (hsel : Jvm.Cond.selects C (am_y mj) (am_y mj) ∈ am_ok) (hdg : decode (am_b mi) pc = .ok (.invokevirtual ix, 3)) (hrc : hcl h1 ≤ c0 + R.cells) (hrs : hsl h1 ≤ s0 + R.slots)
    (kr : ∀ v, r = .inl v → am_Go A D ty a0 a1 N xs p l e R s m args below meth c mi adb nb c0 s0 Q (pc + 3) L (v.toList ++ rest) h1)
    (kx : ∀ x, r = .inr x → ∀ (ad' : Nat → Nat) (H1 : Heap) (locs1 : List Loc) (ls : Array Slot) (q : Addr) (ce : Cell) (rest' : List Value), (∀ k, k < nb → ad' k = adb k) → nb ≤ hnx h1 → c0 ≤ hcl h1 → s0 ≤ hsl h1 → am_RS A D ty a0 a1 N xs s mi L [] h1 ad' H1 locs1 ls → H1[q]? = some ce → ce.vm = .none → s.vm.findClass (am_exn x) = some ce.cls →
      vx_W p l e R s m args below meth c H1 locs1 (hcl h1 - c0) (hsl h1 - s0) Q (F0 m pc ls rest') q) :
    am_Go A D ty a0 a1 N xs p l e R s m args below meth c mi adb nb c0 s0 Q pc L (as.reverse ++ .ref b :: rest) h := by
  intro ad H locs ls hag g1 g2 g3 rs
  have hgr := am_ex_gr _ _ _ _ _ _ _ _ hx
  have hvo : ∀ v ∈ Value.ref b :: as, am_vo (hnx h) v := fun v hv => rs.2.2.2.2.2 v (by
    rcases List.mem_cons.mp hv with rfl | hv
    · exact List.mem_append_right _ List.mem_cons_self
    · exact List.mem_append_left _ (List.mem_reverse.mpr hv))
  have rs' : am_RS A D ty a0 a1 N xs s mi L rest h ad H locs ls := rs.stk (fun v hv => rs.2.2.2.2.2 v (List.mem_append_right _ (List.mem_cons_of_mem _ hv)))
  obtain ⟨lv, l1, -⟩ := rs.2.2.1
  have hf : hcl h - c0 + (hcl h1 - hcl h) ≤ R.cells ∧ hsl h - s0 + (hsl h1 - hsl h) ≤ R.slots := by have := hgr.2.1; have := hgr.2.2; omega
  have hlt := B.2.2.2.2.2.2.2.1
  obtain ⟨hltb, hwb, -⟩ := rs.1.at hob (rs.1.bigO hob)
  have hpre : PreV s H C (ad b) (am_Pc A D ty a0 a1 N xs ad (.ref b :: as) h) (as.map (am_cv ad)) := ⟨am_blind, va_recv B.K rs.1.2.2.2.2.2.2.1 hci hwb, fun U hU hW => am_pre B rs.1 rs.2.1 (.ref b :: as) U hU hW⟩
  have hl9 : (as.map (am_cv ad)).length = am_np mj := by rw [List.length_map]; exact hlen
  have hstk : (as.reverse ++ .ref b :: rest).map (am_cv ad) = (as.map (am_cv ad)).reverse ++ .ref (ad b) :: rest.map (am_cv ad) := am_stack ad as (.ref b :: rest)
  have kx' := fun x hr ad' H1 locs1 q ce q1 q2 q3 q4 q5 => kx x hr ad' H1 locs1 ls q ce (rest.map (am_cv ad)) q1 (by have := hgr.1; omega) (by have := hgr.2.1; omega) (by have := hgr.2.2; omega) q2 q3 q4 q5
  obtain ⟨q1, q2, q3, q4, q5, q6⟩ := am_callB (mc := hcl h1 - hcl h) (ms := hsl h1 - hsl h) (ix := ix) B hm hd hcode
  rcases hlk with hk | ⟨host, hk⟩
  · exact am_call_end (st0 := (as.reverse ++ .ref b :: rest).map (am_cv ad)) rs' hag g1 g2 g3 hgr (vx_runV (C := C) (am_fix B) (am_met ih hlt hm hh hx hg hvo) ⟨⟨q1, q2, q3, q4, q5, q6, B.hts _ hcode, B.hts _ hm.2.1, ⟨hm.2.2.1.1, hm.2.2.1.2.1⟩, am_arity hm, B.hts _ hk⟩, B.hts _ hin, B.hts _ hsel⟩ hpre rfl hl9 l1.1 hstk (lv_room (am_sum4 ad hr4)) hdg hf) kr kx'
  · exact am_call_end (st0 := (as.reverse ++ .ref b :: rest).map (am_cv ad)) rs' hag g1 g2 g3 hgr (vx_runVN (C := C) (host := host) (am_fix B) (am_met ih hlt hm hh hx hg hvo) ⟨⟨⟨q1, q2, q3, q4, q5, q6⟩, B.hts _ hcode, B.hts _ hm.2.1, ⟨hm.2.2.1.1, hm.2.2.1.2.1⟩, am_arity hm, B.hts _ hk⟩, B.hts _ hin, B.hts _ hsel⟩ hpre rfl hl9 l1.1 hstk (lv_room (am_sum4 ad hr4)) hdg hf) kr kx'
theorem sg_callI (B : am_B A D ty a0 a1 N xs p l R s m args meth c mi) (ih : am_Snd A D ty a0 a1 N xs l n) (hm : am_mOK mj) (hh : am_h mj = []) (hcode : Jvm.Cond.code (am_y mj) (am_b mj) (am_n mj) (am_r mj) ∈ am_ok) (hd : am_d mj < am_d mi) {b : Nat} (hx : am_ex n mj 0 (am_en (am_sg mj) (.ref b :: as) (am_n mj)) [] h = some (r, h1)) (hg : am_gd (am_sg mj) (.ref b :: as) = true) (hlen : as.length = am_np mj)
    (hr4 : (decide (rest.length ≤ 4) || (decide (rest.length ≤ 8) && rest.all fun v => decide (v.category = 1))) = true) (hlk : am_lk mi ix mj) (hin : Jvm.Cond.instanceMethod (am_y mj) ∈ am_ok) (hnm : (am_y mj).name = "<init>") (hrt : am_r mj = none) (hdg : decode (am_b mi) pc = .ok (.invokespecial ix, 3)) (hrc : hcl h1 ≤ c0 + R.cells) (hrs : hsl h1 ≤ s0 + R.slots)
    (kr : ∀ v, r = .inl v → am_Go A D ty a0 a1 N xs p l e R s m args below meth c mi adb nb c0 s0 Q (pc + 3) L (v.toList ++ rest) h1)
    (kx : ∀ x, r = .inr x → ∀ (ad' : Nat → Nat) (H1 : Heap) (locs1 : List Loc) (ls : Array Slot) (q : Addr) (ce : Cell) (rest' : List Value), (∀ k, k < nb → ad' k = adb k) → nb ≤ hnx h1 → c0 ≤ hcl h1 → s0 ≤ hsl h1 → am_RS A D ty a0 a1 N xs s mi L [] h1 ad' H1 locs1 ls → H1[q]? = some ce → ce.vm = .none → s.vm.findClass (am_exn x) = some ce.cls →
      vx_W p l e R s m args below meth c H1 locs1 (hcl h1 - c0) (hsl h1 - s0) Q (F0 m pc ls rest') q) :
    am_Go A D ty a0 a1 N xs p l e R s m args below meth c mi adb nb c0 s0 Q pc L (as.reverse ++ .ref b :: rest) h := by
  intro ad H locs ls hag g1 g2 g3 rs
  have hgr := am_ex_gr _ _ _ _ _ _ _ _ hx
  have hvo : ∀ v ∈ Value.ref b :: as, am_vo (hnx h) v := fun v hv => rs.2.2.2.2.2 v (by
    rcases List.mem_cons.mp hv with rfl | hv
    · exact List.mem_append_right _ List.mem_cons_self
    · exact List.mem_append_left _ (List.mem_reverse.mpr hv))
  have rs' : am_RS A D ty a0 a1 N xs s mi L rest h ad H locs ls := rs.stk (fun v hv => rs.2.2.2.2.2 v (List.mem_append_right _ (List.mem_cons_of_mem _ hv)))
  obtain ⟨lv, l1, -⟩ := rs.2.2.1
  have hf : hcl h - c0 + (hcl h1 - hcl h) ≤ R.cells ∧ hsl h - s0 + (hsl h1 - hsl h) ≤ R.slots := by have := hgr.2.1; have := hgr.2.2; omega
  have hlt := B.2.2.2.2.2.2.2.1
  have hpre : PreS s H (am_Pc A D ty a0 a1 N xs ad (.ref b :: as) h) (.ref (ad b) :: as.map (am_cv ad)) := ⟨am_blind, fun U hU hW => am_pre B rs.1 rs.2.1 (.ref b :: as) U hU hW⟩
  have hl9 : (as.map (am_cv ad)).length = am_np mj := by rw [List.length_map]; exact hlen
  have hstk : (as.reverse ++ .ref b :: rest).map (am_cv ad) = (as.map (am_cv ad)).reverse ++ .ref (ad b) :: rest.map (am_cv ad) := am_stack ad as (.ref b :: rest)
  have kx' := fun x hr ad' H1 locs1 q ce q1 q2 q3 q4 q5 => kx x hr ad' H1 locs1 ls q ce (rest.map (am_cv ad)) q1 (by have := hgr.1; omega) (by have := hgr.2.1; omega) (by have := hgr.2.2; omega) q2 q3 q4 q5
  obtain ⟨q1, q2, q3, q4, q5, q6⟩ := am_callB (mc := hcl h1 - hcl h) (ms := hsl h1 - hsl h) (ix := ix) B hm hd hcode
  have hM := am_met (ad := ad) ih hlt hm hh hx hg hvo
  rw [hrt] at hM q5 q6 hcode
  rcases hlk with hk | ⟨host, hk⟩
  · exact am_call_end (st0 := (as.reverse ++ .ref b :: rest).map (am_cv ad)) rs' hag g1 g2 g3 hgr (vx_runI (am_fix B) hM ⟨⟨q1, q2, q3, q4, q5, q6, B.hts _ hcode, B.hts _ hm.2.1, ⟨hm.2.2.1.1, hm.2.2.1.2.1⟩, am_arity hm, B.hts _ hk⟩, hnm, B.hts _ hin⟩ hpre rfl hl9 l1.1 hstk (lv_room (am_sum4 ad hr4)) hdg hf) kr kx'
  · exact am_call_end (st0 := (as.reverse ++ .ref b :: rest).map (am_cv ad)) rs' hag g1 g2 g3 hgr (vx_runIN (host := host) (am_fix B) hM ⟨⟨⟨q1, q2, q3, q4, q5, q6⟩, B.hts _ hcode, B.hts _ hm.2.1, ⟨hm.2.2.1.1, hm.2.2.1.2.1⟩, am_arity hm, B.hts _ hk⟩, hnm, B.hts _ hin⟩ hpre rfl hl9 l1.1 hstk (lv_room (am_sum4 ad hr4)) hdg hf) kr kx'
/-- an exception is caught -/
theorem am_caught (B : am_B A D ty a0 a1 N xs p l R s m args meth c mi) (hH : am_hOK mi pc) {x pc' i : Nat} (hhd : am_hd mi x = some (pc', i)) (hlaw : mi ≠ m_L_law)
    {ad' : Nat → Nat} {H1 : Heap} {locs1 : List Loc} {ls : Array Slot} {q : Addr} {ce : Cell} {rest' : List Value} (hag : ∀ k, k < nb → ad' k = adb k) (g1 : nb ≤ hnx h1) (g2 : c0 ≤ hcl h1) (g3 : s0 ≤ hsl h1) (rs : am_RS A D ty a0 a1 N xs s mi L [] h1 ad' H1 locs1 ls) (hq : H1[q]? = some ce) (hce : ce.vm = .none) (hcl' : s.vm.findClass (am_exn x) = some ce.cls)
    (k : am_Go A D ty a0 a1 N xs p l e R s m args below meth c mi adb nb c0 s0 Q pc' (am_st L i am_J) [] h1) : vx_W p l e R s m args below meth c H1 locs1 (hcl h1 - c0) (hsl h1 - s0) Q (F0 m pc ls rest') q := by
  obtain ⟨pre, z, suf, name, w1, w2, w3, w4, w5, w6, w7, w8⟩ := hH x pc' i hhd
  refine vx_catch B.own pre z suf (by rw [(B.2.2.2.2.2.2.1 hlaw).2]; exact w1) (fun z' hz' => ?_) w3 w4 (B.hts _ w5) (B.hts _ w6) hq hce hcl' ?_
  · rcases w2 z' hz' with y | ⟨y1, nm, y2, y3⟩
    · exact Or.inl y
    · exact Or.inr ⟨y1, nm, B.hts _ y2, B.G.2.2.2.2.2.2.2.2.1 _ y3⟩
  · obtain ⟨rh, rS, ⟨lv, l1, l2⟩, rn', rL, rst⟩ := rs
    have fin : ∀ ls', lv_has ls' (am_n mi) ((i, Value.ref q) :: lv.filter (fun q => !(q.1 == i) && !(q.1 + 1 == i && q.2.category == 2))) → W p l e R s m args below meth c H1 locs1 (hcl h1 - c0) (hsl h1 - s0) Q (F0 m pc' ls' []) := fun ls' hl' =>
      k ad' H1 locs1 ls' hag g1 g2 g3 ⟨rh, rS, ⟨_, hl', l2.stJ i _⟩, by rw [am_st_len]; exact rn', am_vo_st rL i trivial, rst⟩
    rcases w8 with ⟨d1, d2⟩ | ⟨j, d1, d2, d3⟩
    · refine lv_astore B.ex B.by d1 l1 w7 rfl (fun ls' hl' => ?_)
      rw [← d2]
      exact fin ls' hl'
    · subst d2
      refine lv_astore_n B.ex B.by d1 rfl l1 w7 rfl (fun ls' hl' => ?_)
      rw [← d3]
      exact fin ls' hl'
end ACL
