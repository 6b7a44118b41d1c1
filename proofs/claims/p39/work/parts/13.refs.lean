section AGR
variable {A : Nat → Prop} {D : va_G} {ty : Nat → ClassId} {a0 a1 N : Nat} {xs : Int → Int32} {p : Program} {l : Launch} {e : Env} {R : Room} {s : State} {m : MethodId} {args : Array Value} {below : List Frame} {meth : Method} {c : Code} {mi : Nat} {adb : Nat → Nat} {nb c0 s0 : Nat} {Q : State → Prop}
variable {pc : Nat} {L st : List Value} {h : am_H}

variable {H : Heap} {locs : List Loc} {cells slots : Nat} {ls : Array Slot} {rest : List Value} {cc : ByteArray} {cl : List vw_C} {a : Nat} {tys : List (ClassId × FieldType)} {ws : va_W} {H0 : Heap}
theorem am_aastN0 {T : State} (X : Stand p l e R s m args below meth c T locs cells slots) (hexec : p.tables.exec = Jvm.exec) {cell : Cell} {t : FieldType} {j : Int32} (hcell : T.heap[a]? = some cell) (harr : s.isArrayOf cell t) (ht : fits t .null = true) (href : t.isReference = true) (hknown : cell.vm ≠ .unknown)
    (hin : ¬ (j < 0 ∨ cell.slots.size ≤ j.toNatClampNeg))
    {g : JFrame} (hg : g.method = m) {rest : List Value} (hstack : g.stack = .null :: .int j :: .ref a :: rest) (hdg : decode c.code g.pc = .ok (.aastore, 1)) :
    Stand p l e R s m args below meth c (T.setCell a (cell.setSlot j.toNatClampNeg .null)) (locs ++ [⟨a, j.toNatClampNeg⟩]) cells slots ∧
      ∀ target, Steps p.tables e below ((T.setCell a (cell.setSlot j.toNatClampNeg .null)).setTop { g with pc := g.pc + 1, stack := rest }) target → Steps p.tables e below (T.setTop g) target := by
  have hT := State.isArrayOf_alike X.warmed.alike harr
  have hfit : T.fitsSlot cell.cls cell.vm j.toNatClampNeg .null = true := by
    obtain ⟨hobj, k, hk, comp, hkind⟩ := hT
    cases hvm : cell.vm <;> first | exact absurd hvm (hobj _) | simp [State.fitsSlot, State.slotType?, hk, hkind, ht]
  refine ⟨X.stored hcell _ _, fun target hrest => ?_⟩
  subst hg
  jvm_step X.here [hexec, hdg]
  refine aastore.wp_of_null (c := cell) (t := t) X.here.top hstack hcell hT hin hknown (Nat.not_le.mp fun q => hin (Or.inr q)) hfit ?_
  intro acts
  rw [afterInstr_ok]
  exact hrest
theorem am_WaastN (hexec : p.tables.exec = Jvm.exec) (hb : c.code = cc) {cell : Cell} {t : FieldType} {j : Int32} (hcell : H[a]? = some cell) (harr : s.isArrayOf cell t) (ht : fits t .null = true) (href : t.isReference = true) (hknown : cell.vm ≠ .unknown) (hin : ¬ (j < 0 ∨ cell.slots.size ≤ j.toNatClampNeg))
    {g : JFrame} (hg : g.method = m) {rest : List Value} (hstack : g.stack = .null :: .int j :: .ref a :: rest) (hdg : decode cc g.pc = .ok (.aastore, 1))
    (kk : ∀ H' : Heap, H'[a]? = some (cell.setSlot j.toNatClampNeg .null) → H'.size = H.size → (∀ q, q ≠ a → H'[q]? = H[q]?) → W p l e R s m args below meth c H' (locs ++ [⟨a, j.toNatClampNeg⟩]) cells slots Q { g with pc := g.pc + 1, stack := rest }) :
    W p l e R s m args below meth c H locs cells slots Q g := by
  intro T hT X
  have hT' : T.heap[a]? = some cell := by rw [hT]; exact hcell
  obtain ⟨X', st⟩ := am_aastN0 X hexec hT' harr ht href hknown hin hg hstack (by rw [hb]; exact hdg)
  have hlt : a < T.heap.size := (Array.getElem?_eq_some_iff.mp hT').1
  obtain ⟨t', a1, b1⟩ := kk _ (heapAt_setCell_self _ hlt) (by rw [size_setCell, hT]) (fun q hq => by rw [heapAt_setCell_ne _ (Ne.symm hq), hT]) (T.setCell a (cell.setSlot j.toNatClampNeg .null)) rfl X'
  exact ⟨t', st t' a1, b1⟩
theorem am_rfup {n k : Nat} {f : Nat → Option Nat} {cA : ClassId} {r : Option Nat} : (arrV cA n (updV (fun j => va_rf (f j)) k (va_rf r))) = vp_cell cA (n, .inr (.inr (.inr (.inr (va_up f k r))))) := by
  rw [vp_cell_q]
  congr 1
  funext q
  by_cases hq : q = k
  · subst hq
    simp [updV, va_up]
  · simp [updV, va_up, hq]
theorem am_astAN (hexec : p.tables.exec = Jvm.exec) (hb : c.code = cc) (hK : va_K D cl tys s) (hP : va_P D cl ws H) (hD : va_D A ws) (hS : va_S A H0 H locs) (q0 t0 : Nat) {cA : ClassId} {t : FieldType} {n : Nat} {f : Nat → Option Nat} (ha : ws[q0]? = some (a, .inl (cA, n, .inr (.inr (.inr (.inr f)))))) (ht : tys[t0]? = some (cA, t)) (hf : fits t .null = true) (href : t.isReference = true) {i : Int32} (hin : vp_in i n) (hdg : decode cc pc = .ok (.aastore, 1))
    (kk : ∀ (H1 : Heap) (locs1 : List Loc), va_P D cl (ws.set q0 (a, .inl (cA, n, .inr (.inr (.inr (.inr (va_up f i.toNatClampNeg none))))))) H1 → va_D A (ws.set q0 (a, .inl (cA, n, .inr (.inr (.inr (.inr (va_up f i.toNatClampNeg none))))))) → va_S A H0 H1 locs1 → W p l e R s m args below meth c H1 locs1 cells slots Q (F0 m (pc + 1) ls rest)) : W p l e R s m args below meth c H locs cells slots Q (F0 m pc ls (.null :: .int i :: .ref a :: rest)) := by
  refine am_WaastN (t := t) hexec hb (hP q0 _ ha) ((hK.2 t0 _ ht).1 n (fun j => va_rf (f j))) hf href (fun h => by cases h) (by show ¬ (i < 0 ∨ (arrV _ _ _).slots.size ≤ _); rw [arrV_size]; exact hin) rfl rfl hdg fun H1 e z oq => ?_
  refine kk H1 _ (hP.set hD ha ?_ oq) (hD.set ha) (hS.put z oq (hD.2 q0 _ ha))
  show H1[a]? = some (vp_cell _ _)
  rw [e, vp_cell_q, arrV_store]
  exact congrArg some (am_rfup (r := none))
theorem sg_aaload5 (B : am_B A D ty a0 a1 N xs p l R s m args meth c mi) {i : Int32} {n : Nat} {f : Int → Option Nat} (hc : hget h a = some (.inl (5, n, .inr (.inr (.inr f))))) (hin : am_in i n = true) (hd : decode (am_b mi) pc = .ok (.aaload, 1)) (k : am_Go A D ty a0 a1 N xs p l e R s m args below meth c mi adb nb c0 s0 Q (pc + 1) L (am_rv (f i.toInt) :: st) h) : am_Go A D ty a0 a1 N xs p l e R s m args below meth c mi adb nb c0 s0 Q pc L (.int i :: .ref a :: st) h := by
  intro ad H locs ls hag h1 h2 h3 r
  obtain ⟨hlt, hw, -⟩ := r.1.at hc (r.1.big hc (by decide))
  refine va_aldq B.ex B.by B.K r.1.2.2.2.2.2.2.1 (a - 2) 5 hw rfl (am_in_vp hin) hd ?_
  have e := am_in_cl hin
  have hv : am_vo (hnx h) (am_rv (f i.toInt)) := by
    cases hf : f i.toInt with
    | none => trivial
    | some q => exact r.1.2.2.2.1 a _ hc _ q hf
  have k' := k ad H locs ls hag h1 h2 h3 (r.stk (vo_c hv (vo_t (vo_t r.2.2.2.2.2))))
  have e2 : am_cv ad (am_rv (f i.toInt)) = va_rf ((f i.toInt).map ad) := by cases f i.toInt <;> rfl
  rw [List.map_cons, e2, ← e] at k'
  exact k'
theorem sg_aastN5 (B : am_B A D ty a0 a1 N xs p l R s m args meth c mi) {i : Int32} {n : Nat} {f : Int → Option Nat} (hc : hget h a = some (.inl (5, n, .inr (.inr (.inr f))))) (hin : am_in i n = true) (hd : decode (am_b mi) pc = .ok (.aastore, 1)) (k : am_Go A D ty a0 a1 N xs p l e R s m args below meth c mi adb nb c0 s0 Q (pc + 1) L st (hset h a (.inl (5, n, .inr (.inr (.inr (am_up f i.toInt none))))))) : am_Go A D ty a0 a1 N xs p l e R s m args below meth c mi adb nb c0 s0 Q pc L (.null :: .int i :: .ref a :: st) h := by
  intro ad H locs ls hag h1 h2 h3 r
  have h4 := r.1.big hc (by decide)
  obtain ⟨hlt, hw, hkd⟩ := r.1.at hc h4
  refine am_astAN B.ex B.by B.K r.1.2.2.2.2.2.2.1 r.1.2.2.2.2.2.2.2 r.2.1 (a - 2) 5 hw rfl rfl rfl (am_in_vp hin) hd (fun H1 locs1 hP hD hS => ?_)
  have e := am_up_a hin ad f none
  rw [Option.map_none] at e
  rw [e] at hP hD
  refine k ad H1 locs1 ls hag h1 h2 h3 (r.wr h4 hlt (cc := .inl (5, n, .inr (.inr (.inr (am_up f i.toInt none))))) (fun j q hj => ?_) (by simp [am_kd]) (vo_t (vo_t (vo_t r.2.2.2.2.2))) hP hD hS)
  unfold am_up at hj
  split at hj
  · cases hj
  · exact r.1.2.2.2.1 a _ hc j q hj
theorem am_up_vo {nx : Nat} {f : Int → Option Nat} {i : Int} {v : Nat} (hf : ∀ j r, f j = some r → r < nx) (hv : v < nx) : ∀ j r, am_up f i (some v) j = some r → r < nx := by
  intro j r hj
  unfold am_up at hj
  split at hj
  · cases hj; exact hv
  · exact hf j r hj
theorem sg_aast5 (B : am_B A D ty a0 a1 N xs p l R s m args meth c mi) {i : Int32} {n v : Nat} {f : Int → Option Nat} {fs : Nat → Value} (hc : hget h a = some (.inl (5, n, .inr (.inr (.inr f))))) (hv : hget h v = some (.inr (6, fs))) (hin : am_in i n = true) (hd : decode (am_b mi) pc = .ok (.aastore, 1)) (k : am_Go A D ty a0 a1 N xs p l e R s m args below meth c mi adb nb c0 s0 Q (pc + 1) L st (hset h a (.inl (5, n, .inr (.inr (.inr (am_up f i.toInt (some v)))))))) : am_Go A D ty a0 a1 N xs p l e R s m args below meth c mi adb nb c0 s0 Q pc L (.ref v :: .int i :: .ref a :: st) h := by
  intro ad H locs ls hag h1 h2 h3 r
  have h4 := r.1.big hc (by decide)
  obtain ⟨hlt, hw, hkd⟩ := r.1.at hc h4
  obtain ⟨hltv, hwv, -⟩ := r.1.at hv (r.1.bigO hv)
  refine va_astq (r := (RX6, TX6, 16)) B.ex B.by B.K r.1.2.2.2.2.2.2.1 r.1.2.2.2.2.2.2.2 r.2.1 (a - 2) 5 (v - 2) 6 hw rfl hwv rfl (am_in_vp hin) hd (fun H1 locs1 hP hD hS => ?_)
  have e := am_up_a hin ad f (some v)
  rw [Option.map_some] at e
  rw [e] at hP hD
  exact k ad H1 locs1 ls hag h1 h2 h3 (r.wr h4 hlt (cc := .inl (5, n, .inr (.inr (.inr (am_up f i.toInt (some v)))))) (am_up_vo (r.1.2.2.2.1 a _ hc) hltv) (by simp [am_kd]) (vo_t (vo_t (vo_t r.2.2.2.2.2))) hP hD hS)
theorem sg_anew5 (B : am_B A D ty a0 a1 N xs p l R s m args meth c mi) {ix : Nat} {x : Int32} (hw : Jvm.Cond.classLink (am_o mi) ix "BlockCast$Picture" ∈ am_ok) (hx0 : 0 ≤ x.toInt) (hx1 : x.toInt ≤ 65536) (hd : decode (am_b mi) pc = .ok (.anewarray ix, 3)) (hrc : hcl h + 1 ≤ c0 + R.cells) (hrs : hsl h + x.toInt.toNat ≤ s0 + R.slots)
    (k : am_Go A D ty a0 a1 N xs p l e R s m args below meth c mi adb nb c0 s0 Q (pc + 3) L (.ref (hnx h) :: st) (halc h x.toInt.toNat (.inl (5, x.toInt.toNat, .inr (.inr (.inr fun _ => none)))))) : am_Go A D ty a0 a1 N xs p l e R s m args below meth c mi adb nb c0 s0 Q pc L (.int x :: st) h := by
  intro ad H locs ls hag h1 h2 h3 r
  have hst := vo_t r.2.2.2.2.2
  refine va_newq (C := "BlockCast$Picture") (N' := x.toInt.toNat) B.ex B.by B.own (B.hts _ hw) B.G.2.2.2.2.2.2.2.2.2.1 B.K r.1.2.2.2.2.2.2.1 r.1.2.2.2.2.2.2.2 r.2.1 B.hA (by rw [Int32.lt_iff_toInt_lt, Int32.toInt_zero]; omega) rfl (by omega) (by omega) (by omega) hd (fun q cA H1 hK hP hD hS => ?_)
  have hcA : cA = ty 5 := by
    obtain ⟨_, _, _, _, _, q1⟩ := (B.K.2 5 _ rfl).2
    obtain ⟨_, _, _, _, _, q2⟩ := (hK.2 6 (cA, .object "BlockCast$Picture") rfl).2
    exact Option.some.inj (q2.symm.trans q1)
  subst hcA
  obtain ⟨ad', hag', r', e⟩ := r.alc (n := x.toInt.toNat) (cc := .inl (5, x.toInt.toNat, .inr (.inr (.inr fun _ => none)))) (fun j q h => by cases h) (by simp [am_kd]) hst hP hD hS
  have k' := k ad' H1 locs ls (fun k hk => (hag' k (by omega)).trans (hag k hk)) (by rw [hnx_alc]; omega) (by rw [hcl_alc]; omega) (by rw [hsl_alc]; omega) r'
  rw [e] at k'
  refine W.cs (by rw [hcl_alc]; omega) (by rw [hsl_alc]; omega) k'
theorem am_sum8 (ad : Nat → Nat) : ∀ (l : List Value), ((l.map (am_cv ad)).map fun v => v.category).sum ≤ 2 * l.length
  | [] => Nat.le_refl 0
  | v :: l => by
    have ih := am_sum8 ad l
    have h2 : (am_cv ad v).category ≤ 2 := by rcases lv_cat (am_cv ad v) with q | q <;> omega
    simp only [List.map_cons, List.sum_cons, List.length_cons] at ih ⊢
    omega
theorem sg_clone (B : am_B A D ty a0 a1 N xs p l R s m args meth c mi) {ix n : Nat} {f : Int → Int32} (hc : hget h a = some (.inl (0, n, .inl f))) (hst8 : st.length ≤ 8) (hdm : 1 ≤ am_d mi)
    (w1 : Jvm.Cond.methodLink (am_o mi) ix ⟨"[I", "clone", "()Ljava/lang/Object;"⟩ ∈ am_ok) (w2 : Jvm.Cond.sameMethod "[I" "java/lang/Object" "clone" "()Ljava/lang/Object;" ∈ am_ok) (w3 : Jvm.Cond.native ⟨"java/lang/Object", "clone", "()Ljava/lang/Object;"⟩ ∈ am_ok) (w4 : Jvm.Cond.instanceMethod ⟨"java/lang/Object", "clone", "()Ljava/lang/Object;"⟩ ∈ am_ok)
    (w5 : Jvm.Cond.selects "[I" ⟨"[I", "clone", "()Ljava/lang/Object;"⟩ ⟨"java/lang/Object", "clone", "()Ljava/lang/Object;"⟩ ∈ am_ok) (w6 : Jvm.Cond.castable "[I" "java/lang/Cloneable" ∈ am_ok)
    (hd : decode (am_b mi) pc = .ok (.invokevirtual ix, 3)) (hrc : hcl h + 1 ≤ c0 + R.cells) (hrs : hsl h + n ≤ s0 + R.slots)
    (k : am_Go A D ty a0 a1 N xs p l e R s m args below meth c mi adb nb c0 s0 Q (pc + 3) L (.ref (hnx h) :: st) (halc h n (.inl (0, n, .inl f)))) : am_Go A D ty a0 a1 N xs p l e R s m args below meth c mi adb nb c0 s0 Q pc L (.ref a :: st) h := by
  intro ad H locs ls hag h1 h2 h3 r
  have hst := vo_t r.2.2.2.2.2
  obtain ⟨hlt, hw, -⟩ := r.1.at hc (r.1.big hc (by decide))
  have e0 : "[" ++ FieldType.int.toString = "[I" := by decide +kernel
  have hcls : s.vm.findClass "[I" = some (ty 0) := by rw [← e0]; exact (B.K.2 0 _ rfl).2
  obtain ⟨lv, hl, -⟩ := r.2.2.1
  have hsum := am_sum8 ad st
  have hRl := B.2.2.2.2.2.2.2.2.2.2.2
  have hRf := B.2.2.2.2.2.2.2.2.2.2.1
  refine va_clone (ty := .int) B.ex B.by (B.2.2.2.1.trans hl.1.symm) B.own (B.hts _ w1) (B.hts _ w2) (B.hts _ w3) (B.hts _ w4) (B.hts _ w5) (B.G.1 _ w6) B.K r.1.2.2.2.2.2.2.1 r.1.2.2.2.2.2.2.2 r.2.1 B.hA (a - 2) 0 hw rfl hcls (fun i v hv => ?_) (by omega) (by omega) (by omega) (show _ + n ≤ _ by omega) hd (fun q H1 hK hP hD hS => ?_)
  · have hv' : (arrV (ty 0) n (fun (j : Nat) => Value.int (f (j : Int)))).slots[i]? = some v := hv
    have hi : i < n := by
      have := (Array.getElem?_eq_some_iff.mp hv').1
      rwa [arrV_size] at this
    rw [arrV_read _ _ hi] at hv'
    cases hv'
    rfl
  · obtain ⟨ad', hag', r', e⟩ := r.alc (n := n) (cc := .inl (0, n, .inl f)) trivial (by simp [am_kd]) hst hP hD hS
    have k' := k ad' H1 locs ls (fun k hk => (hag' k (by omega)).trans (hag k hk)) (by rw [hnx_alc]; omega) (by rw [hcl_alc]; omega) (by rw [hsl_alc]; omega) r'
    rw [e] at k'
    refine W.cs (by rw [hcl_alc]; omega) (by rw [hsl_alc]; show _ + n = _; omega) k'
theorem sg_cast (B : am_B A D ty a0 a1 N xs p l R s m args meth c mi) {ix n : Nat} {x : am_A} (hc : hget h a = some (.inl (0, n, x))) (hw : Jvm.Cond.classLink (am_o mi) ix "[I" ∈ am_ok) (hd : decode (am_b mi) pc = .ok (.checkcast ix, 3)) (k : am_Go A D ty a0 a1 N xs p l e R s m args below meth c mi adb nb c0 s0 Q (pc + 3) L (.ref a :: st) h) : am_Go A D ty a0 a1 N xs p l e R s m args below meth c mi adb nb c0 s0 Q pc L (.ref a :: st) h := by
  intro ad H locs ls hag h1 h2 h3 r
  obtain ⟨hlt, hws, -⟩ := r.1.at hc (r.1.big hc (by decide))
  have e0 : "[" ++ FieldType.int.toString = "[I" := by decide +kernel
  have hcls : s.vm.findClass "[I" = some (ty 0) := by rw [← e0]; exact (B.K.2 0 _ rfl).2
  exact va_castA B.ex B.by B.own (B.hts _ hw) r.1.2.2.2.2.2.2.1 (a - 2) hws hcls hd (k ad H locs ls hag h1 h2 h3 r)
theorem sg_gets (B : am_B A D ty a0 a1 N xs p l R s m args meth c mi) {ix : Nat} (hw : Jvm.Cond.fieldLink (am_o mi) ix "BlockCast$Scribe" "ROW" "[I" ∈ am_ok) (hd : decode (am_b mi) pc = .ok (.getstatic ix, 3)) (k : am_Go A D ty a0 a1 N xs p l e R s m args below meth c mi adb nb c0 s0 Q (pc + 3) L (.ref 0 :: st) h) : am_Go A D ty a0 a1 N xs p l e R s m args below meth c mi adb nb c0 s0 Q pc L st h := by
  intro ad H locs ls hag h1 h2 h3 r
  refine va_gets B.ex B.by B.G.2.2.2.2.2.1 r.2.1 B.own (B.hts _ hw) (fun x hx => hx) hd ?_
  have k' := k ad H locs ls hag h1 h2 h3 (r.stk (vo_c (by have := r.1.1.1; exact Nat.lt_of_lt_of_le (by decide) this) r.2.2.2.2.2))
  rw [List.map_cons] at k'
  rw [← r.1.1.2.1]
  exact k'

theorem sg_mabs (B : am_B A D ty a0 a1 N xs p l R s m args meth c mi) {ix : Nat} {x : Int32} (hst8 : st.length ≤ 8) (hdm : 1 ≤ am_d mi) (w1 : Jvm.Cond.methodLink (am_o mi) ix Lib.Math.abs.name ∈ am_ok) (w2 : Jvm.Cond.static Lib.Math.abs.name ∈ am_ok) (w3 : Jvm.Cond.initialized "java/lang/Math" ∈ am_ok) (w4 : Jvm.Cond.code Lib.Math.abs.name Lib.Math.abs.code 1 (some .int) ∈ am_ok)
    (hd : decode (am_b mi) pc = .ok (.invokestatic ix, 3)) (hrc : hcl h ≤ c0 + R.cells) (hrs : hsl h ≤ s0 + R.slots) (k : am_Go A D ty a0 a1 N xs p l e R s m args below meth c mi adb nb c0 s0 Q (pc + 3) L (.int (am_jabs x) :: st) h) : am_Go A D ty a0 a1 N xs p l e R s m args below meth c mi adb nb c0 s0 Q pc L (.int x :: st) h := by
  intro ad H locs ls hag h1 h2 h3 r
  obtain ⟨lv, hl, -⟩ := r.2.2.1
  have hsum := am_sum8 ad st
  have hRl := B.2.2.2.2.2.2.2.2.2.2.2
  have hRf := B.2.2.2.2.2.2.2.2.2.2.1
  exact va_mabs B.ex B.by (B.2.2.2.1.trans hl.1.symm) B.own (B.hts _ w1) (B.hts _ w2) (B.hts _ w3) (B.hts _ w4) (by omega) (by omega) (by omega) (by omega) hd (k ad H locs ls hag h1 h2 h3 (r.stk (vo_c trivial (vo_t r.2.2.2.2.2))))
theorem sg_mmax (B : am_B A D ty a0 a1 N xs p l R s m args meth c mi) {ix : Nat} {x y : Int32} (hst8 : st.length ≤ 8) (hdm : 1 ≤ am_d mi) (w1 : Jvm.Cond.methodLink (am_o mi) ix Lib.Math.max.name ∈ am_ok) (w2 : Jvm.Cond.static Lib.Math.max.name ∈ am_ok) (w3 : Jvm.Cond.initialized "java/lang/Math" ∈ am_ok) (w4 : Jvm.Cond.code Lib.Math.max.name Lib.Math.max.code 2 (some .int) ∈ am_ok)
    (hd : decode (am_b mi) pc = .ok (.invokestatic ix, 3)) (hrc : hcl h ≤ c0 + R.cells) (hrs : hsl h ≤ s0 + R.slots) (k : am_Go A D ty a0 a1 N xs p l e R s m args below meth c mi adb nb c0 s0 Q (pc + 3) L (.int (am_jmax x y) :: st) h) : am_Go A D ty a0 a1 N xs p l e R s m args below meth c mi adb nb c0 s0 Q pc L (.int y :: .int x :: st) h := by
  intro ad H locs ls hag h1 h2 h3 r
  obtain ⟨lv, hl, -⟩ := r.2.2.1
  have hsum := am_sum8 ad st
  have hRl := B.2.2.2.2.2.2.2.2.2.2.2
  have hRf := B.2.2.2.2.2.2.2.2.2.2.1
  exact va_mmax B.ex B.by (B.2.2.2.1.trans hl.1.symm) B.own (B.hts _ w1) (B.hts _ w2) (B.hts _ w3) (B.hts _ w4) (by omega) (by omega) (by omega) (by omega) hd (k ad H locs ls hag h1 h2 h3 (r.stk (vo_c trivial (vo_t (vo_t r.2.2.2.2.2)))))
theorem sg_mmin (B : am_B A D ty a0 a1 N xs p l R s m args meth c mi) {ix : Nat} {x y : Int32} (hst8 : st.length ≤ 8) (hdm : 1 ≤ am_d mi) (w1 : Jvm.Cond.methodLink (am_o mi) ix Lib.Math.min.name ∈ am_ok) (w2 : Jvm.Cond.static Lib.Math.min.name ∈ am_ok) (w3 : Jvm.Cond.initialized "java/lang/Math" ∈ am_ok) (w4 : Jvm.Cond.code Lib.Math.min.name Lib.Math.min.code 2 (some .int) ∈ am_ok)
    (hd : decode (am_b mi) pc = .ok (.invokestatic ix, 3)) (hrc : hcl h ≤ c0 + R.cells) (hrs : hsl h ≤ s0 + R.slots) (k : am_Go A D ty a0 a1 N xs p l e R s m args below meth c mi adb nb c0 s0 Q (pc + 3) L (.int (am_jmin x y) :: st) h) : am_Go A D ty a0 a1 N xs p l e R s m args below meth c mi adb nb c0 s0 Q pc L (.int y :: .int x :: st) h := by
  intro ad H locs ls hag h1 h2 h3 r
  obtain ⟨lv, hl, -⟩ := r.2.2.1
  have hsum := am_sum8 ad st
  have hRl := B.2.2.2.2.2.2.2.2.2.2.2
  have hRf := B.2.2.2.2.2.2.2.2.2.2.1
  exact va_mmin B.ex B.by (B.2.2.2.1.trans hl.1.symm) B.own (B.hts _ w1) (B.hts _ w2) (B.hts _ w3) (B.hts _ w4) (by omega) (by omega) (by omega) (by omega) hd (k ad H locs ls hag h1 h2 h3 (r.stk (vo_c trivial (vo_t (vo_t r.2.2.2.2.2)))))
theorem sg_objInit (B : am_B A D ty a0 a1 N xs p l R s m args meth c mi) {ix : Nat} (hst8 : st.length ≤ 8) (hdm : 1 ≤ am_d mi) (w1 : Jvm.Cond.methodLink (am_o mi) ix Lib.objectInit ∈ am_ok) (w2 : Jvm.Cond.instanceMethod Lib.objectInit ∈ am_ok) (w3 : Jvm.Cond.code Lib.objectInit ⟨#[0xb1]⟩ 1 none ∈ am_ok)
    (hd : decode (am_b mi) pc = .ok (.invokespecial ix, 3)) (k : am_Go A D ty a0 a1 N xs p l e R s m args below meth c mi adb nb c0 s0 Q (pc + 3) L st h) : am_Go A D ty a0 a1 N xs p l e R s m args below meth c mi adb nb c0 s0 Q pc L (.ref a :: st) h := by
  intro ad H locs ls hag h1 h2 h3 r
  obtain ⟨lv, hl, -⟩ := r.2.2.1
  have hsum := am_sum8 ad st
  have hRl := B.2.2.2.2.2.2.2.2.2.2.2
  have hRf := B.2.2.2.2.2.2.2.2.2.2.1
  exact W.objInit B.ex B.by B.own (B.hts _ w1) (B.hts _ w2) (B.hts _ w3) rfl (hl.1.trans B.2.2.2.1.symm) rfl hd (by omega) (by show 2 * 0 + _ + 12 ≤ _; omega) (k ad H locs ls hag h1 h2 h3 (r.stk (vo_t r.2.2.2.2.2)))
end AGR
