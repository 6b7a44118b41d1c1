/-! THE CLAIM OUT OF ONE WALK OF THE LAW'S BODY. Your part is whole_start (and what it stands on); all else here is the same for every law, but numbers. -/
def R_law : String := "BlockCastLaw"
def lw_P (b : Addr) (xs : List Int32) (args : Array Value) (s : State) : Prop := args = #[.ref b] ∧ s.IntsAt b xs ∧ xs.length ≤ 260 ∧ (Jvm.Cond.and given_1 narrow_1).before args s = true
/-- what a walk over the start with the record d0 says of its end, said of the start itself -/
theorem lw_closed {s t : State} {o : Outcome} {d0 : Drawn} {L : List Loc} {k n : Nat} (hd0 : s.drawn.sameBut d0 lw_cs) (hv : ∃ v, o = .returned v) (hW : (s.setDrawn d0).WarmedH t.vm) (hs : (s.setDrawn d0).sameButNew ({ t with vm := s.vm } : State) L k n) : State.butDraws s t lw_cs (fun t1 => Framed s o t1 L k n) := by
  have h2 : t.drawn = d0 := congrArg State.drawn hs.1
  refine ⟨⟨hv, hW, State.sameButNew.setDrawn hs s.drawn⟩, ?_, by decide⟩
  rw [h2]
  exact hd0
def lw_Q (_ : Array Value) (s : State) (o : Outcome) (t : State) : Prop := o = .returned (some (.int 1)) ∧ State.butDraws s t lw_cs (fun t1 => Framed s o t1 [] 600258 7294890)
def lw_Z (below : List Frame) (a : Array Value) (s : State) : State → Prop := fun t => ∃ o, t.status = .running ∧ Ended t below o ∧ lw_Q a s o t
/-- the law's own end, with 1 on the stack, nothing written that was there before, its room as the claim has it; d0: the record of draws at this point (at the entry s.drawn: begin with 'refine W.base ?_' and 'have hd0 := Drawn.sameBut.refl s.drawn lw_cs') -/
theorem lw_ret {p : Program} {l : Launch} {e : Env} {s : State} {m : MethodId} {below : List Frame} {meth : Method} {c : Code} {b : Nat} {d0 : Drawn} (hd0 : s.drawn.sameBut d0 lw_cs) (hx : p.tables.exec = Jvm.exec) (hb : c.code = code) (hr : meth.sig.returnType = ret) (hlocks : meth.locks = false) {pc : Nat} {H : Heap} {ls : Array Slot} (hdg : decode code pc = .ok (.ireturn, 1)) : W p l e room_1 (s.setDrawn d0) m #[Value.ref b] below meth c H [] 600258 7294890 (lw_Z below #[Value.ref b] s) (F0 m pc ls [.int 1]) := by
  intro T hT X
  obtain ⟨fs, hret, hrun, hended, hW, hframe⟩ := X.leave (v := some (.int 1)) (hlocks := hlocks) (fun h => by rw [hr] at h; cases h)
  have hmeth' : T.vm.method? m = some meth := X.method'
  refine ⟨T.setFrames fs, ?_, .returned (some (.int 1)), hrun, hended, rfl, lw_closed hd0 ⟨_, rfl⟩ hW hframe⟩
  jvm_step X.here [X.here.top, hx, hb, hdg, hmeth', hr, ret, narrow_b1]
  (try refine ⟨rfl, ?_⟩); (try refine ⟨rfl, ?_⟩)
  first | (intro acts; rw [hret _ acts rfl rfl rfl]) | rw [hret _ _ rfl rfl rfl]
  exact Steps.refl _
/-- what holds at the law's entry: the machine, the code, the tables' words (any of lw_tbl by 'hts w (by decide +kernel)'), the script of L ints xs at the cell b, what the Statement gives of the start (any of its parts by flat_of_before) -/
def lw_At (p : Program) (s : State) (m : MethodId) (meth : Method) (c : Code) (b L : Nat) (xs : Nat → Int32) : Prop :=
  p.tables.exec = Jvm.exec ∧ c.code = code ∧ meth.sig.returnType = ret ∧ c.maxLocals = 11 ∧ s.vm.findClass R_law = some m.cls ∧ (∀ w ∈ lw_tbl, w.before #[Value.ref b] s = true) ∧ va_X b L xs s s.heap ∧ b < s.heap.size ∧ meth.locks = false ∧ (Jvm.Cond.and given_1 narrow_1).before #[Value.ref b] s = true
theorem lk_classes {s : State} (G1 : ∀ w ∈ am_ok, w.before #[] s = true) : ∃ (dC : Nat → ClassId) (dI : Nat → Nat → Nat), ∀ (k : Nat) (q : vw_C), am_cs[k]? = some q → u_Kn s q.1 q.2.1 q.2.2 (dC k) (dI k) := by
  obtain ⟨c0, i0, h0⟩ := u_known (C := RX0) (T := TX0) (N := 3) (n := 3) G1 am_in_X0 (G1 _ wd_59)
  obtain ⟨c1, i1, h1⟩ := u_known (C := RX1) (T := TX1) (N := 8) (n := 8) G1 am_in_X1 (G1 _ wd_158)
  obtain ⟨c2, i2, h2⟩ := u_known (C := RX2) (T := TX2) (N := 2) (n := 2) G1 am_in_X2 (G1 _ wd_152)
  obtain ⟨c3, i3, h3⟩ := u_known (C := RX3) (T := TX3) (N := 12) (n := 12) G1 am_in_X3 (G1 _ wd_305)
  obtain ⟨c4, i4, h4⟩ := u_known (C := RX4) (T := TX4) (N := 1) (n := 1) G1 am_in_X4 (G1 _ wd_164)
  obtain ⟨c5, i5, h5⟩ := u_known (C := RX5) (T := TX5) (N := 7) (n := 7) G1 am_in_X5 (G1 _ wd_203)
  obtain ⟨c6, i6, h6⟩ := u_known (C := RX6) (T := TX6) (N := 16) (n := 16) G1 am_in_X6 (G1 _ wd_78)
  obtain ⟨c7, i7, h7⟩ := u_known (C := RX8) (T := TX8) (N := 4) (n := 4) G1 am_in_X8 (G1 _ wd_260)
  obtain ⟨c8, i8, h8⟩ := u_known (C := RX10) (T := TX10) (N := 5) (n := 5) G1 am_in_X10 (G1 _ wd_266)
  obtain ⟨c9, i9, h9⟩ := u_known (C := RX11) (T := TX11) (N := 15) (n := 15) G1 am_in_X11 (G1 _ wd_51)
  refine ⟨fun k => ([c0, c1, c2, c3, c4, c5, c6, c7, c8, c9] : List ClassId).getD k c0, fun k => ([i0, i1, i2, i3, i4, i5, i6, i7, i8, i9] : List (Nat → Nat)).getD k i0, ?_⟩
  intro k q hq
  match k, hq with
  | 0, hq => cases hq; exact h0
  | 1, hq => cases hq; exact h1
  | 2, hq => cases hq; exact h2
  | 3, hq => cases hq; exact h3
  | 4, hq => cases hq; exact h4
  | 5, hq => cases hq; exact h5
  | 6, hq => cases hq; exact h6
  | 7, hq => cases hq; exact h7
  | 8, hq => cases hq; exact h8
  | 9, hq => cases hq; exact h9
  | k + 10, hq => simp [am_cs] at hq
theorem lk_types {s : State} (G1 : ∀ w ∈ am_ok, w.before #[] s = true) (ao : va_AO "BlockCast$Picture" s) (ai : am_AI s) : ∃ ty : Nat → ClassId, ∀ (k : Nat) (q : ClassId × FieldType), (am_tys ty)[k]? = some q → ArrOfT s q.1 q.2 ∧ va_RA s q.1 q.2 := by
  obtain ⟨c0, k0, m0, x0, y0, z0⟩ := Cond.arrayClass_spec (G1 _ wd_75)
  obtain ⟨m5, c5, k5, h1, h2, h3, h4, h5⟩ := Cond.arrayOver_spec ao
  refine ⟨fun k => ([c0, c0, c0, c0, c0, c5] : List ClassId).getD k c0, ?_⟩
  intro k q hq
  match k, hq with
  | 0, hq => cases hq; exact ⟨fun n z => ⟨fun k h => (by cases h), k0, y0, m0, z0⟩, x0⟩
  | 1, hq => cases hq; exact ⟨fun n z => ⟨fun k h => (by cases h), k0, y0, m0, z0⟩, x0⟩
  | 2, hq => cases hq; exact ⟨fun n z => ⟨fun k h => (by cases h), k0, y0, m0, z0⟩, x0⟩
  | 3, hq => cases hq; exact ⟨fun n z => ⟨fun k h => (by cases h), k0, y0, m0, z0⟩, x0⟩
  | 4, hq => cases hq; exact ⟨fun n z => ⟨fun k h => (by cases h), k0, y0, m0, z0⟩, x0⟩
  | 5, hq => cases hq; exact ⟨fun n z => ⟨fun k h => (by cases h), k5, h3, m5, h4⟩, k5, m5, h3, h4, h1, h5⟩
  | k + 6, hq => simp [am_tys] at hq
abbrev lk_n : Jvm.Cond := Jvm.Cond.and given_1 narrow_1
theorem lk_strs {s : State} {b : Nat} (hts : ∀ w ∈ lw_tbl, w.before #[Value.ref b] s = true) (hs : ∀ w ∈ flatC lk_n, w.before #[Value.ref b] s = true) : ∀ q ∈ am_strs, ∃ sa, vk_R q.1 q.2.1 q.2.2 sa s := by
  have one : ∀ (c : String) (k : Nat) (t : String), (Jvm.Cond.stringRef c k t).before #[Value.ref b] s = true → (Jvm.Cond.exactly (Jvm.Term.string c k) "java/lang/String").before #[Value.ref b] s = true → ∃ sa, vk_R c k t sa s := by
    intro c k t h1 h2
    obtain ⟨a, x, y, z, q, -⟩ := Cond.exactly_spec h2
    exact ⟨a, vk_R.of h1 q⟩
  exact List.forall_mem_cons.mpr ⟨one _ _ _ (hts _ (List.mem_of_getElem? (i := 1156) (by decide +kernel))) (hs _ (by decide +kernel)), List.forall_mem_cons.mpr ⟨one _ _ _ (hts _ (List.mem_of_getElem? (i := 1160) (by decide +kernel))) (hs _ (by decide +kernel)), List.forall_mem_cons.mpr ⟨one _ _ _ (hts _ (List.mem_of_getElem? (i := 1165) (by decide +kernel))) (hs _ (by decide +kernel)), List.forall_mem_cons.mpr ⟨one _ _ _ (hts _ (List.mem_of_getElem? (i := 1166) (by decide +kernel))) (hs _ (by decide +kernel)), List.forall_mem_cons.mpr ⟨one _ _ _ (hts _ (List.mem_of_getElem? (i := 1171) (by decide +kernel))) (hs _ (by decide +kernel)), List.forall_mem_cons.mpr ⟨one _ _ _ (hts _ (List.mem_of_getElem? (i := 1101) (by decide +kernel))) (hs _ (by decide +kernel)), List.forall_mem_cons.mpr ⟨one _ _ _ (hts _ (List.mem_of_getElem? (i := 1119) (by decide +kernel))) (hs _ (by decide +kernel)), List.forall_mem_cons.mpr ⟨one _ _ _ (hts _ (List.mem_of_getElem? (i := 523) (by decide +kernel))) (hs _ (by decide +kernel)), List.forall_mem_cons.mpr ⟨one _ _ _ (hts _ (List.mem_of_getElem? (i := 534) (by decide +kernel))) (hs _ (by decide +kernel)), List.forall_mem_cons.mpr ⟨one _ _ _ (hts _ (List.mem_of_getElem? (i := 539) (by decide +kernel))) (hs _ (by decide +kernel)), List.forall_mem_cons.mpr ⟨one _ _ _ (hts _ (List.mem_of_getElem? (i := 828) (by decide +kernel))) (hs _ (by decide +kernel)), List.forall_mem_cons.mpr ⟨one _ _ _ (hts _ (List.mem_of_getElem? (i := 829) (by decide +kernel))) (hs _ (by decide +kernel)), List.forall_mem_cons.mpr ⟨one _ _ _ (hts _ (List.mem_of_getElem? (i := 839) (by decide +kernel))) (hs _ (by decide +kernel)), List.forall_mem_cons.mpr ⟨one _ _ _ (hts _ (List.mem_of_getElem? (i := 553) (by decide +kernel))) (hs _ (by decide +kernel)), List.forall_mem_cons.mpr ⟨one _ _ _ (hts _ (List.mem_of_getElem? (i := 1057) (by decide +kernel))) (hs _ (by decide +kernel)), List.forall_mem_cons.mpr ⟨one _ _ _ (hts _ (List.mem_of_getElem? (i := 760) (by decide +kernel))) (hs _ (by decide +kernel)), List.forall_mem_cons.mpr ⟨one _ _ _ (hts _ (List.mem_of_getElem? (i := 818) (by decide +kernel))) (hs _ (by decide +kernel)), List.forall_mem_cons.mpr ⟨one _ _ _ (hts _ (List.mem_of_getElem? (i := 1146) (by decide +kernel))) (hs _ (by decide +kernel)), List.forall_mem_cons.mpr ⟨one _ _ _ (hts _ (List.mem_of_getElem? (i := 774) (by decide +kernel))) (hs _ (by decide +kernel)), List.forall_mem_cons.mpr ⟨one _ _ _ (hts _ (List.mem_of_getElem? (i := 787) (by decide +kernel))) (hs _ (by decide +kernel)), List.forall_mem_cons.mpr ⟨one _ _ _ (hts _ (List.mem_of_getElem? (i := 570) (by decide +kernel))) (hs _ (by decide +kernel)), List.forall_mem_cons.mpr ⟨one _ _ _ (hts _ (List.mem_of_getElem? (i := 581) (by decide +kernel))) (hs _ (by decide +kernel)), List.forall_mem_cons.mpr ⟨one _ _ _ (hts _ (List.mem_of_getElem? (i := 801) (by decide +kernel))) (hs _ (by decide +kernel)), List.forall_mem_cons.mpr ⟨one _ _ _ (hts _ (List.mem_of_getElem? (i := 1207) (by decide +kernel))) (hs _ (by decide +kernel)), fun _ h => absurd h List.not_mem_nil⟩⟩⟩⟩⟩⟩⟩⟩⟩⟩⟩⟩⟩⟩⟩⟩⟩⟩⟩⟩⟩⟩⟩⟩
theorem lk_ncs {s : State} {b : Nat} (hs : ∀ w ∈ flatC lk_n, w.before #[Value.ref b] s = true) : ∀ q ∈ am_ncs, va_Nc q.1 q.2 s := by
  exact List.forall_mem_cons.mpr ⟨va_Nc.of (hs _ (by decide +kernel)), List.forall_mem_cons.mpr ⟨va_Nc.of (hs _ (by decide +kernel)), List.forall_mem_cons.mpr ⟨va_Nc.of (hs _ (by decide +kernel)), List.forall_mem_cons.mpr ⟨va_Nc.of (hs _ (by decide +kernel)), List.forall_mem_cons.mpr ⟨va_Nc.of (hs _ (by decide +kernel)), List.forall_mem_cons.mpr ⟨va_Nc.of (hs _ (by decide +kernel)), List.forall_mem_cons.mpr ⟨va_Nc.of (hs _ (by decide +kernel)), List.forall_mem_cons.mpr ⟨va_Nc.of (hs _ (by decide +kernel)), fun _ h => absurd h List.not_mem_nil⟩⟩⟩⟩⟩⟩⟩⟩
theorem lk_row {s : State} {b : Nat} {A : Nat → Prop} (hts : ∀ w ∈ lw_tbl, w.before #[Value.ref b] s = true) (hs : ∀ w ∈ flatC lk_n, w.before #[Value.ref b] s = true) (hA : ∀ a : Nat, a < s.heap.size → ¬ A a) : ∃ a0 : Nat, va_Z "BlockCast$Scribe" "ROW" "[I" (.ref a0) A s s.heap ∧ va_T .int a0 16 (fun j => .int (am_row j)) A s s.heap := by
  have el : ∀ j : Nat, j < 16 → (Jvm.Cond.eq (Jvm.Term.elem (Jvm.Term.static "BlockCast$Scribe" "ROW" "[I") (.int (Int32.ofNat j))) (.int (am_row j))).before #[Value.ref b] s = true := by
    intro j hj
    match j, hj with
    | 0, _ => exact hs _ (by decide +kernel)
    | 1, _ => exact hs _ (by decide +kernel)
    | 2, _ => exact hs _ (by decide +kernel)
    | 3, _ => exact hs _ (by decide +kernel)
    | 4, _ => exact hs _ (by decide +kernel)
    | 5, _ => exact hs _ (by decide +kernel)
    | 6, _ => exact hs _ (by decide +kernel)
    | 7, _ => exact hs _ (by decide +kernel)
    | 8, _ => exact hs _ (by decide +kernel)
    | 9, _ => exact hs _ (by decide +kernel)
    | 10, _ => exact hs _ (by decide +kernel)
    | 11, _ => exact hs _ (by decide +kernel)
    | 12, _ => exact hs _ (by decide +kernel)
    | 13, _ => exact hs _ (by decide +kernel)
    | 14, _ => exact hs _ (by decide +kernel)
    | 15, _ => exact hs _ (by decide +kernel)
    | j + 16, h => exact absurd h (by omega)
  obtain ⟨t, ht, hT⟩ := va_Tof (tm := (Jvm.Term.static "BlockCast$Scribe" "ROW" "[I")) (ty := .int) (N := 16) (f := fun j => .int (am_row j)) (A := A) (by decide) (hs _ (by decide +kernel)) (va_eqt (z := Int32.ofNat 16) (hs _ (by decide +kernel))) (fun j hj => va_eqt (el j hj)) hA
  exact ⟨t, va_Zref (hts _ (List.mem_of_getElem? (i := 1024) (by decide +kernel))) (hts _ (List.mem_of_getElem? (i := 33) (by decide +kernel))) ht hA, hT⟩
theorem lk_h0 (L : Nat) (xs : Nat → Int32) : ∃ h : am_H, hnx h = 2 ∧ hcl h = 0 ∧ hsl h = 0 ∧ hget h 0 = some (.inl (7, 16, .inl am_row)) ∧ hget h 1 = some (.inl (7, L, .inl fun z => xs z.toNat)) ∧ ∀ k, 2 ≤ k → hget h k = none := by
  refine ⟨(2, 0, 0, fun k => if k = 0 then some (.inl (7, 16, .inl am_row)) else if k = 1 then some (.inl (7, L, .inl fun z => xs z.toNat)) else none), rfl, rfl, rfl, rfl, rfl, fun k hk => ?_⟩
  show (if k = 0 then some (.inl (7, 16, .inl am_row)) else if k = 1 then some (.inl (7, L, .inl fun z => xs z.toNat)) else none : Option am_C) = none
  rw [if_neg (by omega), if_neg (by omega)]
theorem lk_rowp : ∀ k : Int, 0 ≤ k → k < 16 → (am_row k).toInt = rowp k := by
  intro k h0 h1
  obtain ⟨n, rfl⟩ : ∃ n : Nat, k = n := ⟨k.toNat, by omega⟩
  have hn : n < 16 := by omega
  have q : ∀ n : Nat, n < 16 → (am_row (n : Int)).toInt = rowp (n : Int) := by decide
  exact q n hn
/-- the law's run, from the script's ints -/
theorem lk_run {h : am_H} {L : Nat} {xs : Nat → Int32} (hL : L ≤ 260) (a1 : hnx h = 2) (a2 : hcl h = 0) (a3 : hsl h = 0) (a4 : hget h 0 = some (.inl (7, 16, .inl am_row))) (a5 : hget h 1 = some (.inl (7, L, .inl fun z => xs z.toNat))) : ∃ h', rn m_L_law 0 [.ref 1, am_J, am_J, am_J, am_J, am_J, am_J, am_J, am_J, am_J, am_J] [] h = some (.inl (some (.int 1)), h') ∧ hcl h' ≤ 600258 ∧ hsl h' ≤ 7294890 := by
  have g0 : ∀ k, gZ h 0 k = (am_row k).toInt := fun k => by unfold gZ gI; rw [a4]; rfl
  refine law_run (n := L) (xs := fun z => (xs z.toNat).toInt) a1 a2 a3 ⟨(gn_of a4).trans rfl, (sh_of a4).trans rfl, fun k k0 k1 => (g0 k).trans (lk_rowp k k0 k1)⟩ ⟨(sh_of a5).trans (if_pos (by omega)), (gn_of a5).trans rfl, ?_⟩ hL
  funext i
  show (gI h 1 i).toInt = _
  unfold gI
  rw [a5]
  rfl
theorem whole_start {p : Program} {e : Env} {s : State} {m : MethodId} {below : List Frame} {meth : Method} {c : Code} (l : Launch) (hflags : l.flags = flags0) {b L : Nat} {xs : Nat → Int32} (hL : L ≤ 260) (C0 : lw_At p s m meth c b L xs) : W p l e room_1 s m #[Value.ref b] below meth c s.heap [] 0 0 (lw_Z below #[Value.ref b] s) (entryFrame m ([Value.ref b] : List Value).toArray 11) := by
  obtain ⟨hx, hb, hr, hml, hown, hts, hX, hbl, hlocks, hgv⟩ := id C0
  have hs := flat_of_before _ hgv
  have hA : ∀ q : Nat, s.heap.size ≤ q → (fun q : Nat => s.heap.size ≤ q) q := fun _ h => h
  have hN : ∀ a : Nat, a < s.heap.size → ¬ (fun q : Nat => s.heap.size ≤ q) a := fun _ h => Nat.not_le.mpr h
  have G1 : ∀ w ∈ am_ok, w.before #[] s = true := fun w hw => am_mv_args (List.mem_filter.mp hw).2 rfl (hts w (List.mem_filter.mp hw).1)
  have ao : va_AO "BlockCast$Picture" s := va_AO.of (hts _ (List.mem_of_getElem? (i := 77) (by decide +kernel)))
  have ai : am_AI s := trivial
  obtain ⟨dC, dI, hKc⟩ := lk_classes G1
  obtain ⟨ty, hKt⟩ := lk_types G1 ao ai
  obtain ⟨a0, hZ, hT⟩ := lk_row (A := fun q : Nat => s.heap.size ≤ q) hts hs hN
  have hTh : (Jvm.Cond.initialized "java/lang/Throwable").before #[Value.ref b] s = true := hts _ (List.mem_of_getElem? (i := 37) (by decide +kernel))
  have z1 : vx_Zq Bundle.tN "UNASSIGNED_STACK" Bundle.steD (fun q : Nat => s.heap.size ≤ q) s s.heap := vx_Zqof (args := #[Value.ref b]) (hts _ (List.mem_of_getElem? (i := 446) (by decide +kernel))) hTh (hs _ (by decide +kernel)) hN
  have z2 : vx_Zq Bundle.tN "SUPPRESSED_SENTINEL" Bundle.listD (fun q : Nat => s.heap.size ≤ q) s s.heap := vx_Zqof (args := #[Value.ref b]) (hts _ (List.mem_of_getElem? (i := 448) (by decide +kernel))) hTh (hs _ (by decide +kernel)) hN
  have hX2 : va_T .int b L (fun j => .int (xs j)) (fun q : Nat => s.heap.size ≤ q) s s.heap := by
    obtain ⟨scr, h1, h2, h3, h4, h5⟩ := hX
    exact ⟨scr, h1, h2, h3, by rw [h4]; exact Nat.le_refl _, by rw [h4], h5, hN b hbl⟩
  have G : am_G (fun q : Nat => s.heap.size ≤ q) (dC, dI) ty a0 b L (fun z => xs z.toNat) s s.heap := ⟨G1, ⟨hKc, hKt⟩, z1, z2, lk_strs hts hs, hZ, hT, hX2, lk_ncs hs, ao, ai⟩
  obtain ⟨h, b1, b2, b3, b4, b5, b6⟩ := lk_h0 L xs
  obtain ⟨h', e1, e2, e3⟩ := lk_run (xs := xs) hL b1 b2 b3 b4 b5
  obtain ⟨n, e4⟩ := rn_iff.mp e1
  have st : l.stackTraces = false := by
    unfold Launch.stackTraces
    rw [hflags]
    decide
  have B : am_B (fun q : Nat => s.heap.size ≤ q) (dC, dI) ty a0 b L (fun z => xs z.toNat) p l room_1 s m #[Value.ref b] meth c m_L_law := ⟨hx, hb, hr, hml, hown, hlocks, fun q => absurd rfl q, st, G, hA, by decide, by decide⟩
  have RH : am_RH (fun q : Nat => s.heap.size ≤ q) (dC, dI) ty a0 b L (fun z => xs z.toNat) (fun k => if k = 0 then a0 else b) h s.heap := by
    refine ⟨⟨by omega, rfl, rfl⟩, fun k h1 h2 => by omega, fun k hk => b6 k (by omega), fun k cc hk => ?_, b4, b5, ?_, ?_⟩
    · match k, hk with
      | 0, hk => rw [b4] at hk; cases hk; trivial
      | 1, hk => rw [b5] at hk; cases hk; trivial
      | k + 2, hk => rw [b6 _ (by omega)] at hk; cases hk
    · intro k q hq
      unfold am_ws at hq
      rw [b1] at hq
      simp at hq
    · refine ⟨fun i j x y hx' => ?_, fun k q hq => ?_⟩
      · unfold am_ws at hx'
        rw [b1] at hx'
        simp at hx'
      · unfold am_ws at hq
        rw [b1] at hq
        simp at hq
  have hl := lv_entry ([.ref b]) (n := 11) (Nat.le_of_ble_eq_true rfl)
  rw [lg_entry_eq]
  generalize (lg_sl ([.ref b]) ++ List.replicate (11 - (lg_sl ([.ref b])).length) Slot.unset).toArray = ls at hl ⊢
  have hl : lv_has ls 11 [(0, .ref b)] := hl
  have RS : am_RS (fun q : Nat => s.heap.size ≤ q) (dC, dI) ty a0 b L (fun z => xs z.toNat) s m_L_law [.ref 1, am_J, am_J, am_J, am_J, am_J, am_J, am_J, am_J, am_J, am_J] [] h (fun k => if k = 0 then a0 else b) s.heap [] ls := by
    refine ⟨RH, va_S.rf, ⟨_, hl, fun i v hi hv => ?_⟩, rfl, ?_, fun v hv => absurd hv List.not_mem_nil⟩
    · match i, hi with
      | 0, hi => cases hi; exact List.mem_cons_self
      | 1, hi => cases hi; exact absurd rfl hv
      | 2, hi => cases hi; exact absurd rfl hv
      | 3, hi => cases hi; exact absurd rfl hv
      | 4, hi => cases hi; exact absurd rfl hv
      | 5, hi => cases hi; exact absurd rfl hv
      | 6, hi => cases hi; exact absurd rfl hv
      | 7, hi => cases hi; exact absurd rfl hv
      | 8, hi => cases hi; exact absurd rfl hv
      | 9, hi => cases hi; exact absurd rfl hv
      | 10, hi => cases hi; exact absurd rfl hv
      | i + 11, hi => simp at hi
    · have j0 : am_vo (hnx h) am_J := trivial
      refine List.forall_mem_cons.mpr ⟨?_, ?_⟩
      · show 1 < hnx h
        omega
      · exact List.forall_mem_cons.mpr ⟨j0, List.forall_mem_cons.mpr ⟨j0, List.forall_mem_cons.mpr ⟨j0, List.forall_mem_cons.mpr ⟨j0, List.forall_mem_cons.mpr ⟨j0, List.forall_mem_cons.mpr ⟨j0, List.forall_mem_cons.mpr ⟨j0, List.forall_mem_cons.mpr ⟨j0, List.forall_mem_cons.mpr ⟨j0, List.forall_mem_cons.mpr ⟨j0, fun v hv => absurd hv List.not_mem_nil⟩⟩⟩⟩⟩⟩⟩⟩⟩⟩
  have go := am_snd (A := fun q : Nat => s.heap.size ≤ q) (D := (dC, dI)) (ty := ty) (a0 := a0) (a1 := b) (N := L) (xs := fun z => xs z.toNat) (l := l) am_all_ok n p e room_1 s m #[Value.ref b] below meth c m_L_law (fun k => if k = 0 then a0 else b) 2 0 0 (lw_Z below #[Value.ref b] s) 0 [.ref 1, am_J, am_J, am_J, am_J, am_J, am_J, am_J, am_J, am_J, am_J] [] h (.inl (some (.int 1))) h' e4 B (by show hcl h' ≤ 0 + 600258; omega) (by show hsl h' ≤ 0 + 7294890; omega) ?_ ?_ ?_
  · have w := go (fun k => if k = 0 then a0 else b) s.heap [] ls (fun _ _ => rfl) (by omega) (Nat.zero_le _) (Nat.zero_le _) RS
    rw [b2, b3] at w
    exact w
  · intro pc L' st' ins v hd hi hv ad H locs ls' hag q1 q2 q3 r
    have hv' : v = some (.int 1) := by cases hv; rfl
    rcases hi with ⟨rfl, x, t, rfl, h1, h2, h3⟩ | ⟨-, x, -, -, h3⟩ | ⟨-, x, -, -, h3⟩ | ⟨-, x, -, -, h3⟩ | ⟨-, x, t, -, h1, -, -, h3⟩ | ⟨-, -, -, h3⟩
    · have hx1 : x = 1 := by
        rw [h3] at hv'
        cases hv'
        rfl
      subst hx1
      refine va_forget (fun q hq => r.2.1.2.2 q hq) ?_
      refine W.widen (k := 600258) (n := 7294890) (by omega) (by omega) ?_
      exact lw_ret (d0 := s.drawn) (Drawn.sameBut.refl s.drawn lw_cs) hx hb hr hlocks hd
    · rw [h3] at hv'; cases hv'
    · rw [h3] at hv'; cases hv'
    · rw [h3] at hv'; cases hv'
    · rw [h3] at hv'
      rcases h1 with ⟨a, rfl⟩ | rfl <;> cases hv'
    · rw [h3] at hv'; cases hv'
  · intro pc L' h0' ix x hd ht hr' hh'
    cases hr'
  · intro x pc ad H locs ls' q ce rest hr'
    cases hr'
set_option maxHeartbeats 4000000 in
theorem lw_walk (l : Launch) (hflags : l.flags = flags0) (b : Addr) (xs : List Int32) : MetFree l x (headSpec (Jvm.Cond.code x code maxLocals ret :: tables_1) room_1) (lw_P b xs) (fun _ _ _ _ _ => True) lw_Q := by
  refine MetFree.of_bodyS (code := code) (maxLocals := maxLocals) (ret := ret) (by decide) ?_ ?_
  · intro args s m h hn
    obtain ⟨meth, c, h1, h2, h3, h4, h5, h6, -, -⟩ := Cond.code_spec hn (atoms_spec (ws := Jvm.Cond.code x code maxLocals ret :: tables_1) h _ List.mem_cons_self)
    exact ⟨meth, c, h1, h2, h3, h4, h5, h6⟩
  · intro p e s m args below meth c s₁ B hml0 hP _
    obtain ⟨rfl, hx, hbd, hgv⟩ := hP
    obtain ⟨scr, harrAt, hlist, hof, hsmall⟩ := hx
    obtain ⟨hcb, hkn, -, -⟩ := State.arrayAt?_spec harrAt
    have hown : s.vm.findClass R_law = some m.cls := findClass_of_methodNamed B.named
    have hts0 : ∀ c ∈ (Jvm.Cond.code x code maxLocals ret :: tables_1), c.before #[Value.ref b] s = true := atoms_spec (ws := Jvm.Cond.code x code maxLocals ret :: tables_1) B.pre
    have hts : ∀ w ∈ lw_tbl, w.before #[Value.ref b] s = true := k2_hts_sels lw_privs (fun w hw => hts0 w (List.mem_cons_of_mem _ hw)) lw_privs_ok
    have hml : c.maxLocals = 11 := B.maxLocals_eq (hts0 _ List.mem_cons_self)
    have X₀ : Stand p l e room_1 s m #[Value.ref b] below meth c s₁ [] 0 0 := Stand.of_body B
    have hh0 : s₁.heap = s.heap := by rw [B.state]; rfl
    have hsz : scr.slots.size = xs.length := by rw [← Array.length_toList, hlist, List.length_map]
    have hval : ∀ j : Nat, j < xs.length → scr.slots[j]? = some (.int (xs.getD j 0)) := fun j hj => by
      rw [← Array.getElem?_toList, hlist]
      simp [hj]
    have hbl : b < s.heap.size := (Array.getElem?_eq_some_iff.mp hcb).1
    have hX : va_X b xs.length (fun j => xs.getD j 0) s s.heap := ⟨scr, hcb, hof, hkn, hsz, hval⟩
    have K : W p l e room_1 s m #[Value.ref b] below meth c s₁.heap [] 0 0 (lw_Z below #[Value.ref b] s) (entryFrame m ([Value.ref b] : List Value).toArray 11) := by
      rw [hh0]
      exact whole_start l hflags hbd ⟨B.exec, B.bytes, B.returns, hml, hown, hts, hX, hbl, B.notSynchronized, hgv⟩
    obtain ⟨t, a1, o, b1, b2, b3⟩ := K s₁ rfl X₀
    exact ⟨t, o, a1, b1, b2, b3⟩
theorem lw_pre_spec {args : Array Value} {s : State} (h : (Jvm.Cond.and given_1 narrow_1).before args s = true) (hr : rest_1_c.before args s = true) : ∃ (b : Addr) (xs : List Int32), lw_P b xs args s := by
  have hs := flat_of_before _ h
  have hq := flat_of_before _ hr
  have hc : (Cond.count 1).before args s = true := hs _ (by decide +kernel)
  have harr : (Cond.arrayOf (.arg 0) .int).before args s = true := hs _ (by decide +kernel)
  have hle : (Cond.le (.length (.arg 0)) (.int 260)).before args s = true := hs _ (by decide +kernel)
  have hlen : (Cond.isInt (.length (.arg 0))).before args s = true := hq _ (by decide +kernel)
  have hall : (Cond.all (.arg 0) (.isInt (.elem (.arg 0) (.index 0)))).before args s = true := hq _ (by decide +kernel)
  obtain ⟨b, xs, hb, hx⟩ := State.ints_of_pre rfl harr hlen hall
  have hsm : xs.length < 2 ^ 31 := hx.choose_spec.2.2.2
  have hev : (Term.length (.arg 0)).eval args s none [] s = some (.int xs.length.toInt32) := hx.length_eval hb
  have hv := Cond.le_ints hev (show (Term.int 260).eval args s none [] s = some (.int 260) from rfl)
  have hd : xs.length.toInt32 ≤ 260 := by
    simpa [Cond.before, Cond.holds, hv] using hle
  have hN : xs.length ≤ 260 := (Int32.ofNat_le_ofNat hsm (by decide)).mp (show Int32.ofNat xs.length ≤ Int32.ofNat 260 from hd)
  exact ⟨b, xs, Cond.one_arg hc (show args[0]? = some (.ref b) from hb), hx, hN, h⟩
theorem lw_comes (l : Launch) (hflags : l.flags = flags0) : Comes l x (Jvm.Cond.code x code maxLocals ret :: tables_1) room_1 (fun tb e args s => Calls_1 tb e args s ∧ rest_1 tb e args s ∧ Pre_1 tb e args s)
    (fun _ _ args s o t => lw_Q args s o t) := by
  intro p e ha hc hk s m args below hf hfit hheap happ hpre
  obtain ⟨b, xs, hP⟩ := lw_pre_spec hpre.2.2 hpre.2.1
  obtain ⟨k, o, h1, h2, h3, hQ⟩ := lw_walk l hflags b xs p e ha hc hk s m args below hf ((Spec.applies_iff_loose hf).mp happ).1 hP trivial
  exact ⟨k, o, h1, h2, h3, hQ⟩
theorem lw_frame {s t : State} {o : Outcome} {args : Array Value} (h : State.butDraws s t lw_cs (fun t1 => Framed s o t1 [] 600258 7294890)) :
    State.butDraws s t [Jvm.Choice.named "NaN.bits"] (fun t1 => Framed s o t1 (fieldLocs frame_1_writes args s ++ arrayLocs frame_1_arrays args s ++ staticLocs frame_1_statics s) 600258 7294890) := h
theorem lw_limb (L : Cond) (hL : ∀ (args : Array Value) (s t : State), L.after args s (.returned (some (.int 1))) t = true) :
    ArmFor flags0 classFile x code maxLocals ret World_1 tables_1 room_1 Calls_1 rest_1 Pre_1
      (fun tb e a s o t => postC L tb e a s o t ∧ State.butDraws s t [Jvm.Choice.named "NaN.bits"] (fun t1 => Framed s o t1 (fieldLocs frame_1_writes a s ++ arrayLocs frame_1_arrays a s ++ staticLocs frame_1_statics s) 600258 7294890)) := by
  intro l hflags _ _ p e ha hc hk s m args below hf hfit hheap happ hpre
  obtain ⟨k, o, h1, h2, h3, rfl, hF⟩ := lw_comes l hflags p e ha hc hk s m args below hf hfit hheap happ hpre
  exact ⟨k, _, h1, h2, h3, hL args s _, lw_frame hF⟩
theorem i_vc : Claimed_1_1 ∧ Claimed_1_2 := ⟨lw_limb limb_1_1 (fun args s t => by simp [limb_1_1, Cond.after, Cond.holds, Cond.value]), lw_limb limb_1_2 (fun args s t => Cond.after_iff.mpr (by
  first | (rw [show limb_1_2 = Cond.eq .result (.int 1) from rfl, Cond.eq_ints (x := 1) (y := 1) rfl rfl]; simp; done) | (simp [limb_1_2, Cond.value, Term.eval]; done)))⟩
