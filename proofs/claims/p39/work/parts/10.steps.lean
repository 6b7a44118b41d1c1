
/-! ===== a place in a method's body, and what it comes to ===== -/
/-- what holds all through the body of method mi: the machine, its code, the world around -/
def am_B (A : Nat → Prop) (D : va_G) (ty : Nat → ClassId) (a0 a1 N : Nat) (xs : Int → Int32) (p : Program) (l : Launch) (R : Room) (s : State) (m : MethodId) (args : Array Value) (meth : Method) (c : Code) (mi : Nat) : Prop :=
  p.tables.exec = Jvm.exec ∧ c.code = am_b mi ∧ meth.sig.returnType = am_r mi ∧ c.maxLocals = am_n mi ∧ s.vm.findClass (am_o mi) = some m.cls ∧ meth.locks = false ∧
  (mi ≠ m_L_law → meth.name = (am_y mi).name ∧ c.exceptionTable.toList = tableOf (am_h mi)) ∧ l.stackTraces = false ∧ am_G A D ty a0 a1 N xs s s.heap ∧ (∀ q, s.heap.size ≤ q → A q) ∧
  am_d mi ≤ R.frames ∧ am_d mi * 48 ≤ R.locals
/-- a frame's locals and stack and the heap, of the abstract machine, laid into the real one -/
def am_RS (A : Nat → Prop) (D : va_G) (ty : Nat → ClassId) (a0 a1 N : Nat) (xs : Int → Int32) (s : State) (mi : Nat) (L st : List Value) (h : am_H) (ad : Nat → Nat) (H : Heap) (locs : List Loc) (ls : Array Slot) : Prop :=
  am_RH A D ty a0 a1 N xs ad h H ∧ va_S A s.heap H locs ∧ (∃ lv, lv_has ls (am_n mi) lv ∧ am_lr ad L lv) ∧ L.length = am_n mi ∧ (∀ v ∈ L, am_vo (hnx h) v) ∧ (∀ v ∈ st, am_vo (hnx h) v)
section AGO
variable {A : Nat → Prop} {D : va_G} {ty : Nat → ClassId} {a0 a1 N : Nat} {xs : Int → Int32} {p : Program} {l : Launch} {e : Env} {R : Room} {s : State} {m : MethodId} {args : Array Value} {below : List Frame} {meth : Method} {c : Code} {mi : Nat} {adb : Nat → Nat} {nb c0 s0 : Nat} {Q : State → Prop}
/-- from this frame of the abstract machine the real one comes to a state with Q -/
def am_Go (A : Nat → Prop) (D : va_G) (ty : Nat → ClassId) (a0 a1 N : Nat) (xs : Int → Int32) (p : Program) (l : Launch) (e : Env) (R : Room) (s : State) (m : MethodId) (args : Array Value) (below : List Frame) (meth : Method) (c : Code) (mi : Nat) (adb : Nat → Nat) (nb c0 s0 : Nat) (Q : State → Prop) (pc : Nat) (L st : List Value) (h : am_H) : Prop :=
  ∀ (ad : Nat → Nat) (H : Heap) (locs : List Loc) (ls : Array Slot), (∀ k, k < nb → ad k = adb k) → nb ≤ hnx h → c0 ≤ hcl h → s0 ≤ hsl h → am_RS A D ty a0 a1 N xs s mi L st h ad H locs ls →
    W p l e R s m args below meth c H locs (hcl h - c0) (hsl h - s0) Q (F0 m pc ls (st.map (am_cv ad)))
variable {pc : Nat} {L st : List Value} {h : am_H}
theorem am_RS.stk {st' : List Value} {ad : Nat → Nat} {H : Heap} {locs : List Loc} {ls : Array Slot} (r : am_RS A D ty a0 a1 N xs s mi L st h ad H locs ls) (hv : ∀ v ∈ st', am_vo (hnx h) v) : am_RS A D ty a0 a1 N xs s mi L st' h ad H locs ls :=
  ⟨r.1, r.2.1, r.2.2.1, r.2.2.2.1, r.2.2.2.2.1, hv⟩
theorem am_RS.ld {ad : Nat → Nat} {H : Heap} {locs : List Loc} {ls : Array Slot} (r : am_RS A D ty a0 a1 N xs s mi L st h ad H locs ls) {i : Nat} {v : Value} (hi : L[i]? = some v) (hv : v ≠ am_J) : ls[i]? = some (.val (am_cv ad v)) ∧ am_vo (hnx h) v := by
  obtain ⟨lv, h1, h2⟩ := r.2.2.1
  exact ⟨h1.2.2 (i, am_cv ad v) (h2 i v hi hv), r.2.2.2.2.1 v (List.mem_of_getElem? hi)⟩
theorem vo_c {n : Nat} {v : Value} {l : List Value} (h1 : am_vo n v) (h2 : ∀ w ∈ l, am_vo n w) : ∀ w ∈ v :: l, am_vo n w := List.forall_mem_cons.mpr ⟨h1, h2⟩
theorem vo_t {n : Nat} {v : Value} {l : List Value} (h : ∀ w ∈ v :: l, am_vo n w) : ∀ w ∈ l, am_vo n w := (List.forall_mem_cons.mp h).2
theorem vo_h {n : Nat} {v : Value} {l : List Value} (h : ∀ w ∈ v :: l, am_vo n w) : am_vo n v := (List.forall_mem_cons.mp h).1

theorem sg_iadd (B : am_B A D ty a0 a1 N xs p l R s m args meth c mi) {x y : Int32} (hd : decode (am_b mi) pc = .ok (.iadd, 1)) (k : am_Go A D ty a0 a1 N xs p l e R s m args below meth c mi adb nb c0 s0 Q (pc + 1) L (.int (x + y) :: st) h) : am_Go A D ty a0 a1 N xs p l e R s m args below meth c mi adb nb c0 s0 Q pc L (.int y :: .int x :: st) h := by
  intro ad H locs ls hag h1 h2 h3 r
  refine lv_iadd B.1 B.2.1 hd ?_
  exact k ad H locs ls hag h1 h2 h3 (r.stk (vo_c (by first | trivial | assumption) (vo_t (vo_t r.2.2.2.2.2))))
theorem sg_isub (B : am_B A D ty a0 a1 N xs p l R s m args meth c mi) {x y : Int32} (hd : decode (am_b mi) pc = .ok (.isub, 1)) (k : am_Go A D ty a0 a1 N xs p l e R s m args below meth c mi adb nb c0 s0 Q (pc + 1) L (.int (x - y) :: st) h) : am_Go A D ty a0 a1 N xs p l e R s m args below meth c mi adb nb c0 s0 Q pc L (.int y :: .int x :: st) h := by
  intro ad H locs ls hag h1 h2 h3 r
  refine lv_isub B.1 B.2.1 hd ?_
  exact k ad H locs ls hag h1 h2 h3 (r.stk (vo_c (by first | trivial | assumption) (vo_t (vo_t r.2.2.2.2.2))))
theorem sg_imul (B : am_B A D ty a0 a1 N xs p l R s m args meth c mi) {x y : Int32} (hd : decode (am_b mi) pc = .ok (.imul, 1)) (k : am_Go A D ty a0 a1 N xs p l e R s m args below meth c mi adb nb c0 s0 Q (pc + 1) L (.int (x * y) :: st) h) : am_Go A D ty a0 a1 N xs p l e R s m args below meth c mi adb nb c0 s0 Q pc L (.int y :: .int x :: st) h := by
  intro ad H locs ls hag h1 h2 h3 r
  refine lv_imul B.1 B.2.1 hd ?_
  exact k ad H locs ls hag h1 h2 h3 (r.stk (vo_c (by first | trivial | assumption) (vo_t (vo_t r.2.2.2.2.2))))
theorem sg_iand (B : am_B A D ty a0 a1 N xs p l R s m args meth c mi) {x y : Int32} (hd : decode (am_b mi) pc = .ok (.iand, 1)) (k : am_Go A D ty a0 a1 N xs p l e R s m args below meth c mi adb nb c0 s0 Q (pc + 1) L (.int (x &&& y) :: st) h) : am_Go A D ty a0 a1 N xs p l e R s m args below meth c mi adb nb c0 s0 Q pc L (.int y :: .int x :: st) h := by
  intro ad H locs ls hag h1 h2 h3 r
  refine lv_iand B.1 B.2.1 hd ?_
  exact k ad H locs ls hag h1 h2 h3 (r.stk (vo_c (by first | trivial | assumption) (vo_t (vo_t r.2.2.2.2.2))))
theorem sg_ishl (B : am_B A D ty a0 a1 N xs p l R s m args meth c mi) {x y : Int32} (hd : decode (am_b mi) pc = .ok (.ishl, 1)) (k : am_Go A D ty a0 a1 N xs p l e R s m args below meth c mi adb nb c0 s0 Q (pc + 1) L (.int (x <<< (y &&& 31)) :: st) h) : am_Go A D ty a0 a1 N xs p l e R s m args below meth c mi adb nb c0 s0 Q pc L (.int y :: .int x :: st) h := by
  intro ad H locs ls hag h1 h2 h3 r
  refine lv_ishl B.1 B.2.1 hd ?_
  exact k ad H locs ls hag h1 h2 h3 (r.stk (vo_c (by first | trivial | assumption) (vo_t (vo_t r.2.2.2.2.2))))
theorem sg_ishr (B : am_B A D ty a0 a1 N xs p l R s m args meth c mi) {x y : Int32} (hd : decode (am_b mi) pc = .ok (.ishr, 1)) (k : am_Go A D ty a0 a1 N xs p l e R s m args below meth c mi adb nb c0 s0 Q (pc + 1) L (.int (x >>> (y &&& 31)) :: st) h) : am_Go A D ty a0 a1 N xs p l e R s m args below meth c mi adb nb c0 s0 Q pc L (.int y :: .int x :: st) h := by
  intro ad H locs ls hag h1 h2 h3 r
  refine lv_ishr B.1 B.2.1 hd ?_
  exact k ad H locs ls hag h1 h2 h3 (r.stk (vo_c (by first | trivial | assumption) (vo_t (vo_t r.2.2.2.2.2))))
theorem sg_iushr (B : am_B A D ty a0 a1 N xs p l R s m args meth c mi) {x y : Int32} (hd : decode (am_b mi) pc = .ok (.iushr, 1)) (k : am_Go A D ty a0 a1 N xs p l e R s m args below meth c mi adb nb c0 s0 Q (pc + 1) L (.int (x.toUInt32 >>> (y.toUInt32 &&& Int32.toUInt32 31)).toInt32 :: st) h) : am_Go A D ty a0 a1 N xs p l e R s m args below meth c mi adb nb c0 s0 Q pc L (.int y :: .int x :: st) h := by
  intro ad H locs ls hag h1 h2 h3 r
  refine lv_iushr B.1 B.2.1 hd rfl ?_
  exact k ad H locs ls hag h1 h2 h3 (r.stk (vo_c (by first | trivial | assumption) (vo_t (vo_t r.2.2.2.2.2))))
theorem sg_idiv (B : am_B A D ty a0 a1 N xs p l R s m args meth c mi) {x y : Int32} (hne : ¬ y = 0) (hd : decode (am_b mi) pc = .ok (.idiv, 1)) (k : am_Go A D ty a0 a1 N xs p l e R s m args below meth c mi adb nb c0 s0 Q (pc + 1) L (.int (x / y) :: st) h) : am_Go A D ty a0 a1 N xs p l e R s m args below meth c mi adb nb c0 s0 Q pc L (.int y :: .int x :: st) h := by
  intro ad H locs ls hag h1 h2 h3 r
  refine lv_idiv B.1 B.2.1 hd hne ?_
  exact k ad H locs ls hag h1 h2 h3 (r.stk (vo_c (by first | trivial | assumption) (vo_t (vo_t r.2.2.2.2.2))))
theorem sg_irem (B : am_B A D ty a0 a1 N xs p l R s m args meth c mi) {x y : Int32} (hne : ¬ y = 0) (hd : decode (am_b mi) pc = .ok (.irem, 1)) (k : am_Go A D ty a0 a1 N xs p l e R s m args below meth c mi adb nb c0 s0 Q (pc + 1) L (.int (x - x / y * y) :: st) h) : am_Go A D ty a0 a1 N xs p l e R s m args below meth c mi adb nb c0 s0 Q pc L (.int y :: .int x :: st) h := by
  intro ad H locs ls hag h1 h2 h3 r
  refine lv_irem B.1 B.2.1 hd hne ?_
  exact k ad H locs ls hag h1 h2 h3 (r.stk (vo_c (by first | trivial | assumption) (vo_t (vo_t r.2.2.2.2.2))))
theorem sg_ineg (B : am_B A D ty a0 a1 N xs p l R s m args meth c mi) {x : Int32} (hd : decode (am_b mi) pc = .ok (.ineg, 1)) (k : am_Go A D ty a0 a1 N xs p l e R s m args below meth c mi adb nb c0 s0 Q (pc + 1) L (.int (-x) :: st) h) : am_Go A D ty a0 a1 N xs p l e R s m args below meth c mi adb nb c0 s0 Q pc L (.int x :: st) h := by
  intro ad H locs ls hag h1 h2 h3 r
  refine lv_ineg B.1 B.2.1 hd ?_
  exact k ad H locs ls hag h1 h2 h3 (r.stk (vo_c (by first | trivial | assumption) (vo_t r.2.2.2.2.2)))
theorem sg_ladd (B : am_B A D ty a0 a1 N xs p l R s m args meth c mi) {x y : Int64} (hd : decode (am_b mi) pc = .ok (.ladd, 1)) (k : am_Go A D ty a0 a1 N xs p l e R s m args below meth c mi adb nb c0 s0 Q (pc + 1) L (.long (x + y) :: st) h) : am_Go A D ty a0 a1 N xs p l e R s m args below meth c mi adb nb c0 s0 Q pc L (.long y :: .long x :: st) h := by
  intro ad H locs ls hag h1 h2 h3 r
  refine lv_ladd B.1 B.2.1 hd ?_
  exact k ad H locs ls hag h1 h2 h3 (r.stk (vo_c (by first | trivial | assumption) (vo_t (vo_t r.2.2.2.2.2))))
theorem sg_lsub (B : am_B A D ty a0 a1 N xs p l R s m args meth c mi) {x y : Int64} (hd : decode (am_b mi) pc = .ok (.lsub, 1)) (k : am_Go A D ty a0 a1 N xs p l e R s m args below meth c mi adb nb c0 s0 Q (pc + 1) L (.long (x - y) :: st) h) : am_Go A D ty a0 a1 N xs p l e R s m args below meth c mi adb nb c0 s0 Q pc L (.long y :: .long x :: st) h := by
  intro ad H locs ls hag h1 h2 h3 r
  refine lv_lsub B.1 B.2.1 hd ?_
  exact k ad H locs ls hag h1 h2 h3 (r.stk (vo_c (by first | trivial | assumption) (vo_t (vo_t r.2.2.2.2.2))))
theorem sg_lmul (B : am_B A D ty a0 a1 N xs p l R s m args meth c mi) {x y : Int64} (hd : decode (am_b mi) pc = .ok (.lmul, 1)) (k : am_Go A D ty a0 a1 N xs p l e R s m args below meth c mi adb nb c0 s0 Q (pc + 1) L (.long (x * y) :: st) h) : am_Go A D ty a0 a1 N xs p l e R s m args below meth c mi adb nb c0 s0 Q pc L (.long y :: .long x :: st) h := by
  intro ad H locs ls hag h1 h2 h3 r
  refine lv_lmul B.1 B.2.1 hd ?_
  exact k ad H locs ls hag h1 h2 h3 (r.stk (vo_c (by first | trivial | assumption) (vo_t (vo_t r.2.2.2.2.2))))
theorem sg_land (B : am_B A D ty a0 a1 N xs p l R s m args meth c mi) {x y : Int64} (hd : decode (am_b mi) pc = .ok (.land, 1)) (k : am_Go A D ty a0 a1 N xs p l e R s m args below meth c mi adb nb c0 s0 Q (pc + 1) L (.long (x &&& y) :: st) h) : am_Go A D ty a0 a1 N xs p l e R s m args below meth c mi adb nb c0 s0 Q pc L (.long y :: .long x :: st) h := by
  intro ad H locs ls hag h1 h2 h3 r
  refine lv_land B.1 B.2.1 hd ?_
  exact k ad H locs ls hag h1 h2 h3 (r.stk (vo_c (by first | trivial | assumption) (vo_t (vo_t r.2.2.2.2.2))))
theorem sg_ldiv (B : am_B A D ty a0 a1 N xs p l R s m args meth c mi) {x y : Int64} (hne : ¬ y = 0) (hd : decode (am_b mi) pc = .ok (.ldiv, 1)) (k : am_Go A D ty a0 a1 N xs p l e R s m args below meth c mi adb nb c0 s0 Q (pc + 1) L (.long (x / y) :: st) h) : am_Go A D ty a0 a1 N xs p l e R s m args below meth c mi adb nb c0 s0 Q pc L (.long y :: .long x :: st) h := by
  intro ad H locs ls hag h1 h2 h3 r
  refine lv_ldiv B.1 B.2.1 hd hne ?_
  exact k ad H locs ls hag h1 h2 h3 (r.stk (vo_c (by first | trivial | assumption) (vo_t (vo_t r.2.2.2.2.2))))
theorem sg_lshl (B : am_B A D ty a0 a1 N xs p l R s m args meth c mi) {x : Int64} {y : Int32} (hd : decode (am_b mi) pc = .ok (.lshl, 1)) (k : am_Go A D ty a0 a1 N xs p l e R s m args below meth c mi adb nb c0 s0 Q (pc + 1) L (.long (x <<< (y.toInt64 &&& 63)) :: st) h) : am_Go A D ty a0 a1 N xs p l e R s m args below meth c mi adb nb c0 s0 Q pc L (.int y :: .long x :: st) h := by
  intro ad H locs ls hag h1 h2 h3 r
  refine lv_lshl B.1 B.2.1 hd rfl ?_
  exact k ad H locs ls hag h1 h2 h3 (r.stk (vo_c (by first | trivial | assumption) (vo_t (vo_t r.2.2.2.2.2))))
theorem sg_lshr (B : am_B A D ty a0 a1 N xs p l R s m args meth c mi) {x : Int64} {y : Int32} (hd : decode (am_b mi) pc = .ok (.lshr, 1)) (k : am_Go A D ty a0 a1 N xs p l e R s m args below meth c mi adb nb c0 s0 Q (pc + 1) L (.long (x >>> (y.toInt64 &&& 63)) :: st) h) : am_Go A D ty a0 a1 N xs p l e R s m args below meth c mi adb nb c0 s0 Q pc L (.int y :: .long x :: st) h := by
  intro ad H locs ls hag h1 h2 h3 r
  refine lv_lshr B.1 B.2.1 hd rfl ?_
  exact k ad H locs ls hag h1 h2 h3 (r.stk (vo_c (by first | trivial | assumption) (vo_t (vo_t r.2.2.2.2.2))))
theorem sg_lcmp (B : am_B A D ty a0 a1 N xs p l R s m args meth c mi) {x y : Int64} (hd : decode (am_b mi) pc = .ok (.lcmp, 1)) (k : am_Go A D ty a0 a1 N xs p l e R s m args below meth c mi adb nb c0 s0 Q (pc + 1) L (.int (lg_cmp x y) :: st) h) : am_Go A D ty a0 a1 N xs p l e R s m args below meth c mi adb nb c0 s0 Q pc L (.long y :: .long x :: st) h := by
  intro ad H locs ls hag h1 h2 h3 r
  refine W.lcmp B.1 B.2.1 hd ?_
  exact k ad H locs ls hag h1 h2 h3 (r.stk (vo_c (by first | trivial | assumption) (vo_t (vo_t r.2.2.2.2.2))))
theorem sg_i2l (B : am_B A D ty a0 a1 N xs p l R s m args meth c mi) {x : Int32} (hd : decode (am_b mi) pc = .ok (.i2l, 1)) (k : am_Go A D ty a0 a1 N xs p l e R s m args below meth c mi adb nb c0 s0 Q (pc + 1) L (.long x.toInt64 :: st) h) : am_Go A D ty a0 a1 N xs p l e R s m args below meth c mi adb nb c0 s0 Q pc L (.int x :: st) h := by
  intro ad H locs ls hag h1 h2 h3 r
  refine lv_i2l B.1 B.2.1 hd rfl ?_
  exact k ad H locs ls hag h1 h2 h3 (r.stk (vo_c (by first | trivial | assumption) (vo_t r.2.2.2.2.2)))
theorem sg_l2i (B : am_B A D ty a0 a1 N xs p l R s m args meth c mi) {x : Int64} (hd : decode (am_b mi) pc = .ok (.l2i, 1)) (k : am_Go A D ty a0 a1 N xs p l e R s m args below meth c mi adb nb c0 s0 Q (pc + 1) L (.int x.toInt32 :: st) h) : am_Go A D ty a0 a1 N xs p l e R s m args below meth c mi adb nb c0 s0 Q pc L (.long x :: st) h := by
  intro ad H locs ls hag h1 h2 h3 r
  refine lv_l2i B.1 B.2.1 hd rfl ?_
  exact k ad H locs ls hag h1 h2 h3 (r.stk (vo_c (by first | trivial | assumption) (vo_t r.2.2.2.2.2)))
theorem sg_i2c (B : am_B A D ty a0 a1 N xs p l R s m args meth c mi) {x : Int32} (hd : decode (am_b mi) pc = .ok (.i2c, 1)) (k : am_Go A D ty a0 a1 N xs p l e R s m args below meth c mi adb nb c0 s0 Q (pc + 1) L (.int (x.toUInt32 % 65536).toInt32 :: st) h) : am_Go A D ty a0 a1 N xs p l e R s m args below meth c mi adb nb c0 s0 Q pc L (.int x :: st) h := by
  intro ad H locs ls hag h1 h2 h3 r
  refine lv_i2c B.1 B.2.1 hd rfl ?_
  exact k ad H locs ls hag h1 h2 h3 (r.stk (vo_c (by first | trivial | assumption) (vo_t r.2.2.2.2.2)))
theorem sg_i2f (B : am_B A D ty a0 a1 N xs p l R s m args meth c mi) {x : Int32} (hd : decode (am_b mi) pc = .ok (.i2f, 1)) (k : am_Go A D ty a0 a1 N xs p l e R s m args below meth c mi adb nb c0 s0 Q (pc + 1) L (.float (FP.i2f x) :: st) h) : am_Go A D ty a0 a1 N xs p l e R s m args below meth c mi adb nb c0 s0 Q pc L (.int x :: st) h := by
  intro ad H locs ls hag h1 h2 h3 r
  refine lv_i2f B.1 B.2.1 hd ?_
  exact k ad H locs ls hag h1 h2 h3 (r.stk (vo_c (by first | trivial | assumption) (vo_t r.2.2.2.2.2)))
theorem sg_i2d (B : am_B A D ty a0 a1 N xs p l R s m args meth c mi) {x : Int32} (hd : decode (am_b mi) pc = .ok (.i2d, 1)) (k : am_Go A D ty a0 a1 N xs p l e R s m args below meth c mi adb nb c0 s0 Q (pc + 1) L (.double (FP.i2d x) :: st) h) : am_Go A D ty a0 a1 N xs p l e R s m args below meth c mi adb nb c0 s0 Q pc L (.int x :: st) h := by
  intro ad H locs ls hag h1 h2 h3 r
  refine lv_i2d B.1 B.2.1 hd ?_
  exact k ad H locs ls hag h1 h2 h3 (r.stk (vo_c (by first | trivial | assumption) (vo_t r.2.2.2.2.2)))
theorem sg_f2d (B : am_B A D ty a0 a1 N xs p l R s m args meth c mi) {x : UInt32} (hne : vf_n64 (FP.f2d x)) (hd : decode (am_b mi) pc = .ok (.f2d, 1)) (k : am_Go A D ty a0 a1 N xs p l e R s m args below meth c mi adb nb c0 s0 Q (pc + 1) L (.double (FP.f2d x) :: st) h) : am_Go A D ty a0 a1 N xs p l e R s m args below meth c mi adb nb c0 s0 Q pc L (.float x :: st) h := by
  intro ad H locs ls hag h1 h2 h3 r
  refine lv_f2d B.1 B.2.1 hd hne ?_
  exact k ad H locs ls hag h1 h2 h3 (r.stk (vo_c (by first | trivial | assumption) (vo_t r.2.2.2.2.2)))
theorem sg_fdiv (B : am_B A D ty a0 a1 N xs p l R s m args meth c mi) {x y : UInt32} (hne : vf_n32 (FP.fdiv x y)) (hd : decode (am_b mi) pc = .ok (.fdiv, 1)) (k : am_Go A D ty a0 a1 N xs p l e R s m args below meth c mi adb nb c0 s0 Q (pc + 1) L (.float (FP.fdiv x y) :: st) h) : am_Go A D ty a0 a1 N xs p l e R s m args below meth c mi adb nb c0 s0 Q pc L (.float y :: .float x :: st) h := by
  intro ad H locs ls hag h1 h2 h3 r
  refine lv_fdiv B.1 B.2.1 hd hne ?_
  exact k ad H locs ls hag h1 h2 h3 (r.stk (vo_c (by first | trivial | assumption) (vo_t (vo_t r.2.2.2.2.2))))
theorem sg_ddiv (B : am_B A D ty a0 a1 N xs p l R s m args meth c mi) {x y : UInt64} (hne : vf_n64 (FP.ddiv x y)) (hd : decode (am_b mi) pc = .ok (.ddiv, 1)) (k : am_Go A D ty a0 a1 N xs p l e R s m args below meth c mi adb nb c0 s0 Q (pc + 1) L (.double (FP.ddiv x y) :: st) h) : am_Go A D ty a0 a1 N xs p l e R s m args below meth c mi adb nb c0 s0 Q pc L (.double y :: .double x :: st) h := by
  intro ad H locs ls hag h1 h2 h3 r
  refine lv_ddiv B.1 B.2.1 hd hne ?_
  exact k ad H locs ls hag h1 h2 h3 (r.stk (vo_c (by first | trivial | assumption) (vo_t (vo_t r.2.2.2.2.2))))
theorem sg_fcmp (B : am_B A D ty a0 a1 N xs p l R s m args meth c mi) {x y : UInt32} {op : CmpOp} (hd : decode (am_b mi) pc = .ok (.fcmp op, 1)) (k : am_Go A D ty a0 a1 N xs p l e R s m args below meth c mi adb nb c0 s0 Q (pc + 1) L (.int (Op.cmpValue (FP.fcmp x y) op) :: st) h) : am_Go A D ty a0 a1 N xs p l e R s m args below meth c mi adb nb c0 s0 Q pc L (.float y :: .float x :: st) h := by
  intro ad H locs ls hag h1 h2 h3 r
  refine lv_fcmp B.1 B.2.1 hd ?_
  exact k ad H locs ls hag h1 h2 h3 (r.stk (vo_c (by first | trivial | assumption) (vo_t (vo_t r.2.2.2.2.2))))
theorem sg_dcmp (B : am_B A D ty a0 a1 N xs p l R s m args meth c mi) {x y : UInt64} {op : CmpOp} (hd : decode (am_b mi) pc = .ok (.dcmp op, 1)) (k : am_Go A D ty a0 a1 N xs p l e R s m args below meth c mi adb nb c0 s0 Q (pc + 1) L (.int (Op.cmpValue (FP.dcmp x y) op) :: st) h) : am_Go A D ty a0 a1 N xs p l e R s m args below meth c mi adb nb c0 s0 Q pc L (.double y :: .double x :: st) h := by
  intro ad H locs ls hag h1 h2 h3 r
  refine lv_dcmp B.1 B.2.1 hd ?_
  exact k ad H locs ls hag h1 h2 h3 (r.stk (vo_c (by first | trivial | assumption) (vo_t (vo_t r.2.2.2.2.2))))
theorem sg_iconst (B : am_B A D ty a0 a1 N xs p l R s m args meth c mi) {n : Int} {v : Int32} (hv : Int32.ofInt n = v) (hd : decode (am_b mi) pc = .ok (.iconst n, 1)) (k : am_Go A D ty a0 a1 N xs p l e R s m args below meth c mi adb nb c0 s0 Q (pc + 1) L (.int v :: st) h) : am_Go A D ty a0 a1 N xs p l e R s m args below meth c mi adb nb c0 s0 Q pc L (st) h := by
  intro ad H locs ls hag h1 h2 h3 r
  refine lv_iconst B.1 B.2.1 hd hv ?_
  exact k ad H locs ls hag h1 h2 h3 (r.stk (vo_c (by first | trivial | assumption) r.2.2.2.2.2))
theorem sg_bipush (B : am_B A D ty a0 a1 N xs p l R s m args meth c mi) {n : Int} {v : Int32} (hv : (Int8.ofInt n).toInt32 = v) (hd : decode (am_b mi) pc = .ok (.bipush n, 2)) (k : am_Go A D ty a0 a1 N xs p l e R s m args below meth c mi adb nb c0 s0 Q (pc + 2) L (.int v :: st) h) : am_Go A D ty a0 a1 N xs p l e R s m args below meth c mi adb nb c0 s0 Q pc L (st) h := by
  intro ad H locs ls hag h1 h2 h3 r
  refine lv_bipush B.1 B.2.1 hd hv ?_
  exact k ad H locs ls hag h1 h2 h3 (r.stk (vo_c (by first | trivial | assumption) r.2.2.2.2.2))
theorem sg_sipush (B : am_B A D ty a0 a1 N xs p l R s m args meth c mi) {n : Int} {v : Int32} (hv : (Int16.ofInt n).toInt32 = v) (hd : decode (am_b mi) pc = .ok (.sipush n, 3)) (k : am_Go A D ty a0 a1 N xs p l e R s m args below meth c mi adb nb c0 s0 Q (pc + 3) L (.int v :: st) h) : am_Go A D ty a0 a1 N xs p l e R s m args below meth c mi adb nb c0 s0 Q pc L (st) h := by
  intro ad H locs ls hag h1 h2 h3 r
  refine lv_sipush B.1 B.2.1 hd hv ?_
  exact k ad H locs ls hag h1 h2 h3 (r.stk (vo_c (by first | trivial | assumption) r.2.2.2.2.2))
theorem sg_lconst (B : am_B A D ty a0 a1 N xs p l R s m args meth c mi) {n : Fin 2} {v : Int64} (hv : Int64.ofNat (n : Nat) = v) (hd : decode (am_b mi) pc = .ok (.lconst n, 1)) (k : am_Go A D ty a0 a1 N xs p l e R s m args below meth c mi adb nb c0 s0 Q (pc + 1) L (.long v :: st) h) : am_Go A D ty a0 a1 N xs p l e R s m args below meth c mi adb nb c0 s0 Q pc L (st) h := by
  intro ad H locs ls hag h1 h2 h3 r
  refine lv_lconst B.1 B.2.1 hd hv ?_
  exact k ad H locs ls hag h1 h2 h3 (r.stk (vo_c (by first | trivial | assumption) r.2.2.2.2.2))
theorem sg_ldc (B : am_B A D ty a0 a1 N xs p l R s m args meth c mi) {ix : Nat} {v : Int32} (hw : Jvm.Cond.constant (am_o mi) ix v ∈ am_ok) (hd : decode (am_b mi) pc = .ok (.ldc ix, 2)) (k : am_Go A D ty a0 a1 N xs p l e R s m args below meth c mi adb nb c0 s0 Q (pc + 2) L (.int v :: st) h) : am_Go A D ty a0 a1 N xs p l e R s m args below meth c mi adb nb c0 s0 Q pc L (st) h := by
  intro ad H locs ls hag h1 h2 h3 r
  refine lv_ldc B.1 B.2.1 B.2.2.2.2.1 (am_G.word B.2.2.2.2.2.2.2.2.1 hw) hd ?_
  exact k ad H locs ls hag h1 h2 h3 (r.stk (vo_c (by first | trivial | assumption) r.2.2.2.2.2))
theorem sg_ldcw (B : am_B A D ty a0 a1 N xs p l R s m args meth c mi) {ix : Nat} {v : Int32} (hw : Jvm.Cond.constant (am_o mi) ix v ∈ am_ok) (hd : decode (am_b mi) pc = .ok (.ldc_w ix, 3)) (k : am_Go A D ty a0 a1 N xs p l e R s m args below meth c mi adb nb c0 s0 Q (pc + 3) L (.int v :: st) h) : am_Go A D ty a0 a1 N xs p l e R s m args below meth c mi adb nb c0 s0 Q pc L (st) h := by
  intro ad H locs ls hag h1 h2 h3 r
  refine lv_ldcw B.1 B.2.1 B.2.2.2.2.1 (am_G.word B.2.2.2.2.2.2.2.2.1 hw) hd ?_
  exact k ad H locs ls hag h1 h2 h3 (r.stk (vo_c (by first | trivial | assumption) r.2.2.2.2.2))
theorem sg_ldc2 (B : am_B A D ty a0 a1 N xs p l R s m args meth c mi) {ix : Nat} {v : Int64} (hw : Jvm.Cond.constantLong (am_o mi) ix v ∈ am_ok) (hd : decode (am_b mi) pc = .ok (.ldc2_w ix, 3)) (k : am_Go A D ty a0 a1 N xs p l e R s m args below meth c mi adb nb c0 s0 Q (pc + 3) L (.long v :: st) h) : am_Go A D ty a0 a1 N xs p l e R s m args below meth c mi adb nb c0 s0 Q pc L (st) h := by
  intro ad H locs ls hag h1 h2 h3 r
  refine lv_ldc2 B.1 B.2.1 B.2.2.2.2.1 (am_G.word B.2.2.2.2.2.2.2.2.1 hw) hd ?_
  exact k ad H locs ls hag h1 h2 h3 (r.stk (vo_c (by first | trivial | assumption) r.2.2.2.2.2))
theorem sg_ldc2d (B : am_B A D ty a0 a1 N xs p l R s m args meth c mi) {ix : Nat} {v : UInt64} (hw : Jvm.Cond.constantDouble (am_o mi) ix v ∈ am_ok) (hd : decode (am_b mi) pc = .ok (.ldc2_w ix, 3)) (k : am_Go A D ty a0 a1 N xs p l e R s m args below meth c mi adb nb c0 s0 Q (pc + 3) L (.double v :: st) h) : am_Go A D ty a0 a1 N xs p l e R s m args below meth c mi adb nb c0 s0 Q pc L (st) h := by
  intro ad H locs ls hag h1 h2 h3 r
  refine lv_ldc2d B.1 B.2.1 B.2.2.2.2.1 (am_G.word B.2.2.2.2.2.2.2.2.1 hw) hd ?_
  exact k ad H locs ls hag h1 h2 h3 (r.stk (vo_c (by first | trivial | assumption) r.2.2.2.2.2))
theorem sg_fconst0 (B : am_B A D ty a0 a1 N xs p l R s m args meth c mi)  (hd : decode (am_b mi) pc = .ok (.fconst 0, 1)) (k : am_Go A D ty a0 a1 N xs p l e R s m args below meth c mi adb nb c0 s0 Q (pc + 1) L (.float FP.fconst0 :: st) h) : am_Go A D ty a0 a1 N xs p l e R s m args below meth c mi adb nb c0 s0 Q pc L (st) h := by
  intro ad H locs ls hag h1 h2 h3 r
  refine lv_fconst0 B.1 B.2.1 hd ?_
  exact k ad H locs ls hag h1 h2 h3 (r.stk (vo_c (by first | trivial | assumption) r.2.2.2.2.2))
theorem sg_dconst0 (B : am_B A D ty a0 a1 N xs p l R s m args meth c mi)  (hd : decode (am_b mi) pc = .ok (.dconst 0, 1)) (k : am_Go A D ty a0 a1 N xs p l e R s m args below meth c mi adb nb c0 s0 Q (pc + 1) L (.double FP.dconst0 :: st) h) : am_Go A D ty a0 a1 N xs p l e R s m args below meth c mi adb nb c0 s0 Q pc L (st) h := by
  intro ad H locs ls hag h1 h2 h3 r
  refine lv_dconst0 B.1 B.2.1 hd ?_
  exact k ad H locs ls hag h1 h2 h3 (r.stk (vo_c (by first | trivial | assumption) r.2.2.2.2.2))
theorem sg_null (B : am_B A D ty a0 a1 N xs p l R s m args meth c mi)  (hd : decode (am_b mi) pc = .ok (.aconst_null, 1)) (k : am_Go A D ty a0 a1 N xs p l e R s m args below meth c mi adb nb c0 s0 Q (pc + 1) L (.null :: st) h) : am_Go A D ty a0 a1 N xs p l e R s m args below meth c mi adb nb c0 s0 Q pc L (st) h := by
  intro ad H locs ls hag h1 h2 h3 r
  refine lv_null B.1 B.2.1 hd ?_
  exact k ad H locs ls hag h1 h2 h3 (r.stk (vo_c (by first | trivial | assumption) r.2.2.2.2.2))
theorem sg_iload (B : am_B A D ty a0 a1 N xs p l R s m args meth c mi) {i : Nat} {x : Int32} (hi : L[i]? = some (.int x)) (hd : decode (am_b mi) pc = .ok (.iload i, 2)) (k : am_Go A D ty a0 a1 N xs p l e R s m args below meth c mi adb nb c0 s0 Q (pc + 2) L (.int x :: st) h) : am_Go A D ty a0 a1 N xs p l e R s m args below meth c mi adb nb c0 s0 Q pc L (st) h := by
  intro ad H locs ls hag h1 h2 h3 r
  refine lv_iload B.1 B.2.1 hd (r.ld hi (by simp)).1 ?_
  exact k ad H locs ls hag h1 h2 h3 (r.stk (vo_c (by first | trivial | assumption) r.2.2.2.2.2))
theorem sg_iload_n (B : am_B A D ty a0 a1 N xs p l R s m args meth c mi) {i : Fin 4} {x : Int32} (hi : L[i.val]? = some (.int x)) (hd : decode (am_b mi) pc = .ok (.iload_n i, 1)) (k : am_Go A D ty a0 a1 N xs p l e R s m args below meth c mi adb nb c0 s0 Q (pc + 1) L (.int x :: st) h) : am_Go A D ty a0 a1 N xs p l e R s m args below meth c mi adb nb c0 s0 Q pc L (st) h := by
  intro ad H locs ls hag h1 h2 h3 r
  refine lv_iload_n B.1 B.2.1 hd rfl (r.ld hi (by simp)).1 ?_
  exact k ad H locs ls hag h1 h2 h3 (r.stk (vo_c (by first | trivial | assumption) r.2.2.2.2.2))
theorem sg_lload (B : am_B A D ty a0 a1 N xs p l R s m args meth c mi) {i : Nat} {x : Int64} (hi : L[i]? = some (.long x)) (hd : decode (am_b mi) pc = .ok (.lload i, 2)) (k : am_Go A D ty a0 a1 N xs p l e R s m args below meth c mi adb nb c0 s0 Q (pc + 2) L (.long x :: st) h) : am_Go A D ty a0 a1 N xs p l e R s m args below meth c mi adb nb c0 s0 Q pc L (st) h := by
  intro ad H locs ls hag h1 h2 h3 r
  refine lv_lload B.1 B.2.1 hd (r.ld hi (by simp)).1 ?_
  exact k ad H locs ls hag h1 h2 h3 (r.stk (vo_c (by first | trivial | assumption) r.2.2.2.2.2))
theorem sg_lload_n (B : am_B A D ty a0 a1 N xs p l R s m args meth c mi) {i : Fin 4} {x : Int64} (hi : L[i.val]? = some (.long x)) (hd : decode (am_b mi) pc = .ok (.lload_n i, 1)) (k : am_Go A D ty a0 a1 N xs p l e R s m args below meth c mi adb nb c0 s0 Q (pc + 1) L (.long x :: st) h) : am_Go A D ty a0 a1 N xs p l e R s m args below meth c mi adb nb c0 s0 Q pc L (st) h := by
  intro ad H locs ls hag h1 h2 h3 r
  refine lv_lload_n B.1 B.2.1 hd rfl (r.ld hi (by simp)).1 ?_
  exact k ad H locs ls hag h1 h2 h3 (r.stk (vo_c (by first | trivial | assumption) r.2.2.2.2.2))
theorem sg_fload (B : am_B A D ty a0 a1 N xs p l R s m args meth c mi) {i : Nat} {x : UInt32} (hi : L[i]? = some (.float x)) (hd : decode (am_b mi) pc = .ok (.fload i, 2)) (k : am_Go A D ty a0 a1 N xs p l e R s m args below meth c mi adb nb c0 s0 Q (pc + 2) L (.float x :: st) h) : am_Go A D ty a0 a1 N xs p l e R s m args below meth c mi adb nb c0 s0 Q pc L (st) h := by
  intro ad H locs ls hag h1 h2 h3 r
  refine lv_fload B.1 B.2.1 hd (r.ld hi (by simp)).1 ?_
  exact k ad H locs ls hag h1 h2 h3 (r.stk (vo_c (by first | trivial | assumption) r.2.2.2.2.2))
theorem sg_fload_n (B : am_B A D ty a0 a1 N xs p l R s m args meth c mi) {i : Fin 4} {x : UInt32} (hi : L[i.val]? = some (.float x)) (hd : decode (am_b mi) pc = .ok (.fload_n i, 1)) (k : am_Go A D ty a0 a1 N xs p l e R s m args below meth c mi adb nb c0 s0 Q (pc + 1) L (.float x :: st) h) : am_Go A D ty a0 a1 N xs p l e R s m args below meth c mi adb nb c0 s0 Q pc L (st) h := by
  intro ad H locs ls hag h1 h2 h3 r
  refine lv_fload_n B.1 B.2.1 hd rfl (r.ld hi (by simp)).1 ?_
  exact k ad H locs ls hag h1 h2 h3 (r.stk (vo_c (by first | trivial | assumption) r.2.2.2.2.2))
theorem sg_dload (B : am_B A D ty a0 a1 N xs p l R s m args meth c mi) {i : Nat} {x : UInt64} (hi : L[i]? = some (.double x)) (hd : decode (am_b mi) pc = .ok (.dload i, 2)) (k : am_Go A D ty a0 a1 N xs p l e R s m args below meth c mi adb nb c0 s0 Q (pc + 2) L (.double x :: st) h) : am_Go A D ty a0 a1 N xs p l e R s m args below meth c mi adb nb c0 s0 Q pc L (st) h := by
  intro ad H locs ls hag h1 h2 h3 r
  refine lv_dload B.1 B.2.1 hd (r.ld hi (by simp)).1 ?_
  exact k ad H locs ls hag h1 h2 h3 (r.stk (vo_c (by first | trivial | assumption) r.2.2.2.2.2))
theorem sg_dload_n (B : am_B A D ty a0 a1 N xs p l R s m args meth c mi) {i : Fin 4} {x : UInt64} (hi : L[i.val]? = some (.double x)) (hd : decode (am_b mi) pc = .ok (.dload_n i, 1)) (k : am_Go A D ty a0 a1 N xs p l e R s m args below meth c mi adb nb c0 s0 Q (pc + 1) L (.double x :: st) h) : am_Go A D ty a0 a1 N xs p l e R s m args below meth c mi adb nb c0 s0 Q pc L (st) h := by
  intro ad H locs ls hag h1 h2 h3 r
  refine lv_dload_n B.1 B.2.1 hd rfl (r.ld hi (by simp)).1 ?_
  exact k ad H locs ls hag h1 h2 h3 (r.stk (vo_c (by first | trivial | assumption) r.2.2.2.2.2))
theorem sg_aload (B : am_B A D ty a0 a1 N xs p l R s m args meth c mi) {i x : Nat} (hi : L[i]? = some (.ref x)) (hd : decode (am_b mi) pc = .ok (.aload i, 2)) (k : am_Go A D ty a0 a1 N xs p l e R s m args below meth c mi adb nb c0 s0 Q (pc + 2) L (.ref x :: st) h) : am_Go A D ty a0 a1 N xs p l e R s m args below meth c mi adb nb c0 s0 Q pc L (st) h := by
  intro ad H locs ls hag h1 h2 h3 r
  have hx : am_vo (hnx h) (.ref x) := (r.ld hi (by simp)).2
  refine lv_aload B.1 B.2.1 hd (r.ld hi (by simp)).1 ?_
  exact k ad H locs ls hag h1 h2 h3 (r.stk (vo_c (by first | trivial | assumption) r.2.2.2.2.2))
theorem sg_aload_n (B : am_B A D ty a0 a1 N xs p l R s m args meth c mi) {i : Fin 4} {x : Nat} (hi : L[i.val]? = some (.ref x)) (hd : decode (am_b mi) pc = .ok (.aload_n i, 1)) (k : am_Go A D ty a0 a1 N xs p l e R s m args below meth c mi adb nb c0 s0 Q (pc + 1) L (.ref x :: st) h) : am_Go A D ty a0 a1 N xs p l e R s m args below meth c mi adb nb c0 s0 Q pc L (st) h := by
  intro ad H locs ls hag h1 h2 h3 r
  have hx : am_vo (hnx h) (.ref x) := (r.ld hi (by simp)).2
  refine lv_aload_n B.1 B.2.1 hd rfl (r.ld hi (by simp)).1 ?_
  exact k ad H locs ls hag h1 h2 h3 (r.stk (vo_c (by first | trivial | assumption) r.2.2.2.2.2))
theorem sg_aloadN (B : am_B A D ty a0 a1 N xs p l R s m args meth c mi) {i : Nat} (hi : L[i]? = some .null) (hd : decode (am_b mi) pc = .ok (.aload i, 2)) (k : am_Go A D ty a0 a1 N xs p l e R s m args below meth c mi adb nb c0 s0 Q (pc + 2) L (.null :: st) h) : am_Go A D ty a0 a1 N xs p l e R s m args below meth c mi adb nb c0 s0 Q pc L (st) h := by
  intro ad H locs ls hag h1 h2 h3 r
  refine lv_aloadN B.1 B.2.1 hd (r.ld hi (by simp)).1 ?_
  exact k ad H locs ls hag h1 h2 h3 (r.stk (vo_c (by first | trivial | assumption) r.2.2.2.2.2))
theorem sg_aload_nN (B : am_B A D ty a0 a1 N xs p l R s m args meth c mi) {i : Fin 4} (hi : L[i.val]? = some .null) (hd : decode (am_b mi) pc = .ok (.aload_n i, 1)) (k : am_Go A D ty a0 a1 N xs p l e R s m args below meth c mi adb nb c0 s0 Q (pc + 1) L (.null :: st) h) : am_Go A D ty a0 a1 N xs p l e R s m args below meth c mi adb nb c0 s0 Q pc L (st) h := by
  intro ad H locs ls hag h1 h2 h3 r
  refine lv_aload_nN B.1 B.2.1 hd rfl (r.ld hi (by simp)).1 ?_
  exact k ad H locs ls hag h1 h2 h3 (r.stk (vo_c (by first | trivial | assumption) r.2.2.2.2.2))
theorem sg_istore (B : am_B A D ty a0 a1 N xs p l R s m args meth c mi) {i : Nat} {x : Int32} (hi : i < am_n mi) (hd : decode (am_b mi) pc = .ok (.istore i, 2)) (k : am_Go A D ty a0 a1 N xs p l e R s m args below meth c mi adb nb c0 s0 Q (pc + 2) (am_st L i (.int x)) st h) : am_Go A D ty a0 a1 N xs p l e R s m args below meth c mi adb nb c0 s0 Q pc L (.int x :: st) h := by
  intro ad H locs ls hag h1 h2 h3 r
  obtain ⟨rh, rs, ⟨lv, hl, hr⟩, rn, rL, rst⟩ := r
  refine lv_istore B.1 B.2.1 hd hl hi rfl (fun ls' hl' => ?_)
  exact k ad H locs ls' hag h1 h2 h3 ⟨rh, rs, ⟨_, hl', hr.st i (.int x)⟩, by rw [am_st_len]; exact rn, am_vo_st rL i (vo_h rst), vo_t rst⟩
theorem sg_istore_n (B : am_B A D ty a0 a1 N xs p l R s m args meth c mi) {i : Fin 4} {x : Int32} (hi : i.val < am_n mi) (hd : decode (am_b mi) pc = .ok (.istore_n i, 1)) (k : am_Go A D ty a0 a1 N xs p l e R s m args below meth c mi adb nb c0 s0 Q (pc + 1) (am_st L i.val (.int x)) st h) : am_Go A D ty a0 a1 N xs p l e R s m args below meth c mi adb nb c0 s0 Q pc L (.int x :: st) h := by
  intro ad H locs ls hag h1 h2 h3 r
  obtain ⟨rh, rs, ⟨lv, hl, hr⟩, rn, rL, rst⟩ := r
  refine lv_istore_n B.1 B.2.1 hd rfl hl hi rfl (fun ls' hl' => ?_)
  exact k ad H locs ls' hag h1 h2 h3 ⟨rh, rs, ⟨_, hl', hr.st i.val (.int x)⟩, by rw [am_st_len]; exact rn, am_vo_st rL i.val (vo_h rst), vo_t rst⟩
theorem sg_lstore (B : am_B A D ty a0 a1 N xs p l R s m args meth c mi) {i : Nat} {x : Int64} (hi : i + 1 < am_n mi) (hd : decode (am_b mi) pc = .ok (.lstore i, 2)) (k : am_Go A D ty a0 a1 N xs p l e R s m args below meth c mi adb nb c0 s0 Q (pc + 2) (am_s2 L i (.long x)) st h) : am_Go A D ty a0 a1 N xs p l e R s m args below meth c mi adb nb c0 s0 Q pc L (.long x :: st) h := by
  intro ad H locs ls hag h1 h2 h3 r
  obtain ⟨rh, rs, ⟨lv, hl, hr⟩, rn, rL, rst⟩ := r
  refine lv_lstore B.1 B.2.1 hd hl hi rfl (fun ls' hl' => ?_)
  exact k ad H locs ls' hag h1 h2 h3 ⟨rh, rs, ⟨_, hl', hr.s2 i (.long x)⟩, by rw [am_s2_len]; exact rn, am_vo_s2 rL i (vo_h rst), vo_t rst⟩
theorem sg_lstore_n (B : am_B A D ty a0 a1 N xs p l R s m args meth c mi) {i : Fin 4} {x : Int64} (hi : i.val + 1 < am_n mi) (hd : decode (am_b mi) pc = .ok (.lstore_n i, 1)) (k : am_Go A D ty a0 a1 N xs p l e R s m args below meth c mi adb nb c0 s0 Q (pc + 1) (am_s2 L i.val (.long x)) st h) : am_Go A D ty a0 a1 N xs p l e R s m args below meth c mi adb nb c0 s0 Q pc L (.long x :: st) h := by
  intro ad H locs ls hag h1 h2 h3 r
  obtain ⟨rh, rs, ⟨lv, hl, hr⟩, rn, rL, rst⟩ := r
  refine lv_lstore_n B.1 B.2.1 hd rfl hl hi rfl (fun ls' hl' => ?_)
  exact k ad H locs ls' hag h1 h2 h3 ⟨rh, rs, ⟨_, hl', hr.s2 i.val (.long x)⟩, by rw [am_s2_len]; exact rn, am_vo_s2 rL i.val (vo_h rst), vo_t rst⟩
theorem sg_fstore (B : am_B A D ty a0 a1 N xs p l R s m args meth c mi) {i : Nat} {x : UInt32} (hi : i < am_n mi) (hd : decode (am_b mi) pc = .ok (.fstore i, 2)) (k : am_Go A D ty a0 a1 N xs p l e R s m args below meth c mi adb nb c0 s0 Q (pc + 2) (am_st L i (.float x)) st h) : am_Go A D ty a0 a1 N xs p l e R s m args below meth c mi adb nb c0 s0 Q pc L (.float x :: st) h := by
  intro ad H locs ls hag h1 h2 h3 r
  obtain ⟨rh, rs, ⟨lv, hl, hr⟩, rn, rL, rst⟩ := r
  refine lv_fstore B.1 B.2.1 hd hl hi rfl (fun ls' hl' => ?_)
  exact k ad H locs ls' hag h1 h2 h3 ⟨rh, rs, ⟨_, hl', hr.st i (.float x)⟩, by rw [am_st_len]; exact rn, am_vo_st rL i (vo_h rst), vo_t rst⟩
theorem sg_fstore_n (B : am_B A D ty a0 a1 N xs p l R s m args meth c mi) {i : Fin 4} {x : UInt32} (hi : i.val < am_n mi) (hd : decode (am_b mi) pc = .ok (.fstore_n i, 1)) (k : am_Go A D ty a0 a1 N xs p l e R s m args below meth c mi adb nb c0 s0 Q (pc + 1) (am_st L i.val (.float x)) st h) : am_Go A D ty a0 a1 N xs p l e R s m args below meth c mi adb nb c0 s0 Q pc L (.float x :: st) h := by
  intro ad H locs ls hag h1 h2 h3 r
  obtain ⟨rh, rs, ⟨lv, hl, hr⟩, rn, rL, rst⟩ := r
  refine lv_fstore_n B.1 B.2.1 hd rfl hl hi rfl (fun ls' hl' => ?_)
  exact k ad H locs ls' hag h1 h2 h3 ⟨rh, rs, ⟨_, hl', hr.st i.val (.float x)⟩, by rw [am_st_len]; exact rn, am_vo_st rL i.val (vo_h rst), vo_t rst⟩
theorem sg_dstore (B : am_B A D ty a0 a1 N xs p l R s m args meth c mi) {i : Nat} {x : UInt64} (hi : i + 1 < am_n mi) (hd : decode (am_b mi) pc = .ok (.dstore i, 2)) (k : am_Go A D ty a0 a1 N xs p l e R s m args below meth c mi adb nb c0 s0 Q (pc + 2) (am_s2 L i (.double x)) st h) : am_Go A D ty a0 a1 N xs p l e R s m args below meth c mi adb nb c0 s0 Q pc L (.double x :: st) h := by
  intro ad H locs ls hag h1 h2 h3 r
  obtain ⟨rh, rs, ⟨lv, hl, hr⟩, rn, rL, rst⟩ := r
  refine lv_dstore B.1 B.2.1 hd hl hi rfl (fun ls' hl' => ?_)
  exact k ad H locs ls' hag h1 h2 h3 ⟨rh, rs, ⟨_, hl', hr.s2 i (.double x)⟩, by rw [am_s2_len]; exact rn, am_vo_s2 rL i (vo_h rst), vo_t rst⟩
theorem sg_dstore_n (B : am_B A D ty a0 a1 N xs p l R s m args meth c mi) {i : Fin 4} {x : UInt64} (hi : i.val + 1 < am_n mi) (hd : decode (am_b mi) pc = .ok (.dstore_n i, 1)) (k : am_Go A D ty a0 a1 N xs p l e R s m args below meth c mi adb nb c0 s0 Q (pc + 1) (am_s2 L i.val (.double x)) st h) : am_Go A D ty a0 a1 N xs p l e R s m args below meth c mi adb nb c0 s0 Q pc L (.double x :: st) h := by
  intro ad H locs ls hag h1 h2 h3 r
  obtain ⟨rh, rs, ⟨lv, hl, hr⟩, rn, rL, rst⟩ := r
  refine lv_dstore_n B.1 B.2.1 hd rfl hl hi rfl (fun ls' hl' => ?_)
  exact k ad H locs ls' hag h1 h2 h3 ⟨rh, rs, ⟨_, hl', hr.s2 i.val (.double x)⟩, by rw [am_s2_len]; exact rn, am_vo_s2 rL i.val (vo_h rst), vo_t rst⟩
theorem sg_astore (B : am_B A D ty a0 a1 N xs p l R s m args meth c mi) {i : Nat} {x : Nat} (hi : i < am_n mi) (hd : decode (am_b mi) pc = .ok (.astore i, 2)) (k : am_Go A D ty a0 a1 N xs p l e R s m args below meth c mi adb nb c0 s0 Q (pc + 2) (am_st L i (.ref x)) st h) : am_Go A D ty a0 a1 N xs p l e R s m args below meth c mi adb nb c0 s0 Q pc L (.ref x :: st) h := by
  intro ad H locs ls hag h1 h2 h3 r
  obtain ⟨rh, rs, ⟨lv, hl, hr⟩, rn, rL, rst⟩ := r
  refine lv_astore B.1 B.2.1 hd hl hi rfl (fun ls' hl' => ?_)
  exact k ad H locs ls' hag h1 h2 h3 ⟨rh, rs, ⟨_, hl', hr.st i (.ref x)⟩, by rw [am_st_len]; exact rn, am_vo_st rL i (vo_h rst), vo_t rst⟩
theorem sg_astore_n (B : am_B A D ty a0 a1 N xs p l R s m args meth c mi) {i : Fin 4} {x : Nat} (hi : i.val < am_n mi) (hd : decode (am_b mi) pc = .ok (.astore_n i, 1)) (k : am_Go A D ty a0 a1 N xs p l e R s m args below meth c mi adb nb c0 s0 Q (pc + 1) (am_st L i.val (.ref x)) st h) : am_Go A D ty a0 a1 N xs p l e R s m args below meth c mi adb nb c0 s0 Q pc L (.ref x :: st) h := by
  intro ad H locs ls hag h1 h2 h3 r
  obtain ⟨rh, rs, ⟨lv, hl, hr⟩, rn, rL, rst⟩ := r
  refine lv_astore_n B.1 B.2.1 hd rfl hl hi rfl (fun ls' hl' => ?_)
  exact k ad H locs ls' hag h1 h2 h3 ⟨rh, rs, ⟨_, hl', hr.st i.val (.ref x)⟩, by rw [am_st_len]; exact rn, am_vo_st rL i.val (vo_h rst), vo_t rst⟩
theorem sg_astoreN (B : am_B A D ty a0 a1 N xs p l R s m args meth c mi) {i : Nat} (hi : i < am_n mi) (hd : decode (am_b mi) pc = .ok (.astore i, 2)) (k : am_Go A D ty a0 a1 N xs p l e R s m args below meth c mi adb nb c0 s0 Q (pc + 2) (am_st L i (.null)) st h) : am_Go A D ty a0 a1 N xs p l e R s m args below meth c mi adb nb c0 s0 Q pc L (.null :: st) h := by
  intro ad H locs ls hag h1 h2 h3 r
  obtain ⟨rh, rs, ⟨lv, hl, hr⟩, rn, rL, rst⟩ := r
  refine lv_astoreN B.1 B.2.1 hd hl hi rfl (fun ls' hl' => ?_)
  exact k ad H locs ls' hag h1 h2 h3 ⟨rh, rs, ⟨_, hl', hr.st i (.null)⟩, by rw [am_st_len]; exact rn, am_vo_st rL i (vo_h rst), vo_t rst⟩
theorem sg_astore_nN (B : am_B A D ty a0 a1 N xs p l R s m args meth c mi) {i : Fin 4} (hi : i.val < am_n mi) (hd : decode (am_b mi) pc = .ok (.astore_n i, 1)) (k : am_Go A D ty a0 a1 N xs p l e R s m args below meth c mi adb nb c0 s0 Q (pc + 1) (am_st L i.val (.null)) st h) : am_Go A D ty a0 a1 N xs p l e R s m args below meth c mi adb nb c0 s0 Q pc L (.null :: st) h := by
  intro ad H locs ls hag h1 h2 h3 r
  obtain ⟨rh, rs, ⟨lv, hl, hr⟩, rn, rL, rst⟩ := r
  refine lv_astore_nN B.1 B.2.1 hd rfl hl hi rfl (fun ls' hl' => ?_)
  exact k ad H locs ls' hag h1 h2 h3 ⟨rh, rs, ⟨_, hl', hr.st i.val (.null)⟩, by rw [am_st_len]; exact rn, am_vo_st rL i.val (vo_h rst), vo_t rst⟩
theorem sg_iinc (B : am_B A D ty a0 a1 N xs p l R s m args meth c mi) {i : Nat} {n : Int} {x v : Int32} (hL : L[i]? = some (.int x)) (hv : x + Int32.ofInt n = v) (hi : i < am_n mi) (hd : decode (am_b mi) pc = .ok (.iinc i n, 3)) (k : am_Go A D ty a0 a1 N xs p l e R s m args below meth c mi adb nb c0 s0 Q (pc + 3) (am_st L i (.int v)) st h) : am_Go A D ty a0 a1 N xs p l e R s m args below meth c mi adb nb c0 s0 Q pc L st h := by
  intro ad H locs ls hag h1 h2 h3 r
  obtain ⟨rh, rs, ⟨lv, hl, hr⟩, rn, rL, rst⟩ := r
  have hm : (i, Value.int x) ∈ lv := hr i _ hL (by simp)
  obtain ⟨j, hj⟩ := List.getElem?_of_mem hm
  refine lv_iinc B.1 B.2.1 hd hl (k := j) hj hv hi rfl (fun ls' hl' => ?_)
  exact k ad H locs ls' hag h1 h2 h3 ⟨rh, rs, ⟨_, hl', hr.st i (.int v)⟩, by rw [am_st_len]; exact rn, am_vo_st rL i trivial, rst⟩
theorem sg_if_eq (B : am_B A D ty a0 a1 N xs p l R s m args meth c mi) {x : Int32} {off : Int} {tgt : Nat} (ht : (pc : Int) + off = (tgt : Int)) (hd : decode (am_b mi) pc = .ok (.ifCond .eq off, 3)) (kt : x = 0 → am_Go A D ty a0 a1 N xs p l e R s m args below meth c mi adb nb c0 s0 Q tgt L st h) (kf : ¬ x = 0 → am_Go A D ty a0 a1 N xs p l e R s m args below meth c mi adb nb c0 s0 Q (pc + 3) L st h) : am_Go A D ty a0 a1 N xs p l e R s m args below meth c mi adb nb c0 s0 Q pc L (.int x :: st) h := by
  intro ad H locs ls hag h1 h2 h3 r
  exact lv_if_eq B.1 B.2.1 hd ht (fun q => kt q ad H locs ls hag h1 h2 h3 (r.stk (vo_t r.2.2.2.2.2))) (fun q => kf q ad H locs ls hag h1 h2 h3 (r.stk (vo_t r.2.2.2.2.2)))
theorem sg_if_ne (B : am_B A D ty a0 a1 N xs p l R s m args meth c mi) {x : Int32} {off : Int} {tgt : Nat} (ht : (pc : Int) + off = (tgt : Int)) (hd : decode (am_b mi) pc = .ok (.ifCond .ne off, 3)) (kt : x ≠ 0 → am_Go A D ty a0 a1 N xs p l e R s m args below meth c mi adb nb c0 s0 Q tgt L st h) (kf : ¬ (x ≠ 0) → am_Go A D ty a0 a1 N xs p l e R s m args below meth c mi adb nb c0 s0 Q (pc + 3) L st h) : am_Go A D ty a0 a1 N xs p l e R s m args below meth c mi adb nb c0 s0 Q pc L (.int x :: st) h := by
  intro ad H locs ls hag h1 h2 h3 r
  exact lv_if_ne B.1 B.2.1 hd ht (fun q => kt q ad H locs ls hag h1 h2 h3 (r.stk (vo_t r.2.2.2.2.2))) (fun q => kf (fun z => z q) ad H locs ls hag h1 h2 h3 (r.stk (vo_t r.2.2.2.2.2)))
theorem sg_if_lt (B : am_B A D ty a0 a1 N xs p l R s m args meth c mi) {x : Int32} {off : Int} {tgt : Nat} (ht : (pc : Int) + off = (tgt : Int)) (hd : decode (am_b mi) pc = .ok (.ifCond .lt off, 3)) (kt : x < 0 → am_Go A D ty a0 a1 N xs p l e R s m args below meth c mi adb nb c0 s0 Q tgt L st h) (kf : ¬ x < 0 → am_Go A D ty a0 a1 N xs p l e R s m args below meth c mi adb nb c0 s0 Q (pc + 3) L st h) : am_Go A D ty a0 a1 N xs p l e R s m args below meth c mi adb nb c0 s0 Q pc L (.int x :: st) h := by
  intro ad H locs ls hag h1 h2 h3 r
  exact lv_if_lt B.1 B.2.1 hd ht (fun q => kt q ad H locs ls hag h1 h2 h3 (r.stk (vo_t r.2.2.2.2.2))) (fun q => kf q ad H locs ls hag h1 h2 h3 (r.stk (vo_t r.2.2.2.2.2)))
theorem sg_if_ge (B : am_B A D ty a0 a1 N xs p l R s m args meth c mi) {x : Int32} {off : Int} {tgt : Nat} (ht : (pc : Int) + off = (tgt : Int)) (hd : decode (am_b mi) pc = .ok (.ifCond .ge off, 3)) (kt : 0 ≤ x → am_Go A D ty a0 a1 N xs p l e R s m args below meth c mi adb nb c0 s0 Q tgt L st h) (kf : ¬ 0 ≤ x → am_Go A D ty a0 a1 N xs p l e R s m args below meth c mi adb nb c0 s0 Q (pc + 3) L st h) : am_Go A D ty a0 a1 N xs p l e R s m args below meth c mi adb nb c0 s0 Q pc L (.int x :: st) h := by
  intro ad H locs ls hag h1 h2 h3 r
  exact lv_if_ge B.1 B.2.1 hd ht (fun q => kt q ad H locs ls hag h1 h2 h3 (r.stk (vo_t r.2.2.2.2.2))) (fun q => kf q ad H locs ls hag h1 h2 h3 (r.stk (vo_t r.2.2.2.2.2)))
theorem sg_if_gt (B : am_B A D ty a0 a1 N xs p l R s m args meth c mi) {x : Int32} {off : Int} {tgt : Nat} (ht : (pc : Int) + off = (tgt : Int)) (hd : decode (am_b mi) pc = .ok (.ifCond .gt off, 3)) (kt : 0 < x → am_Go A D ty a0 a1 N xs p l e R s m args below meth c mi adb nb c0 s0 Q tgt L st h) (kf : ¬ 0 < x → am_Go A D ty a0 a1 N xs p l e R s m args below meth c mi adb nb c0 s0 Q (pc + 3) L st h) : am_Go A D ty a0 a1 N xs p l e R s m args below meth c mi adb nb c0 s0 Q pc L (.int x :: st) h := by
  intro ad H locs ls hag h1 h2 h3 r
  exact lv_if_gt B.1 B.2.1 hd ht (fun q => kt q ad H locs ls hag h1 h2 h3 (r.stk (vo_t r.2.2.2.2.2))) (fun q => kf q ad H locs ls hag h1 h2 h3 (r.stk (vo_t r.2.2.2.2.2)))
theorem sg_if_le (B : am_B A D ty a0 a1 N xs p l R s m args meth c mi) {x : Int32} {off : Int} {tgt : Nat} (ht : (pc : Int) + off = (tgt : Int)) (hd : decode (am_b mi) pc = .ok (.ifCond .le off, 3)) (kt : x ≤ 0 → am_Go A D ty a0 a1 N xs p l e R s m args below meth c mi adb nb c0 s0 Q tgt L st h) (kf : ¬ x ≤ 0 → am_Go A D ty a0 a1 N xs p l e R s m args below meth c mi adb nb c0 s0 Q (pc + 3) L st h) : am_Go A D ty a0 a1 N xs p l e R s m args below meth c mi adb nb c0 s0 Q pc L (.int x :: st) h := by
  intro ad H locs ls hag h1 h2 h3 r
  exact lv_if_le B.1 B.2.1 hd ht (fun q => kt q ad H locs ls hag h1 h2 h3 (r.stk (vo_t r.2.2.2.2.2))) (fun q => kf q ad H locs ls hag h1 h2 h3 (r.stk (vo_t r.2.2.2.2.2)))
theorem sg_icmp_eq (B : am_B A D ty a0 a1 N xs p l R s m args meth c mi) {x y : Int32} {off : Int} {tgt : Nat} (ht : (pc : Int) + off = (tgt : Int)) (hd : decode (am_b mi) pc = .ok (.if_icmp .eq off, 3)) (kt : x = y → am_Go A D ty a0 a1 N xs p l e R s m args below meth c mi adb nb c0 s0 Q tgt L st h) (kf : ¬ x = y → am_Go A D ty a0 a1 N xs p l e R s m args below meth c mi adb nb c0 s0 Q (pc + 3) L st h) : am_Go A D ty a0 a1 N xs p l e R s m args below meth c mi adb nb c0 s0 Q pc L (.int y :: .int x :: st) h := by
  intro ad H locs ls hag h1 h2 h3 r
  exact lv_icmp_eq B.1 B.2.1 hd ht (fun q => kt q ad H locs ls hag h1 h2 h3 (r.stk (vo_t (vo_t r.2.2.2.2.2)))) (fun q => kf q ad H locs ls hag h1 h2 h3 (r.stk (vo_t (vo_t r.2.2.2.2.2))))
theorem sg_icmp_ne (B : am_B A D ty a0 a1 N xs p l R s m args meth c mi) {x y : Int32} {off : Int} {tgt : Nat} (ht : (pc : Int) + off = (tgt : Int)) (hd : decode (am_b mi) pc = .ok (.if_icmp .ne off, 3)) (kt : x ≠ y → am_Go A D ty a0 a1 N xs p l e R s m args below meth c mi adb nb c0 s0 Q tgt L st h) (kf : ¬ (x ≠ y) → am_Go A D ty a0 a1 N xs p l e R s m args below meth c mi adb nb c0 s0 Q (pc + 3) L st h) : am_Go A D ty a0 a1 N xs p l e R s m args below meth c mi adb nb c0 s0 Q pc L (.int y :: .int x :: st) h := by
  intro ad H locs ls hag h1 h2 h3 r
  exact lv_icmp_ne B.1 B.2.1 hd ht (fun q => kt q ad H locs ls hag h1 h2 h3 (r.stk (vo_t (vo_t r.2.2.2.2.2)))) (fun q => kf (fun z => z q) ad H locs ls hag h1 h2 h3 (r.stk (vo_t (vo_t r.2.2.2.2.2))))
theorem sg_icmp_lt (B : am_B A D ty a0 a1 N xs p l R s m args meth c mi) {x y : Int32} {off : Int} {tgt : Nat} (ht : (pc : Int) + off = (tgt : Int)) (hd : decode (am_b mi) pc = .ok (.if_icmp .lt off, 3)) (kt : x < y → am_Go A D ty a0 a1 N xs p l e R s m args below meth c mi adb nb c0 s0 Q tgt L st h) (kf : ¬ x < y → am_Go A D ty a0 a1 N xs p l e R s m args below meth c mi adb nb c0 s0 Q (pc + 3) L st h) : am_Go A D ty a0 a1 N xs p l e R s m args below meth c mi adb nb c0 s0 Q pc L (.int y :: .int x :: st) h := by
  intro ad H locs ls hag h1 h2 h3 r
  exact lv_icmp_lt B.1 B.2.1 hd ht (fun q => kt q ad H locs ls hag h1 h2 h3 (r.stk (vo_t (vo_t r.2.2.2.2.2)))) (fun q => kf q ad H locs ls hag h1 h2 h3 (r.stk (vo_t (vo_t r.2.2.2.2.2))))
theorem sg_icmp_ge (B : am_B A D ty a0 a1 N xs p l R s m args meth c mi) {x y : Int32} {off : Int} {tgt : Nat} (ht : (pc : Int) + off = (tgt : Int)) (hd : decode (am_b mi) pc = .ok (.if_icmp .ge off, 3)) (kt : y ≤ x → am_Go A D ty a0 a1 N xs p l e R s m args below meth c mi adb nb c0 s0 Q tgt L st h) (kf : ¬ y ≤ x → am_Go A D ty a0 a1 N xs p l e R s m args below meth c mi adb nb c0 s0 Q (pc + 3) L st h) : am_Go A D ty a0 a1 N xs p l e R s m args below meth c mi adb nb c0 s0 Q pc L (.int y :: .int x :: st) h := by
  intro ad H locs ls hag h1 h2 h3 r
  exact lv_icmp_ge B.1 B.2.1 hd ht (fun q => kt q ad H locs ls hag h1 h2 h3 (r.stk (vo_t (vo_t r.2.2.2.2.2)))) (fun q => kf q ad H locs ls hag h1 h2 h3 (r.stk (vo_t (vo_t r.2.2.2.2.2))))
theorem sg_icmp_gt (B : am_B A D ty a0 a1 N xs p l R s m args meth c mi) {x y : Int32} {off : Int} {tgt : Nat} (ht : (pc : Int) + off = (tgt : Int)) (hd : decode (am_b mi) pc = .ok (.if_icmp .gt off, 3)) (kt : y < x → am_Go A D ty a0 a1 N xs p l e R s m args below meth c mi adb nb c0 s0 Q tgt L st h) (kf : ¬ y < x → am_Go A D ty a0 a1 N xs p l e R s m args below meth c mi adb nb c0 s0 Q (pc + 3) L st h) : am_Go A D ty a0 a1 N xs p l e R s m args below meth c mi adb nb c0 s0 Q pc L (.int y :: .int x :: st) h := by
  intro ad H locs ls hag h1 h2 h3 r
  exact lv_icmp_gt B.1 B.2.1 hd ht (fun q => kt q ad H locs ls hag h1 h2 h3 (r.stk (vo_t (vo_t r.2.2.2.2.2)))) (fun q => kf q ad H locs ls hag h1 h2 h3 (r.stk (vo_t (vo_t r.2.2.2.2.2))))
theorem sg_icmp_le (B : am_B A D ty a0 a1 N xs p l R s m args meth c mi) {x y : Int32} {off : Int} {tgt : Nat} (ht : (pc : Int) + off = (tgt : Int)) (hd : decode (am_b mi) pc = .ok (.if_icmp .le off, 3)) (kt : x ≤ y → am_Go A D ty a0 a1 N xs p l e R s m args below meth c mi adb nb c0 s0 Q tgt L st h) (kf : ¬ x ≤ y → am_Go A D ty a0 a1 N xs p l e R s m args below meth c mi adb nb c0 s0 Q (pc + 3) L st h) : am_Go A D ty a0 a1 N xs p l e R s m args below meth c mi adb nb c0 s0 Q pc L (.int y :: .int x :: st) h := by
  intro ad H locs ls hag h1 h2 h3 r
  exact lv_icmp_le B.1 B.2.1 hd ht (fun q => kt q ad H locs ls hag h1 h2 h3 (r.stk (vo_t (vo_t r.2.2.2.2.2)))) (fun q => kf q ad H locs ls hag h1 h2 h3 (r.stk (vo_t (vo_t r.2.2.2.2.2))))
theorem sg_goto (B : am_B A D ty a0 a1 N xs p l R s m args meth c mi) {off : Int} {tgt : Nat} (ht : (pc : Int) + off = (tgt : Int)) (hd : decode (am_b mi) pc = .ok (.goto off, 3)) (k : am_Go A D ty a0 a1 N xs p l e R s m args below meth c mi adb nb c0 s0 Q tgt L st h) : am_Go A D ty a0 a1 N xs p l e R s m args below meth c mi adb nb c0 s0 Q pc L st h := by
  intro ad H locs ls hag h1 h2 h3 r
  exact lv_goto B.1 B.2.1 hd ht (k ad H locs ls hag h1 h2 h3 r)
theorem sg_ifnull (B : am_B A D ty a0 a1 N xs p l R s m args meth c mi) {a : Nat} {off : Int} (hd : decode (am_b mi) pc = .ok (.ifnull off, 3)) (k : am_Go A D ty a0 a1 N xs p l e R s m args below meth c mi adb nb c0 s0 Q (pc + 3) L st h) : am_Go A D ty a0 a1 N xs p l e R s m args below meth c mi adb nb c0 s0 Q pc L (.ref a :: st) h := by
  intro ad H locs ls hag h1 h2 h3 r
  exact lv_ifnull B.1 B.2.1 hd (k ad H locs ls hag h1 h2 h3 (r.stk (vo_t r.2.2.2.2.2)))
theorem sg_ifnullN (B : am_B A D ty a0 a1 N xs p l R s m args meth c mi) {off : Int} {tgt : Nat} (ht : (pc : Int) + off = (tgt : Int)) (hd : decode (am_b mi) pc = .ok (.ifnull off, 3)) (k : am_Go A D ty a0 a1 N xs p l e R s m args below meth c mi adb nb c0 s0 Q tgt L st h) : am_Go A D ty a0 a1 N xs p l e R s m args below meth c mi adb nb c0 s0 Q pc L (.null :: st) h := by
  intro ad H locs ls hag h1 h2 h3 r
  exact lv_ifnullN B.1 B.2.1 hd ht (k ad H locs ls hag h1 h2 h3 (r.stk (vo_t r.2.2.2.2.2)))
theorem sg_ifnonnull (B : am_B A D ty a0 a1 N xs p l R s m args meth c mi) {a : Nat} {off : Int} {tgt : Nat} (ht : (pc : Int) + off = (tgt : Int)) (hd : decode (am_b mi) pc = .ok (.ifnonnull off, 3)) (k : am_Go A D ty a0 a1 N xs p l e R s m args below meth c mi adb nb c0 s0 Q tgt L st h) : am_Go A D ty a0 a1 N xs p l e R s m args below meth c mi adb nb c0 s0 Q pc L (.ref a :: st) h := by
  intro ad H locs ls hag h1 h2 h3 r
  exact lv_ifnonnull B.1 B.2.1 hd ht (k ad H locs ls hag h1 h2 h3 (r.stk (vo_t r.2.2.2.2.2)))
theorem sg_ifnonnullN (B : am_B A D ty a0 a1 N xs p l R s m args meth c mi) {off : Int} (hd : decode (am_b mi) pc = .ok (.ifnonnull off, 3)) (k : am_Go A D ty a0 a1 N xs p l e R s m args below meth c mi adb nb c0 s0 Q (pc + 3) L st h) : am_Go A D ty a0 a1 N xs p l e R s m args below meth c mi adb nb c0 s0 Q pc L (.null :: st) h := by
  intro ad H locs ls hag h1 h2 h3 r
  exact lv_ifnonnullN B.1 B.2.1 hd (k ad H locs ls hag h1 h2 h3 (r.stk (vo_t r.2.2.2.2.2)))
theorem sg_lookup (B : am_B A D ty a0 a1 N xs p l R s m args meth c mi) {d : Int} {ps : Array (Int × Int)} {len : Nat} {x : Int32} {tgt : Nat} (hp : ((ps.toList.zip (ps.toList.drop 1)).all fun q => decide (q.1.1 < q.2.1)) = true) (ht : (pc : Int) + Op.lookupswitch.offset ps.toList d x.toInt = (tgt : Int)) (hd : decode (am_b mi) pc = .ok (.lookupswitch d ps, len)) (k : am_Go A D ty a0 a1 N xs p l e R s m args below meth c mi adb nb c0 s0 Q tgt L st h) : am_Go A D ty a0 a1 N xs p l e R s m args below meth c mi adb nb c0 s0 Q pc L (.int x :: st) h := by
  intro ad H locs ls hag h1 h2 h3 r
  exact lv_lookup B.1 B.2.1 hd hp rfl ht (k ad H locs ls hag h1 h2 h3 (r.stk (vo_t r.2.2.2.2.2)))
theorem sg_swOut (B : am_B A D ty a0 a1 N xs p l R s m args meth c mi) {d lo hi : Int} {offs : Array Int} {len : Nat} {x : Int32} {tgt : Nat} (hx : x.toInt < lo ∨ hi < x.toInt) (ht : (pc : Int) + d = (tgt : Int)) (hd : decode (am_b mi) pc = .ok (.tableswitch d lo hi offs, len)) (k : am_Go A D ty a0 a1 N xs p l e R s m args below meth c mi adb nb c0 s0 Q tgt L st h) : am_Go A D ty a0 a1 N xs p l e R s m args below meth c mi adb nb c0 s0 Q pc L (.int x :: st) h := by
  intro ad H locs ls hag h1 h2 h3 r
  exact lv_tableOut B.1 B.2.1 hd hx ht (k ad H locs ls hag h1 h2 h3 (r.stk (vo_t r.2.2.2.2.2)))
theorem sg_swIn (B : am_B A D ty a0 a1 N xs p l R s m args meth c mi) {d lo hi : Int} {offs : Array Int} {len : Nat} {x : Int32} {off : Int} {tgt : Nat} (hx : ¬ (x.toInt < lo ∨ hi < x.toInt)) (ho : offs[(x.toInt - lo).toNat]? = some off) (ht : (pc : Int) + off = (tgt : Int)) (hd : decode (am_b mi) pc = .ok (.tableswitch d lo hi offs, len)) (k : am_Go A D ty a0 a1 N xs p l e R s m args below meth c mi adb nb c0 s0 Q tgt L st h) : am_Go A D ty a0 a1 N xs p l e R s m args below meth c mi adb nb c0 s0 Q pc L (.int x :: st) h := by
  intro ad H locs ls hag h1 h2 h3 r
  exact lv_tableIn B.1 B.2.1 hd (fun q => hx (Or.inl q)) (fun q => hx (Or.inr q)) ho ht (k ad H locs ls hag h1 h2 h3 (r.stk (vo_t r.2.2.2.2.2)))
theorem sg_dup (B : am_B A D ty a0 a1 N xs p l R s m args meth c mi) {v : Value} (hv : v.category = 1) (hd : decode (am_b mi) pc = .ok (.dup, 1)) (k : am_Go A D ty a0 a1 N xs p l e R s m args below meth c mi adb nb c0 s0 Q (pc + 1) L (v :: v :: st) h) : am_Go A D ty a0 a1 N xs p l e R s m args below meth c mi adb nb c0 s0 Q pc L (v :: st) h := by
  intro ad H locs ls hag h1 h2 h3 r
  refine lv_dup B.1 B.2.1 hd (by rw [am_cv_cat]; exact hv) ?_
  exact k ad H locs ls hag h1 h2 h3 (r.stk (vo_c (vo_h r.2.2.2.2.2) r.2.2.2.2.2))
theorem sg_dup2 (B : am_B A D ty a0 a1 N xs p l R s m args meth c mi) {v w : Value} (hv : v.category = 1) (hw : w.category = 1) (hd : decode (am_b mi) pc = .ok (.dup2, 1)) (k : am_Go A D ty a0 a1 N xs p l e R s m args below meth c mi adb nb c0 s0 Q (pc + 1) L (w :: v :: w :: v :: st) h) : am_Go A D ty a0 a1 N xs p l e R s m args below meth c mi adb nb c0 s0 Q pc L (w :: v :: st) h := by
  intro ad H locs ls hag h1 h2 h3 r
  refine lv_dup2_11 B.1 B.2.1 hd (by rw [am_cv_cat]; exact hw) (by rw [am_cv_cat]; exact hv) ?_
  exact k ad H locs ls hag h1 h2 h3 (r.stk (vo_c (vo_h r.2.2.2.2.2) (vo_c (vo_h (vo_t r.2.2.2.2.2)) r.2.2.2.2.2)))
end AGO
