/-! ===== what is checked of each instruction of the tables ===== -/
def am_exn (x : Nat) : String := ["java/lang/IllegalArgumentException", "java/lang/IndexOutOfBoundsException", "java/lang/IllegalStateException", "java/lang/UnsupportedOperationException", "java/util/NoSuchElementException", "java/lang/ArithmeticException"].getD x ""
/-- a method of the system, as a callee -/
def am_mOK (mj : Nat) : Prop :=
  ((am_h mj = [] ∧ am_hl mj = [] ∧ Jvm.Cond.code (am_y mj) (am_b mj) (am_n mj) (am_r mj) ∈ am_ok) ∨ (am_h mj ≠ [] ∧ Jvm.Cond.codeWith (am_y mj) (am_b mj) (am_n mj) (am_r mj) (am_h mj) ∈ am_ok)) ∧
  Jvm.Cond.initialized (am_y mj).cls ∈ am_ok ∧ ((am_y mj).cls ≠ "java/lang/invoke/MethodHandle" ∧ (am_y mj).cls ≠ "java/lang/invoke/VarHandle" ∧ (parseMethodDescriptor (am_y mj).desc).map (fun d => d.parameters.length) = some (am_np mj)) ∧
  am_o mj = (am_y mj).cls ∧ plainName (am_y mj).cls = true ∧ am_sz (am_sg mj) ≤ am_n mj ∧ am_n mj ≤ 24 ∧ mj ≠ m_L_law
/-- the handlers of a method that has some, at one of its calls -/
def am_hOK (m pc : Nat) : Prop := ∀ x pc' i, am_hd m x = some (pc', i) → ∃ (pre : List ExceptionTableEntry) (z : ExceptionTableEntry) (suf : List ExceptionTableEntry) (name : String),
  tableOf (am_h m) = pre ++ z :: suf ∧ (∀ z' ∈ pre, covers z' pc = false ∨ (z'.catchType ≠ 0 ∧ ∃ nm : String, Jvm.Cond.classLink (am_o m) z'.catchType nm ∈ am_ok ∧ (am_exn x, nm) ∈ am_ncs)) ∧ covers z pc = true ∧ z.catchType ≠ 0 ∧
  Jvm.Cond.classLink (am_o m) z.catchType name ∈ am_ok ∧ Jvm.Cond.castable (am_exn x) name ∈ am_ok ∧ i < am_n m ∧
  ((decode (am_b m) z.handlerPc = .ok (.astore i, 2) ∧ pc' = z.handlerPc + 2) ∨ ∃ j : Fin 4, decode (am_b m) z.handlerPc = .ok (.astore_n j, 1) ∧ i = j.val ∧ pc' = z.handlerPc + 1)
def am_lk (m ix mj : Nat) : Prop := Jvm.Cond.methodLink (am_o m) ix (am_y mj) ∈ am_ok ∨ ∃ host, Jvm.Cond.methodLinkNest (am_o m) ix (am_y mj) host ∈ am_ok
def am_thr (m pc ix x : Nat) : Prop := ∃ (is ic : Nat) (text : String) (names : List String) (jx : Nat) (rx : ByteArray),
  Jvm.Cond.classLink (am_o m) ix (am_exn x) ∈ am_ok ∧ Jvm.Cond.initialized (am_exn x) ∈ am_ok ∧ (am_o m, is, text) ∈ am_strs ∧ (∀ w ∈ vx_atX (am_o m) ic (am_exn x) jx rx names, w ∈ am_ok ∧ vx_ot w = true) ∧ Bundle.fit (am_exn x) = true ∧ (∀ n ∈ names, Bundle.fit n = true) ∧
  names.length = 2 ∧ am_h m = [] ∧ 8 ≤ am_d m ∧ m ≠ m_L_law ∧ decode (am_b m) (pc + 3) = .ok (.dup, 1) ∧
  ((decode (am_b m) (pc + 4) = .ok (.ldc is, 2) ∧ decode (am_b m) (pc + 6) = .ok (.invokespecial ic, 3) ∧ decode (am_b m) (pc + 9) = .ok (.athrow, 1)) ∨
   (decode (am_b m) (pc + 4) = .ok (.ldc_w is, 3) ∧ decode (am_b m) (pc + 7) = .ok (.invokespecial ic, 3) ∧ decode (am_b m) (pc + 10) = .ok (.athrow, 1))) ∧
  decode rx 0 = .ok (.aload_n 0, 1) ∧ decode rx 1 = .ok (.aload_n 1, 1) ∧ decode rx 2 = .ok (.invokespecial jx, 3) ∧ decode rx 5 = .ok (.return_, 1)
def am_okI (m pc : Nat) (ins : Instr) (len : Nat) (pl : List Nat) (kz : Int) : Prop := match ins with
  | .iload _ => len = 2
  | .lload _ => len = 2
  | .fload _ => len = 2
  | .dload _ => len = 2
  | .aload _ => len = 2
  | .istore i => len = 2 ∧ i < am_n m
  | .fstore i => len = 2 ∧ i < am_n m
  | .astore i => len = 2 ∧ i < am_n m
  | .lstore i => len = 2 ∧ i + 1 < am_n m
  | .dstore i => len = 2 ∧ i + 1 < am_n m
  | .istore_n i => len = 1 ∧ i.val < am_n m
  | .fstore_n i => len = 1 ∧ i.val < am_n m
  | .astore_n i => len = 1 ∧ i.val < am_n m
  | .lstore_n i => len = 1 ∧ i.val + 1 < am_n m
  | .dstore_n i => len = 1 ∧ i.val + 1 < am_n m
  | .iconst n => len = 1 ∧ Int32.ofInt n = mI kz
  | .bipush n => len = 2 ∧ (Int8.ofInt n).toInt32 = mI kz
  | .sipush n => len = 3 ∧ (Int16.ofInt n).toInt32 = mI kz
  | .ldc i => len = 2 ∧ Jvm.Cond.constant (am_o m) i (mI kz) ∈ am_ok
  | .ldc_w i => len = 3 ∧ Jvm.Cond.constant (am_o m) i (mI kz) ∈ am_ok
  | .lconst n => len = 1 ∧ Int64.ofNat (n : Nat) = mL kz
  | .ldc2_w i => len = 3 ∧ (match pl with
    | [_] => Jvm.Cond.constantDouble (am_o m) i (UInt64.ofNat kz.toNat) ∈ am_ok
    | _ => Jvm.Cond.constantLong (am_o m) i (mL kz) ∈ am_ok)
  | .iinc i _ => len = 3 ∧ i < am_n m
  | .goto _ => len = 3
  | .ifCond _ off => len = 3 ∧ 0 ≤ (pc : Int) + off
  | .if_icmp _ off => len = 3 ∧ 0 ≤ (pc : Int) + off
  | .ifnull _ => len = 3
  | .ifnonnull _ => len = 3
  | .tableswitch .. => True
  | .getfield ix => len = 3 ∧ ∃ (ci k kd : Nat) (C : String) (T : u_T) (N : Nat), pl = [ci, k, kd] ∧ am_cs[ci]? = some (C, T, N) ∧ k < N ∧ (Jvm.Cond.fieldLink (am_o m) ix (T k).1 (T k).2.1 (T k).2.2.1 ∈ am_ok ∨ ∃ host, Jvm.Cond.fieldLinkNest (am_o m) ix (T k).1 (T k).2.1 (T k).2.2.1 host ∈ am_ok)
  | .putfield ix => len = 3 ∧ ∃ (ci k kd : Nat) (C : String) (T : u_T) (N : Nat), pl = [ci, k, kd] ∧ am_cs[ci]? = some (C, T, N) ∧ k < N ∧
    ((Jvm.Cond.fieldLink (am_o m) ix (T k).1 (T k).2.1 (T k).2.2.1 ∈ am_ok ∧ (T k).2.2.2 = false) ∨ ((∃ host, Jvm.Cond.fieldLinkNest (am_o m) ix (T k).1 (T k).2.1 (T k).2.2.1 host ∈ am_ok) ∧ (T k).2.2.2 = false) ∨
     (Jvm.Cond.fieldLink (am_o m) ix (T k).1 (T k).2.1 (T k).2.2.1 ∈ am_ok ∧ (T k).2.2.2 = true ∧ m ≠ m_L_law ∧ (am_y m).name = "<init>" ∧ (T k).1 = am_o m))
  | .getstatic ix => len = 3 ∧ Jvm.Cond.fieldLink (am_o m) ix "BlockCast$Scribe" "ROW" "[I" ∈ am_ok
  | .new ix => len = 3 ∧ ((∃ (ci : Nat) (C : String) (T : u_T) (N : Nat), pl = [ci] ∧ am_cs[ci]? = some (C, T, N) ∧ Jvm.Cond.classLink (am_o m) ix C ∈ am_ok ∧ Jvm.Cond.instantiable C N ∈ am_ok ∧ Jvm.Cond.initialized C ∈ am_ok) ∨ ∃ x, pl = [x, 0] ∧ am_thr m pc ix x)
  | .newarray t => len = 2 ∧ Jvm.Cond.arrayClass (newarray.typeOf t) ∈ am_ok
  | .anewarray ix => len = 3 ∧ (pl = [5] ∧ Jvm.Cond.classLink (am_o m) ix "BlockCast$Picture" ∈ am_ok)
  | .invokestatic ix => len = 3 ∧ ((∃ mj, pl = [mj] ∧ am_mOK mj ∧ am_hOK m pc ∧ am_lk m ix mj ∧ Jvm.Cond.static (am_y mj) ∈ am_ok ∧ (am_h mj ≠ [] → Jvm.Cond.methodLink (am_o m) ix (am_y mj) ∈ am_ok)) ∨
    (pl = [0, 0] ∧ 1 ≤ am_d m ∧ Jvm.Cond.methodLink (am_o m) ix Lib.Math.abs.name ∈ am_ok) ∨ (pl = [0, 1] ∧ 1 ≤ am_d m ∧ Jvm.Cond.methodLink (am_o m) ix Lib.Math.max.name ∈ am_ok) ∨ (pl = [0, 2] ∧ 1 ≤ am_d m ∧ Jvm.Cond.methodLink (am_o m) ix Lib.Math.min.name ∈ am_ok))
  | .invokevirtual ix => len = 3 ∧ ((∃ (mj ci : Nat) (C : String) (T : u_T) (N : Nat), pl = [mj, ci] ∧ am_cs[ci]? = some (C, T, N) ∧ am_mOK mj ∧ am_h mj = [] ∧ am_hOK m pc ∧ am_lk m ix mj ∧ Jvm.Cond.instanceMethod (am_y mj) ∈ am_ok ∧ Jvm.Cond.selects C (am_y mj) (am_y mj) ∈ am_ok) ∨
    (pl = [] ∧ 1 ≤ am_d m ∧ Jvm.Cond.methodLink (am_o m) ix ⟨"[I", "clone", "()Ljava/lang/Object;"⟩ ∈ am_ok))
  | .invokespecial ix => len = 3 ∧ ((∃ mj, pl = [mj] ∧ am_mOK mj ∧ am_h mj = [] ∧ am_hOK m pc ∧ am_lk m ix mj ∧ Jvm.Cond.instanceMethod (am_y mj) ∈ am_ok ∧ (am_y mj).name = "<init>" ∧ am_r mj = none) ∨
    (pl = [] ∧ 1 ≤ am_d m ∧ Jvm.Cond.methodLink (am_o m) ix Lib.objectInit ∈ am_ok))
  | .checkcast ix => len = 3 ∧ Jvm.Cond.classLink (am_o m) ix "[I" ∈ am_ok
  | .lookupswitch .. => True
  | _ => len = 1
def am_okE (m : Nat) (e : am_E) : Prop := decode (am_b m) e.1 = .ok (e.2.1, e.2.2.1) ∧ am_okI m e.1 e.2.1 e.2.2.1 e.2.2.2.1 e.2.2.2.2
/-- the tables are the system's -/
def am_all : Prop := ∀ m, ∀ e ∈ am_k m, am_okE m e
theorem am_i_ok (h : am_all) {m pc : Nat} {e : am_E} (hi : am_i m pc = some e) : e.1 = pc ∧ am_okE m e := by
  unfold am_i at hi
  exact ⟨by simpa using List.find?_some hi, h m e (List.mem_of_find?_eq_some hi)⟩
/-- the words of the JDK's methods -/
def am_jw : List Jvm.Cond := [Jvm.Cond.static Lib.Math.abs.name, Jvm.Cond.static Lib.Math.max.name, Jvm.Cond.static Lib.Math.min.name, Jvm.Cond.initialized "java/lang/Math", Jvm.Cond.code Lib.Math.abs.name Lib.Math.abs.code 1 (some .int), Jvm.Cond.code Lib.Math.max.name Lib.Math.max.code 2 (some .int), Jvm.Cond.code Lib.Math.min.name Lib.Math.min.code 2 (some .int),
  Jvm.Cond.instanceMethod Lib.objectInit, Jvm.Cond.code Lib.objectInit ⟨#[0xb1]⟩ 1 none, Jvm.Cond.sameMethod "[I" "java/lang/Object" "clone" "()Ljava/lang/Object;", Jvm.Cond.native ⟨"java/lang/Object", "clone", "()Ljava/lang/Object;"⟩, Jvm.Cond.instanceMethod ⟨"java/lang/Object", "clone", "()Ljava/lang/Object;"⟩,
  Jvm.Cond.selects "[I" ⟨"[I", "clone", "()Ljava/lang/Object;"⟩ ⟨"java/lang/Object", "clone", "()Ljava/lang/Object;"⟩, Jvm.Cond.castable "[I" "java/lang/Cloneable"]
set_option maxRecDepth 20000 in
theorem am_jw_ok : ∀ w ∈ am_jw, w ∈ am_ok := by
  have h : am_jw.all (fun w => decide (w ∈ lw_tbl) && am_mv w) = true := by decide +kernel
  intro w hw
  have h1 := List.all_eq_true.mp h w hw
  simp only [Bool.and_eq_true, decide_eq_true_eq] at h1
  exact List.mem_filter.mpr h1
