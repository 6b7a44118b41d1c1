/-! ===== the abstract machine's step, its runs ===== -/
def am_call (mj : Nat) (as rest : List Value) (h : am_H) : am_O := am_g (am_gd (am_sg mj) as && (decide (rest.length ≤ 4) || (decide (rest.length ≤ 8) && rest.all fun v => decide (v.category = 1)))) (am_cl mj as rest h)
def am_stp (m : Nat) (ins : Instr) (len : Nat) (pl : List Nat) (kz : Int) (pc : Nat) (L st : List Value) (h : am_H) : am_O := match ins with
  | .iload i => am_ldI L i fun x => am_nx (pc + len) L (.int x :: st) h
  | .iload_n i => am_ldI L i.val fun x => am_nx (pc + len) L (.int x :: st) h
  | .lload i => am_ldL L i fun x => am_nx (pc + len) L (.long x :: st) h
  | .lload_n i => am_ldL L i.val fun x => am_nx (pc + len) L (.long x :: st) h
  | .fload i => am_ldF L i fun x => am_nx (pc + len) L (.float x :: st) h
  | .fload_n i => am_ldF L i.val fun x => am_nx (pc + len) L (.float x :: st) h
  | .dload i => am_ldD L i fun x => am_nx (pc + len) L (.double x :: st) h
  | .dload_n i => am_ldD L i.val fun x => am_nx (pc + len) L (.double x :: st) h
  | .aload i => am_ldA L i fun x => am_nx (pc + len) L (x :: st) h
  | .aload_n i => am_ldA L i.val fun x => am_nx (pc + len) L (x :: st) h
  | .istore i => am_pI st fun x st => am_nx (pc + len) (am_st L i (.int x)) st h
  | .istore_n i => am_pI st fun x st => am_nx (pc + len) (am_st L i.val (.int x)) st h
  | .lstore i => am_pL st fun x st => am_nx (pc + len) (am_s2 L i (.long x)) st h
  | .lstore_n i => am_pL st fun x st => am_nx (pc + len) (am_s2 L i.val (.long x)) st h
  | .fstore i => am_pF st fun x st => am_nx (pc + len) (am_st L i (.float x)) st h
  | .fstore_n i => am_pF st fun x st => am_nx (pc + len) (am_st L i.val (.float x)) st h
  | .dstore i => am_pD st fun x st => am_nx (pc + len) (am_s2 L i (.double x)) st h
  | .dstore_n i => am_pD st fun x st => am_nx (pc + len) (am_s2 L i.val (.double x)) st h
  | .astore i => am_pA st fun x st => am_nx (pc + len) (am_st L i x) st h
  | .astore_n i => am_pA st fun x st => am_nx (pc + len) (am_st L i.val x) st h
  | .iconst _ => am_nx (pc + len) L (.int (mI kz) :: st) h
  | .bipush _ => am_nx (pc + len) L (.int (mI kz) :: st) h
  | .sipush _ => am_nx (pc + len) L (.int (mI kz) :: st) h
  | .ldc _ => am_nx (pc + len) L (.int (mI kz) :: st) h
  | .ldc_w _ => am_nx (pc + len) L (.int (mI kz) :: st) h
  | .lconst _ => am_nx (pc + len) L (.long (mL kz) :: st) h
  | .ldc2_w _ => (match pl with
    | [_] => am_nx (pc + len) L (.double (UInt64.ofNat kz.toNat) :: st) h
    | _ => am_nx (pc + len) L (.long (mL kz) :: st) h)
  | .fconst 0 => am_nx (pc + len) L (.float FP.fconst0 :: st) h
  | .dconst 0 => am_nx (pc + len) L (.double FP.dconst0 :: st) h
  | .aconst_null => am_nx (pc + len) L (.null :: st) h
  | .iinc i n => am_ldI L i fun x => am_nx (pc + len) (am_st L i (.int (x + mI n))) st h
  | .iadd => am_pI st fun y st => am_pI st fun x st => am_nx (pc + len) L (.int (x + y) :: st) h
  | .isub => am_pI st fun y st => am_pI st fun x st => am_nx (pc + len) L (.int (x - y) :: st) h
  | .imul => am_pI st fun y st => am_pI st fun x st => am_nx (pc + len) L (.int (x * y) :: st) h
  | .iand => am_pI st fun y st => am_pI st fun x st => am_nx (pc + len) L (.int (x &&& y) :: st) h
  | .ishl => am_pI st fun y st => am_pI st fun x st => am_nx (pc + len) L (.int (x <<< (y &&& 31)) :: st) h
  | .ishr => am_pI st fun y st => am_pI st fun x st => am_nx (pc + len) L (.int (x >>> (y &&& 31)) :: st) h
  | .iushr => am_pI st fun y st => am_pI st fun x st => am_nx (pc + len) L (.int (x.toUInt32 >>> (y.toUInt32 &&& Int32.toUInt32 31)).toInt32 :: st) h
  | .idiv => am_pI st fun y st => am_pI st fun x st => am_g (decide (¬ y = 0)) (am_nx (pc + len) L (.int (x / y) :: st) h)
  | .irem => am_pI st fun y st => am_pI st fun x st => am_g (decide (¬ y = 0)) (am_nx (pc + len) L (.int (x - x / y * y) :: st) h)
  | .ineg => am_pI st fun x st => am_nx (pc + len) L (.int (-x) :: st) h
  | .ladd => am_pL st fun y st => am_pL st fun x st => am_nx (pc + len) L (.long (x + y) :: st) h
  | .lsub => am_pL st fun y st => am_pL st fun x st => am_nx (pc + len) L (.long (x - y) :: st) h
  | .lmul => am_pL st fun y st => am_pL st fun x st => am_nx (pc + len) L (.long (x * y) :: st) h
  | .land => am_pL st fun y st => am_pL st fun x st => am_nx (pc + len) L (.long (x &&& y) :: st) h
  | .ldiv => am_pL st fun y st => am_pL st fun x st => am_g (decide (¬ y = 0)) (am_nx (pc + len) L (.long (x / y) :: st) h)
  | .lshl => am_pI st fun y st => am_pL st fun x st => am_nx (pc + len) L (.long (x <<< (y.toInt64 &&& 63)) :: st) h
  | .lshr => am_pI st fun y st => am_pL st fun x st => am_nx (pc + len) L (.long (x >>> (y.toInt64 &&& 63)) :: st) h
  | .lcmp => am_pL st fun y st => am_pL st fun x st => am_nx (pc + len) L (.int (lg_cmp x y) :: st) h
  | .i2l => am_pI st fun x st => am_nx (pc + len) L (.long x.toInt64 :: st) h
  | .l2i => am_pL st fun x st => am_nx (pc + len) L (.int x.toInt32 :: st) h
  | .i2c => am_pI st fun x st => am_nx (pc + len) L (.int (x.toUInt32 % 65536).toInt32 :: st) h
  | .i2f => am_pI st fun x st => am_nx (pc + len) L (.float (FP.i2f x) :: st) h
  | .i2d => am_pI st fun x st => am_nx (pc + len) L (.double (FP.i2d x) :: st) h
  | .f2d => am_pF st fun x st => am_g (decide (FP.f2d x &&& 0x7fffffffffffffff ≤ 0x7ff0000000000000)) (am_nx (pc + len) L (.double (FP.f2d x) :: st) h)
  | .fdiv => am_pF st fun y st => am_pF st fun x st => am_g (decide (FP.fdiv x y &&& 0x7fffffff ≤ 0x7f800000)) (am_nx (pc + len) L (.float (FP.fdiv x y) :: st) h)
  | .ddiv => am_pD st fun y st => am_pD st fun x st => am_g (decide (FP.ddiv x y &&& 0x7fffffffffffffff ≤ 0x7ff0000000000000)) (am_nx (pc + len) L (.double (FP.ddiv x y) :: st) h)
  | .fcmp op => am_pF st fun y st => am_pF st fun x st => am_nx (pc + len) L (.int (Op.cmpValue (FP.fcmp x y) op) :: st) h
  | .dcmp op => am_pD st fun y st => am_pD st fun x st => am_nx (pc + len) L (.int (Op.cmpValue (FP.dcmp x y) op) :: st) h
  | .dup => am_pop 1 [] st fun l st => match l with
    | [v] => am_g (decide (v.category = 1)) (am_nx (pc + len) L (v :: v :: st) h)
    | _ => none
  | .dup2 => am_pop 2 [] st fun l st => match l with
    | [v, w] => am_g (decide (v.category = 1) && decide (w.category = 1)) (am_nx (pc + len) L (w :: v :: w :: v :: st) h)
    | _ => none
  | .goto off => am_go pc off L st h
  | .ifCond .eq off => am_pI st fun x st => am_if (x = 0) pc off L st h
  | .ifCond .ne off => am_pI st fun x st => am_if (x ≠ 0) pc off L st h
  | .ifCond .lt off => am_pI st fun x st => am_if (x < 0) pc off L st h
  | .ifCond .ge off => am_pI st fun x st => am_if (0 ≤ x) pc off L st h
  | .ifCond .gt off => am_pI st fun x st => am_if (0 < x) pc off L st h
  | .ifCond .le off => am_pI st fun x st => am_if (x ≤ 0) pc off L st h
  | .if_icmp .eq off => am_pI st fun y st => am_pI st fun x st => am_if (x = y) pc off L st h
  | .if_icmp .ne off => am_pI st fun y st => am_pI st fun x st => am_if (x ≠ y) pc off L st h
  | .if_icmp .lt off => am_pI st fun y st => am_pI st fun x st => am_if (x < y) pc off L st h
  | .if_icmp .ge off => am_pI st fun y st => am_pI st fun x st => am_if (y ≤ x) pc off L st h
  | .if_icmp .gt off => am_pI st fun y st => am_pI st fun x st => am_if (y < x) pc off L st h
  | .if_icmp .le off => am_pI st fun y st => am_pI st fun x st => am_if (x ≤ y) pc off L st h
  | .ifnull off => (match st with
    | .null :: st => am_go pc off L st h
    | .ref _ :: st => am_nx (pc + len) L st h
    | _ => none)
  | .ifnonnull off => (match st with
    | .null :: st => am_nx (pc + len) L st h
    | .ref _ :: st => am_go pc off L st h
    | _ => none)
  | .tableswitch d lo hi offs => am_pI st fun x st => am_sw pc d lo hi offs x L st h
  | .lookupswitch d ps => am_pI st fun x st => am_g ((ps.toList.zip (ps.toList.drop 1)).all fun q => decide (q.1.1 < q.2.1)) (am_go pc (Op.lookupswitch.offset ps.toList d x.toInt) L st h)
  | .getfield _ => am_pR st fun a st => (match pl with
    | [ci, k, _] => am_ob h a ci fun fs => (match fs k with
      | .retAddr _ => none
      | v => am_nx (pc + len) L (v :: st) h)
    | _ => none)
  | .putfield _ => am_pop 1 [] st fun l st => (match l with
    | [v] => am_pR st fun a st => (match pl with
      | [ci, k, _] => am_ob h a ci fun fs => am_g (am_okV (am_ft ci k) v) (am_nx (pc + len) L st (hset h a (.inr (ci, am_fu fs k v))))
      | _ => none)
    | _ => none)
  | .getstatic _ => am_nx (pc + len) L (.ref 0 :: st) h
  | .new _ => (match pl with
    | [ci] => am_nx (pc + len) L (.ref (hnx h) :: st) (halc h (am_nf ci) (.inr (ci, fun k => defaultValue (am_ft ci k))))
    | [x, _] => am_pE st (am_th x (hexc h))
    | _ => none)
  | .newarray t => am_pI st fun n st => am_g (decide (0 ≤ n.toInt) && (decide (n.toInt ≤ 65536) && decide (am_tg t = 0))) (am_nx (pc + len) L (.ref (hnx h) :: st) (halc h n.toInt.toNat (.inl (am_tg t, n.toInt.toNat, am_z0 t))))
  | .anewarray _ => am_pI st fun n st => (match pl with
    | [t] => am_g (decide (0 ≤ n.toInt) && decide (n.toInt ≤ 65536)) (am_nx (pc + len) L (.ref (hnx h) :: st) (halc h n.toInt.toNat (.inl (t, n.toInt.toNat, .inr (.inr (.inr fun _ => none))))))
    | _ => none)
  | .arraylength => am_pR st fun a st => am_ar h a fun _ n _ => am_nx (pc + len) L (.int (mI n) :: st) h
  | .iaload => am_pI st fun i st => am_pR st fun a st => am_rI (fun t => t == 0 || t == 7) h a i fun x => am_nx (pc + len) L (.int x :: st) h
  | .aaload => am_pI st fun i st => am_pR st fun a st => am_rA h a i fun x => am_nx (pc + len) L (am_rv x :: st) h
  | .iastore => am_pI st fun x st => am_pI st fun i st => am_pR st fun a st => am_wI 0 h a i x fun h => am_nx (pc + len) L st h
  | .aastore => am_pop 1 [] st fun l st => (match l with
    | [v] => am_pI st fun i st => am_pR st fun a st => am_wA h a i v fun h => am_nx (pc + len) L st h
    | _ => none)
  | .invokestatic _ => (match pl with
    | [mj] => am_pop (am_np mj) [] st fun as st => am_call mj as st h
    | [0, 0] => am_pI st fun x st => am_g (decide (st.length ≤ 8)) (am_nx (pc + len) L (.int (am_jabs x) :: st) h)
    | [0, 1] => am_pI st fun y st => am_pI st fun x st => am_g (decide (st.length ≤ 8)) (am_nx (pc + len) L (.int (am_jmax x y) :: st) h)
    | [0, 2] => am_pI st fun y st => am_pI st fun x st => am_g (decide (st.length ≤ 8)) (am_nx (pc + len) L (.int (am_jmin x y) :: st) h)
    | _ => none)
  | .invokevirtual _ => (match pl with
    | [mj, ci] => am_pop (am_np mj) [] st fun as st => am_pR st fun b st => am_ob h b ci fun _ => am_call mj (.ref b :: as) st h
    | [] => am_pR st fun a st => am_g (decide (st.length ≤ 8)) (am_ar h a fun t n c => match c with
      | .inl f => am_g (t == 0) (am_nx (pc + len) L (.ref (hnx h) :: st) (halc h n (.inl (0, n, .inl f))))
      | _ => none)
    | _ => none)
  | .invokespecial _ => (match pl with
    | [mj] => am_pop (am_np mj) [] st fun as st => am_pR st fun b st => am_call mj (.ref b :: as) st h
    | [] => am_pR st fun _ st => am_g (decide (st.length ≤ 8)) (am_nx (pc + len) L st h)
    | _ => none)
  | .checkcast _ => am_pR st fun a st => am_ar h a fun t _ _ => am_g (t == 0) (am_nx (pc + len) L (.ref a :: st) h)
  | .ireturn => am_pI st fun x st => am_pE st (match am_r m with
    | some ty => am_g (am_okV ty (.int x)) (am_dn (some (.int x)) h)
    | none => none)
  | .lreturn => am_pL st fun x st => am_pE st (am_g (decide (am_r m = some .long)) (am_dn (some (.long x)) h))
  | .freturn => am_pF st fun x st => am_pE st (am_g (decide (am_r m = some .float)) (am_dn (some (.float x)) h))
  | .dreturn => am_pD st fun x st => am_pE st (am_g (decide (am_r m = some .double)) (am_dn (some (.double x)) h))
  | .areturn => am_pA st fun x st => am_pE st (match am_r m with
    | some ty => am_g (am_okV ty x) (am_dn (some x) h)
    | none => none)
  | .return_ => am_pE st (am_g (decide (am_r m = none)) (am_dn none h))
  | _ => none
/-- one step's outcome, and what a run makes of it -/
def am_bd (F : Nat → Nat → List Value → List Value → am_H → Option am_Rs) (m pc : Nat) (L : List Value) (o : am_O) : Option am_Rs := match o with
  | none => none
  | some (.inl (pc', L', st', h')) => F m pc' L' st' h'
  | some (.inr (.inl r)) => some r
  | some (.inr (.inr (mj, as, rest, h))) => am_g (decide (am_d mj < am_d m)) (match F mj 0 (am_en (am_sg mj) as (am_n mj)) [] h with
    | none => none
    | some (.inl v, h') => F m (pc + 3) L (v.toList ++ rest) h'
    | some (.inr x, h') => match am_hd m x with
      | some (pc', i) => F m pc' (am_st L i am_J) [] h'
      | none => am_g (am_hl m).isEmpty (some (.inr x, h')))
def am_so (m pc : Nat) (L st : List Value) (h : am_H) : am_O := match am_i m pc with
  | some (_, ins, len, pl, kz) => am_stp m ins len pl kz pc L st h
  | none => none
def am_ex : Nat → Nat → Nat → List Value → List Value → am_H → Option am_Rs
  | 0, _, _, _, _, _ => none
  | n + 1, m, pc, L, st, h => am_bd (am_ex n) m pc L (am_so m pc L st h)
def am_le (F G : Nat → Nat → List Value → List Value → am_H → Option am_Rs) : Prop := ∀ m pc L st h r, F m pc L st h = some r → G m pc L st h = some r
theorem am_bd_le {F G : Nat → Nat → List Value → List Value → am_H → Option am_Rs} (hl : am_le F G) {m pc : Nat} {L : List Value} {o : am_O} {r : am_Rs} (h : am_bd F m pc L o = some r) : am_bd G m pc L o = some r := by
  match o, h with
  | some (.inl (pc', L', st', h')), h => exact hl _ _ _ _ _ _ h
  | some (.inr (.inl r')), h => exact h
  | some (.inr (.inr (mj, as, rest, h0))), h =>
    simp only [am_bd] at h ⊢
    cases hd : decide (am_d mj < am_d m) with
    | false => rw [hd] at h; simp [am_g] at h
    | true =>
      rw [hd] at h
      simp only [am_g] at h ⊢
      cases hf : F mj 0 (am_en (am_sg mj) as (am_n mj)) [] h0 with
      | none => rw [hf] at h; simp at h
      | some q =>
        obtain ⟨v | x, h'⟩ := q
        · rw [hf] at h
          rw [hl _ _ _ _ _ _ hf]
          exact hl _ _ _ _ _ _ h
        · rw [hf] at h
          rw [hl _ _ _ _ _ _ hf]
          simp only at h ⊢
          cases hh : am_hd m x with
          | none => rw [hh] at h; exact h
          | some q => rw [hh] at h; exact hl _ _ _ _ _ _ h
theorem am_ex_le : ∀ n, am_le (am_ex n) (am_ex (n + 1))
  | 0 => fun _ _ _ _ _ _ h => by cases h
  | n + 1 => fun m pc L st h r hr => am_bd_le (am_ex_le n) hr
theorem am_ex_mono {n k : Nat} (hk : n ≤ k) : am_le (am_ex n) (am_ex k) := by
  induction hk with
  | refl => exact fun _ _ _ _ _ _ h => h
  | step _ ih => exact fun m pc L st h r hr => am_ex_le _ _ _ _ _ _ _ (ih m pc L st h r hr)
theorem am_ex_one {n k m pc : Nat} {L st : List Value} {h : am_H} {r r' : am_Rs} (h1 : am_ex n m pc L st h = some r) (h2 : am_ex k m pc L st h = some r') : r = r' := by
  rcases Nat.le_total n k with q | q
  · exact Option.some.inj ((am_ex_mono q _ _ _ _ _ _ h1).symm.trans h2)
  · exact Option.some.inj (h1.symm.trans (am_ex_mono q _ _ _ _ _ _ h2))
theorem am_R_ex (m pc : Nat) (L st : List Value) (h : am_H) : ∃ o : Option am_Rs, ∀ r, o = some r ↔ ∃ n, am_ex n m pc L st h = some r := by
  rcases Classical.em (∃ r, ∃ n, am_ex n m pc L st h = some r) with ⟨r, n, hr⟩ | hn
  · refine ⟨some r, fun r' => ⟨fun q => ?_, fun ⟨k, hk⟩ => by rw [am_ex_one hr hk]⟩⟩
    cases q
    exact ⟨n, hr⟩
  · exact ⟨none, fun r => ⟨fun q => (nomatch q), fun ⟨n, q⟩ => absurd ⟨r, n, q⟩ hn⟩⟩
/-- what a frame comes to: its method's answer or exception, and the heap; none if it has no end -/
noncomputable def rn (m pc : Nat) (L st : List Value) (h : am_H) : Option am_Rs := Classical.choose (am_R_ex m pc L st h)
theorem rn_iff {m pc : Nat} {L st : List Value} {h : am_H} {r : am_Rs} : rn m pc L st h = some r ↔ ∃ n, am_ex n m pc L st h = some r := Classical.choose_spec (am_R_ex m pc L st h) r
theorem rn_ex {n : Nat} : am_le (am_ex n) rn := fun _ _ _ _ _ _ h => rn_iff.mpr ⟨n, h⟩
theorem rn_bd {m pc : Nat} {L : List Value} {o : am_O} {r : am_Rs} (h : am_bd rn m pc L o = some r) : ∃ n, am_bd (am_ex n) m pc L o = some r := by
  match o, h with
  | some (.inl (pc', L', st', h')), h => exact rn_iff.mp h
  | some (.inr (.inl r')), h => exact ⟨0, h⟩
  | some (.inr (.inr (mj, as, rest, h0))), h =>
    simp only [am_bd] at h ⊢
    cases hd : decide (am_d mj < am_d m) with
    | false => rw [hd] at h; simp [am_g] at h
    | true =>
      rw [hd] at h
      simp only [am_g] at h ⊢
      cases hf : rn mj 0 (am_en (am_sg mj) as (am_n mj)) [] h0 with
      | none => rw [hf] at h; simp at h
      | some q =>
        obtain ⟨n1, h1⟩ := rn_iff.mp hf
        obtain ⟨v | x, h'⟩ := q
        · rw [hf] at h
          simp only at h
          obtain ⟨n2, h2⟩ := rn_iff.mp h
          refine ⟨max n1 n2, ?_⟩
          rw [am_ex_mono (Nat.le_max_left n1 n2) _ _ _ _ _ _ h1]
          exact am_ex_mono (Nat.le_max_right n1 n2) _ _ _ _ _ _ h2
        · rw [hf] at h
          simp only at h
          cases hh : am_hd m x with
          | none =>
            rw [hh] at h
            refine ⟨n1, ?_⟩
            rw [h1]
            simp only [hh]
            exact h
          | some q =>
            rw [hh] at h
            obtain ⟨n2, h2⟩ := rn_iff.mp h
            refine ⟨max n1 n2, ?_⟩
            rw [am_ex_mono (Nat.le_max_left n1 n2) _ _ _ _ _ _ h1]
            simp only [hh]
            exact am_ex_mono (Nat.le_max_right n1 n2) _ _ _ _ _ _ h2
theorem rn_eq (m pc : Nat) (L st : List Value) (h : am_H) : rn m pc L st h = am_bd rn m pc L (am_so m pc L st h) := by
  apply Option.ext
  intro r
  constructor
  · intro q
    obtain ⟨n, hn⟩ := rn_iff.mp q
    cases n with
    | zero => cases hn
    | succ n => exact am_bd_le rn_ex hn
  · intro q
    obtain ⟨n, hn⟩ := rn_bd q
    exact rn_iff.mpr ⟨n + 1, hn⟩
theorem rn_st {m pc len : Nat} {ins : Instr} {pl : List Nat} {kz : Int} (hi : am_i m pc = some (pc, ins, len, pl, kz)) (L st : List Value) (h : am_H) : rn m pc L st h = am_bd rn m pc L (am_stp m ins len pl kz pc L st h) := by
  rw [rn_eq]
  unfold am_so
  rw [hi]
