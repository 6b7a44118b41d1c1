
/-! ===== the abstract machine: a frame is a method's number, a pc, a list of locals, a stack; a heap is a function ===== -/
abbrev am_A : Type := (Int → Int32) ⊕ ((Int → Int64) ⊕ ((Int → UInt64) ⊕ (Int → Option Nat)))
/-- a cell: an array (kind, length, contents) or an object (class, fields) -/
abbrev am_C : Type := (Nat × (Nat × am_A)) ⊕ (Nat × (Nat → Value))
/-- a heap: the next address, the cells and the slots made so far, the cells -/
abbrev am_H : Type := Nat × (Nat × (Nat × (Nat → Option am_C)))
def hget (h : am_H) (a : Nat) : Option am_C := h.2.2.2 a
def hnx (h : am_H) : Nat := h.1
def hcl (h : am_H) : Nat := h.2.1
def hsl (h : am_H) : Nat := h.2.2.1
def hset (h : am_H) (a : Nat) (c : am_C) : am_H := (h.1, h.2.1, h.2.2.1, fun j => if j = a then some c else h.2.2.2 j)
def halc (h : am_H) (n : Nat) (c : am_C) : am_H := (h.1 + 1, h.2.1 + 1, h.2.2.1 + n, fun j => if j = h.1 then some c else h.2.2.2 j)
def hexc (h : am_H) : am_H := (h.1, h.2.1 + 1, h.2.2.1 + 6, h.2.2.2)
theorem hget_set (h : am_H) (a b : Nat) (c : am_C) : hget (hset h a c) b = if b = a then some c else hget h b := rfl
theorem hget_alc (h : am_H) (n b : Nat) (c : am_C) : hget (halc h n c) b = if b = hnx h then some c else hget h b := rfl
theorem hget_exc (h : am_H) (b : Nat) : hget (hexc h) b = hget h b := rfl
theorem hnx_set (h : am_H) (a : Nat) (c : am_C) : hnx (hset h a c) = hnx h := rfl
theorem hnx_alc (h : am_H) (n : Nat) (c : am_C) : hnx (halc h n c) = hnx h + 1 := rfl
theorem hnx_exc (h : am_H) : hnx (hexc h) = hnx h := rfl
theorem hcl_set (h : am_H) (a : Nat) (c : am_C) : hcl (hset h a c) = hcl h := rfl
theorem hcl_alc (h : am_H) (n : Nat) (c : am_C) : hcl (halc h n c) = hcl h + 1 := rfl
theorem hcl_exc (h : am_H) : hcl (hexc h) = hcl h + 1 := rfl
theorem hsl_set (h : am_H) (a : Nat) (c : am_C) : hsl (hset h a c) = hsl h := rfl
theorem hsl_alc (h : am_H) (n : Nat) (c : am_C) : hsl (halc h n c) = hsl h + n := rfl
theorem hsl_exc (h : am_H) : hsl (hexc h) = hsl h + 6 := rfl
/-- whole numbers as ints and longs -/
def mI (z : Int) : Int32 := Int32.ofInt z
def mL (z : Int) : Int64 := Int64.ofInt z
/-- a value that no instruction reads -/
abbrev am_J : Value := .retAddr 0
/-- what a store beside a long or double leaves of it -/
def am_k1 (v : Value) : Value := match v with
  | .long _ => am_J
  | .double _ => am_J
  | .int x => .int x
  | .float x => .float x
  | .null => .null
  | .ref a => .ref a
  | .retAddr p => .retAddr p
def am_st : List Value → Nat → Value → List Value
  | [], _, _ => []
  | _ :: l, 0, v => v :: l
  | a :: l, 1, v => am_k1 a :: am_st l 0 v
  | a :: l, n + 2, v => a :: am_st l (n + 1) v
/-- a long or double takes two places -/
def am_s2 : List Value → Nat → Value → List Value
  | [], _, _ => []
  | [_], 0, _ => [am_J]
  | _ :: _ :: l, 0, v => v :: am_J :: l
  | a :: l, 1, v => am_k1 a :: am_s2 l 0 v
  | a :: l, n + 2, v => a :: am_s2 l (n + 1) v
abbrev am_Cf : Type := Nat × (List Value × (List Value × am_H))
abbrev am_Rs : Type := (Option Value ⊕ Nat) × am_H
abbrev am_O : Type := Option (am_Cf ⊕ (am_Rs ⊕ (Nat × (List Value × (List Value × am_H)))))
def am_nx (pc : Nat) (L st : List Value) (h : am_H) : am_O := some (.inl (pc, L, st, h))
def am_dn (r : Option Value) (h : am_H) : am_O := some (.inr (.inl (.inl r, h)))
def am_th (x : Nat) (h : am_H) : am_O := some (.inr (.inl (.inr x, h)))
def am_cl (mj : Nat) (as rest : List Value) (h : am_H) : am_O := some (.inr (.inr (mj, as, rest, h)))
/-- an index within -/
def am_in (i : Int32) (n : Nat) : Bool := decide (0 ≤ i.toInt) && decide (i.toInt < n)
def am_up {α : Type} (f : Int → α) (i : Int) (x : α) : Int → α := fun j => if j = i then x else f j
def am_fu (f : Nat → Value) (k : Nat) (x : Value) : Nat → Value := fun j => if j = k then x else f j
/-- may a value stand in a field of a type -/
def am_okV (ty : FieldType) (v : Value) : Bool := match ty, v with
  | .int, .int _ => true
  | .boolean, .int x => decide (x = 0) || decide (x = 1)
  | .char, .int x => decide (0 ≤ x.toInt) && decide (x.toInt ≤ 65535)
  | .long, .long _ => true
  | .float, .float _ => true
  | .double, .double _ => true
  | .object _, .ref _ => true
  | .object _, .null => true
  | .array _, .ref _ => true
  | .array _, .null => true
  | _, _ => false
section AMP
variable {β : Type}
def am_ldI (L : List Value) (i : Nat) (k : Int32 → Option β) : Option β := match L[i]? with
  | some (.int x) => k x
  | _ => none
def am_ldL (L : List Value) (i : Nat) (k : Int64 → Option β) : Option β := match L[i]? with
  | some (.long x) => k x
  | _ => none
def am_ldF (L : List Value) (i : Nat) (k : UInt32 → Option β) : Option β := match L[i]? with
  | some (.float x) => k x
  | _ => none
def am_ldD (L : List Value) (i : Nat) (k : UInt64 → Option β) : Option β := match L[i]? with
  | some (.double x) => k x
  | _ => none
def am_ldA (L : List Value) (i : Nat) (k : Value → Option β) : Option β := match L[i]? with
  | some (.ref a) => k (.ref a)
  | some .null => k .null
  | _ => none
def am_pI (st : List Value) (k : Int32 → List Value → Option β) : Option β := match st with
  | .int x :: st => k x st
  | _ => none
def am_pL (st : List Value) (k : Int64 → List Value → Option β) : Option β := match st with
  | .long x :: st => k x st
  | _ => none
def am_pF (st : List Value) (k : UInt32 → List Value → Option β) : Option β := match st with
  | .float x :: st => k x st
  | _ => none
def am_pD (st : List Value) (k : UInt64 → List Value → Option β) : Option β := match st with
  | .double x :: st => k x st
  | _ => none
def am_pR (st : List Value) (k : Nat → List Value → Option β) : Option β := match st with
  | .ref x :: st => k x st
  | _ => none
def am_pA (st : List Value) (k : Value → List Value → Option β) : Option β := match st with
  | .ref x :: st => k (.ref x) st
  | .null :: st => k .null st
  | _ => none
def am_pE (st : List Value) (k : Option β) : Option β := match st with
  | [] => k
  | _ => none
def am_g (b : Bool) (k : Option β) : Option β := match b with
  | true => k
  | false => none
def am_pop : Nat → List Value → List Value → (List Value → List Value → Option β) → Option β
  | 0, acc, st, k => k acc st
  | n + 1, acc, v :: st, k => am_pop n (v :: acc) st k
  | _ + 1, _, [], _ => none
def am_ob (h : am_H) (a ci : Nat) (k : (Nat → Value) → Option β) : Option β := match hget h a with
  | some (.inr (c, fs)) => am_g (c == ci) (k fs)
  | _ => none
def am_ar (h : am_H) (a : Nat) (k : Nat → Nat → am_A → Option β) : Option β := match hget h a with
  | some (.inl (t, n, c)) => k t n c
  | _ => none
def am_rI (p : Nat → Bool) (h : am_H) (a : Nat) (i : Int32) (k : Int32 → Option β) : Option β := match hget h a with
  | some (.inl (t, n, .inl f)) => am_g (p t && am_in i n) (k (f i.toInt))
  | _ => none
def am_rL (h : am_H) (a : Nat) (i : Int32) (k : Int64 → Option β) : Option β := match hget h a with
  | some (.inl (t, n, .inr (.inl f))) => am_g (t == 3 && am_in i n) (k (f i.toInt))
  | _ => none
def am_rD (h : am_H) (a : Nat) (i : Int32) (k : UInt64 → Option β) : Option β := match hget h a with
  | some (.inl (t, n, .inr (.inr (.inl f)))) => am_g (t == 4 && am_in i n) (k (f i.toInt))
  | _ => none
def am_rv (r : Option Nat) : Value := match r with
  | some a => .ref a
  | none => .null
def am_rA (h : am_H) (a : Nat) (i : Int32) (k : Option Nat → Option β) : Option β := match hget h a with
  | some (.inl (t, n, .inr (.inr (.inr f)))) => am_g ((t == 5) && am_in i n) (k (f i.toInt))
  | _ => none
def am_wI (t0 : Nat) (h : am_H) (a : Nat) (i : Int32) (x : Int32) (k : am_H → Option β) : Option β := match hget h a with
  | some (.inl (t, n, .inl f)) => am_g (t == t0 && am_in i n) (k (hset h a (.inl (t, n, .inl (am_up f i.toInt x)))))
  | _ => none
def am_wL (h : am_H) (a : Nat) (i : Int32) (x : Int64) (k : am_H → Option β) : Option β := match hget h a with
  | some (.inl (t, n, .inr (.inl f))) => am_g (t == 3 && am_in i n) (k (hset h a (.inl (t, n, .inr (.inl (am_up f i.toInt x))))))
  | _ => none
def am_wD (h : am_H) (a : Nat) (i : Int32) (x : UInt64) (k : am_H → Option β) : Option β := match hget h a with
  | some (.inl (t, n, .inr (.inr (.inl f)))) => am_g (t == 4 && am_in i n) (k (hset h a (.inl (t, n, .inr (.inr (.inl (am_up f i.toInt x)))))))
  | _ => none
/-- may a reference stand in an array of this kind -/
def am_el (h : am_H) (t : Nat) (v : Value) (k : Option Nat → Option β) : Option β := match v with
  | .null => k none
  | .ref b => (match hget h b with
    | some (.inr (c, _)) => am_g (t == 5 && c == 6) (k (some b))
    | some (.inl _) => none
    | none => none)
  | _ => none
def am_wA (h : am_H) (a : Nat) (i : Int32) (v : Value) (k : am_H → Option β) : Option β := match hget h a with
  | some (.inl (t, n, .inr (.inr (.inr f)))) => am_g ((t == 5) && am_in i n) (am_el h t v fun r => k (hset h a (.inl (t, n, .inr (.inr (.inr (am_up f i.toInt r)))))))
  | _ => none
end AMP
def am_tg : ArrayType → Nat
  | .int => 0
  | .boolean => 1
  | .char => 2
  | .long => 3
  | .double => 4
  | _ => 8
def am_z0 : ArrayType → am_A
  | .long => .inr (.inl fun _ => 0)
  | .double => .inr (.inr (.inl fun _ => 0))
  | _ => .inl fun _ => 0
def am_go (pc : Nat) (off : Int) (L st : List Value) (h : am_H) : am_O := am_g (decide (0 ≤ (pc : Int) + off)) (am_nx ((pc : Int) + off).toNat L st h)
def am_if (b : Prop) [Decidable b] (pc : Nat) (off : Int) (L st : List Value) (h : am_H) : am_O := if b then am_go pc off L st h else am_nx (pc + 3) L st h
/-- are the arguments of the sizes that the callee's descriptor says -/
def am_gd : List Bool → List Value → Bool
  | [], [] => true
  | b :: bs, v :: vs => (b == decide (v.category = 2)) && (decide (v ≠ am_J) && am_gd bs vs)
  | _, _ => false
/-- a callee's locals -/
def am_en : List Bool → List Value → Nat → List Value
  | true :: bs, v :: vs, n => v :: am_J :: am_en bs vs (n - 2)
  | false :: bs, v :: vs, n => v :: am_en bs vs (n - 1)
  | _, _, n => List.replicate n am_J
def am_jabs (x : Int32) : Int32 := if 0 ≤ x then x else 0 - x
def am_jmax (x y : Int32) : Int32 := if x < y then y else x
def am_jmin (x y : Int32) : Int32 := if y < x then y else x
def am_sw (pc : Nat) (d lo hi : Int) (offs : Array Int) (x : Int32) (L st : List Value) (h : am_H) : am_O :=
  if x.toInt < lo ∨ hi < x.toInt then am_go pc d L st h else match offs[(x.toInt - lo).toNat]? with
    | some off => am_go pc off L st h
    | none => none
