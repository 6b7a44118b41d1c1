/-! ===== words that stay true from a caller to its callee ===== -/
def am_mv (w : Jvm.Cond) : Bool := goodWord w || (match w with
  | .fieldLinkNest .. => true
  | .methodLinkNest .. => true
  | .castable .. => true
  | .declares .. => true
  | _ => false)
def am_ok : List Jvm.Cond := lw_tbl.filter am_mv
theorem am_mv_at {w : Jvm.Cond} (h : am_mv w = true) {s U : State} (hW : s.WarmedH U.vm) (h0 : w.before #[] s = true) : w.before #[] U = true := by
  unfold am_mv at h
  cases hg : goodWord w with
  | true => exact word_at hW (good_of_word hg) h0
  | false =>
    rw [hg] at h
    cases w with
    | fieldLinkNest => exact va_Nw.warmF hW h0
    | methodLinkNest => exact va_Nw.warmM hW h0
    | castable => exact va_Nw.warmC hW h0
    | declares => exact va_Nw.warmD hW h0
    | _ => exact absurd h (by simp)
theorem am_mv_args {w : Jvm.Cond} (h : am_mv w = true) {s U : State} (hv : s.vm = U.vm) {a a' : Array Value} (h0 : w.before a s = true) : w.before a' U = true := by
  unfold am_mv at h
  cases hg : goodWord w with
  | true =>
    have hW : s.WarmedH U.vm := by rw [← hv]; exact State.WarmedH.refl _
    exact word_at hW (good_of_word hg) h0
  | false =>
    rw [hg] at h
    cases w with
    | fieldLinkNest => exact va_tabs rfl hv h0
    | methodLinkNest => exact va_tabs rfl hv h0
    | castable => exact va_tabs rfl hv h0
    | declares => exact va_tabs rfl hv h0
    | _ => exact absurd h (by simp)
/-- nothing more -/
def am_AI (_ : State) : Prop := True
theorem am_AI.moved {u U : State} (_ : u.vm.Alike U.vm) (_ : am_AI u) : am_AI U := trivial
/-! ===== what every method of the system is given ===== -/
def am_tys (ty : Nat → ClassId) : List (ClassId × FieldType) := [(ty 0, .int), (ty 0, .int), (ty 0, .int), (ty 0, .int), (ty 0, .int), (ty 5, .object "BlockCast$Picture")]
def am_row : Int → Int32 := fun j => ([0, 1, 4, 8, 5, 2, 3, 6, 9, 12, 13, 10, 7, 11, 14, 15] : List Int32).getD j.toNat 0
def am_strs : List (String × Nat × String) := [("BlockCast", 88, "the rectangle is not within the canvas"), ("BlockCast", 97, "the value is out of range"), ("BlockCast", 113, "the first value is out of range"), ("BlockCast", 115, "a step is out of range"), ("BlockCast", 117, "the size is out of range"), ("BlockCast", 124, "a number is out of range"), ("BlockCast", 317, "there is no such pixel"), ("BlockCast", 134, "the coarseness is out of range"), ("BlockCast", 136, "the tools are out of range"), ("BlockCast", 138, "the number of slices is out of range"), ("BlockCast", 150, "there is no such kind"), ("BlockCast", 157, "there is no such kept picture"), ("BlockCast", 162, "there are 12 pictures"), ("BlockCast", 293, "there is no such picture"), ("BlockCast", 197, "the bucket refuses the picture"), ("BlockCast", 216, "there is no such place"), ("BlockCast", 220, "there is no bucket"), ("BlockCast", 255, "the part uses no such vector"), ("BlockCast", 267, "there are not so many pictures"), ("BlockCast", 272, "there are no pictures"), ("BlockCast", 280, "there is no next picture"), ("BlockCast", 285, "the picture has no such slices"), ("BlockCast", 319, "no picture is shown"), ("BlockCast", 312, "no picture was sent")]
def am_ncs : List (String × String) := [("java/lang/IllegalArgumentException", "java/lang/IndexOutOfBoundsException"), ("java/lang/IllegalStateException", "java/lang/IllegalArgumentException"), ("java/lang/IllegalStateException", "java/lang/IndexOutOfBoundsException"), ("java/lang/UnsupportedOperationException", "java/lang/IllegalArgumentException"), ("java/lang/UnsupportedOperationException", "java/lang/IllegalStateException"), ("java/lang/UnsupportedOperationException", "java/lang/IndexOutOfBoundsException"), ("java/util/NoSuchElementException", "java/lang/IllegalArgumentException"), ("java/util/NoSuchElementException", "java/lang/IndexOutOfBoundsException")]
/-- the world around: the words, the classes, the statics, the script -/
def am_G (A : Nat → Prop) (D : va_G) (ty : Nat → ClassId) (a0 a1 N : Nat) (xs : Int → Int32) (U : State) (H : Heap) : Prop :=
  (∀ w ∈ am_ok, w.before #[] U = true) ∧ va_K D am_cs (am_tys ty) U ∧
  vx_Zq Bundle.tN "UNASSIGNED_STACK" Bundle.steD A U H ∧ vx_Zq Bundle.tN "SUPPRESSED_SENTINEL" Bundle.listD A U H ∧
  (∀ q ∈ am_strs, ∃ sa, vk_R q.1 q.2.1 q.2.2 sa U) ∧ va_Z "BlockCast$Scribe" "ROW" "[I" (.ref a0) A U H ∧
  va_T .int a0 16 (fun j => .int (am_row j)) A U H ∧ va_T .int a1 N (fun j => .int (xs j)) A U H ∧
  (∀ q ∈ am_ncs, va_Nc q.1 q.2 U) ∧ va_AO "BlockCast$Picture" U ∧ am_AI U
theorem am_nc_moved {C T : String} {u U : State} (hvm : u.vm.Alike U.vm) (h : va_Nc C T u) : va_Nc C T U := by
  obtain ⟨c, t, h1, h2, h3⟩ := h
  exact ⟨c, t, by rw [hvm.findClass]; exact h1, by rw [hvm.findClass]; exact h2, by rw [hvm.assignable]; exact h3⟩
theorem am_G.moved {A : Nat → Prop} {D : va_G} {ty : Nat → ClassId} {a0 a1 N : Nat} {xs : Int → Int32} {s U : State} {H H1 : Heap} (hW : s.WarmedH U.vm) (hq : ∀ a : Nat, a < H.size → ¬ A a → H1[a]? = H[a]?) (h : am_G A D ty a0 a1 N xs s H) : am_G A D ty a0 a1 N xs U H1 := by
  obtain ⟨h1, h2, h3, h4, h5, h6, h7, h8, h9, h10, h11⟩ := h
  refine ⟨fun w hw => am_mv_at (List.mem_filter.mp hw).2 hW (h1 w hw), va_K.moved hW.alike h2, (h3.moved hW.alike).kept hq, (h4.moved hW.alike).kept hq, fun q hq' => ?_, (h6.moved hW.alike).kept hq, (h7.moved hW.alike).kept hq, (h8.moved hW.alike).kept hq, fun q hq' => am_nc_moved hW.alike (h9 q hq'), h10.moved hW.alike, h11.moved hW.alike⟩
  obtain ⟨sa, hs⟩ := h5 q hq'
  exact ⟨sa, vk_R.warm hW hs⟩
theorem am_G.same {A : Nat → Prop} {D : va_G} {ty : Nat → ClassId} {a0 a1 N : Nat} {xs : Int → Int32} {s U : State} {H : Heap} (hv : s.vm = U.vm) (h : am_G A D ty a0 a1 N xs s H) : am_G A D ty a0 a1 N xs U H := by
  have hW : s.WarmedH U.vm := by rw [← hv]; exact State.WarmedH.refl _
  exact h.moved hW (fun _ _ _ => rfl)
theorem am_G.word {A : Nat → Prop} {D : va_G} {ty : Nat → ClassId} {a0 a1 N : Nat} {xs : Int → Int32} {s : State} {H : Heap} {args : Array Value} (h : am_G A D ty a0 a1 N xs s H) {w : Jvm.Cond} (hw : w ∈ am_ok) : w.before args s = true :=
  am_mv_args (List.mem_filter.mp hw).2 rfl (h.1 w hw)
/-! ===== values, cells and heaps of the abstract machine in the real one ===== -/
def am_cv (ad : Nat → Nat) (v : Value) : Value := match v with
  | .ref k => .ref (ad k)
  | v => v
def am_ct (ad : Nat → Nat) (n : Nat) (c : am_A) : vp_A := match c with
  | .inl f => (n, .inl fun j => f j)
  | .inr (.inl f) => (n, .inr (.inl fun j => f j))
  | .inr (.inr (.inl f)) => (n, .inr (.inr (.inr (.inl fun j => f j))))
  | .inr (.inr (.inr f)) => (n, .inr (.inr (.inr (.inr fun j => (f j).map ad))))
def am_fl (ad : Nat → Nat) (ci : Nat) (fs : Nat → Value) : List Value := (List.range (am_nf ci)).map fun k => am_cv ad (fs k)
def am_ce (ad : Nat → Nat) (ty : Nat → ClassId) (c : am_C) : va_E := match c with
  | .inl (t, n, c) => .inl (ty t, am_ct ad n c)
  | .inr (ci, fs) => .inr (ci, am_fl ad ci fs)
def am_wc (ad : Nat → Nat) (ty : Nat → ClassId) (h : am_H) (k : Nat) : Nat × va_E := (ad (k + 2), am_ce ad ty ((hget h (k + 2)).getD (.inr (0, fun _ => .null))))
def am_ws (ad : Nat → Nat) (ty : Nat → ClassId) (h : am_H) : va_W := (List.range (hnx h - 2)).map (am_wc ad ty h)
/-- what a value, a cell may speak of: addresses below the next one -/
def am_vo (n : Nat) (v : Value) : Prop := match v with
  | .ref k => k < n
  | _ => True
def am_co (n : Nat) (c : am_C) : Prop := match c with
  | .inl (_, _, .inr (.inr (.inr f))) => ∀ j r, f j = some r → r < n
  | .inr (_, fs) => ∀ k, am_vo n (fs k)
  | _ => True
def am_kd (c : am_C) : Prop := match c with
  | .inl (t, _, _) => t = 0 ∨ t = 5
  | _ => True
/-- a heap of the abstract machine, laid into a real one -/
def am_RH (A : Nat → Prop) (D : va_G) (ty : Nat → ClassId) (a0 a1 N : Nat) (xs : Int → Int32) (ad : Nat → Nat) (h : am_H) (H : Heap) : Prop :=
  (2 ≤ hnx h ∧ ad 0 = a0 ∧ ad 1 = a1) ∧ (∀ k, 2 ≤ k → k < hnx h → ∃ c, hget h k = some c ∧ am_kd c) ∧ (∀ k, hnx h ≤ k → hget h k = none) ∧ (∀ k c, hget h k = some c → am_co (hnx h) c) ∧
  hget h 0 = some (.inl (7, 16, .inl am_row)) ∧ hget h 1 = some (.inl (7, N, .inl xs)) ∧
  va_P D am_cs (am_ws ad ty h) H ∧ va_D A (am_ws ad ty h)
theorem am_RH.at {A : Nat → Prop} {D : va_G} {ty : Nat → ClassId} {a0 a1 N : Nat} {xs : Int → Int32} {ad : Nat → Nat} {h : am_H} {H : Heap} (r : am_RH A D ty a0 a1 N xs ad h H) {k : Nat} {c : am_C} (hc : hget h k = some c) (hk : 2 ≤ k) : k < hnx h ∧ (am_ws ad ty h)[k - 2]? = some (ad k, am_ce ad ty c) ∧ am_kd c := by
  obtain ⟨⟨h1, -⟩, h2, h3, -⟩ := r
  have hlt : k < hnx h := by
    rcases Nat.lt_or_ge k (hnx h) with q | q
    · exact q
    · rw [h3 k q] at hc; cases hc
  refine ⟨hlt, ?_, ?_⟩
  · simp only [am_ws, List.getElem?_map]
    rw [List.getElem?_range (by omega)]
    simp only [Option.map_some, am_wc]
    rw [show k - 2 + 2 = k by omega, hc]
    rfl
  · obtain ⟨c', h4, h5⟩ := h2 k hk hlt
    rw [hc] at h4
    cases h4
    exact h5
theorem am_RH.lt {A : Nat → Prop} {D : va_G} {ty : Nat → ClassId} {a0 a1 N : Nat} {xs : Int → Int32} {ad : Nat → Nat} {h : am_H} {H : Heap} (r : am_RH A D ty a0 a1 N xs ad h H) {k : Nat} {c : am_C} (hc : hget h k = some c) : k < hnx h := by
  rcases Nat.lt_or_ge k (hnx h) with q | q
  · exact q
  · rw [r.2.2.1 k q] at hc; cases hc
/-- tag 7 marks the two arrays from outside -/
theorem am_RH.big {A : Nat → Prop} {D : va_G} {ty : Nat → ClassId} {a0 a1 N : Nat} {xs : Int → Int32} {ad : Nat → Nat} {h : am_H} {H : Heap} (r : am_RH A D ty a0 a1 N xs ad h H) {k t n : Nat} {c : am_A} (hc : hget h k = some (.inl (t, n, c))) (ht : t ≠ 7) : 2 ≤ k := by
  obtain ⟨-, -, -, -, h5, h6, -⟩ := r
  rcases Nat.lt_or_ge k 2 with q | q
  · have : k = 0 ∨ k = 1 := by omega
    rcases this with rfl | rfl
    · rw [h5] at hc; cases hc; exact absurd rfl ht
    · rw [h6] at hc; cases hc; exact absurd rfl ht
  · exact q
theorem am_RH.bigO {A : Nat → Prop} {D : va_G} {ty : Nat → ClassId} {a0 a1 N : Nat} {xs : Int → Int32} {ad : Nat → Nat} {h : am_H} {H : Heap} (r : am_RH A D ty a0 a1 N xs ad h H) {k ci : Nat} {fs : Nat → Value} (hc : hget h k = some (.inr (ci, fs))) : 2 ≤ k := by
  obtain ⟨-, -, -, -, h5, h6, -⟩ := r
  rcases Nat.lt_or_ge k 2 with q | q
  · have : k = 0 ∨ k = 1 := by omega
    rcases this with rfl | rfl
    · rw [h5] at hc; cases hc
    · rw [h6] at hc; cases hc
  · exact q
/-- a cell is written over: the list of the world's cells -/
theorem am_ws_set {ad : Nat → Nat} {ty : Nat → ClassId} {h : am_H} {k : Nat} {c : am_C} (hk : 2 ≤ k) (hlt : k < hnx h) : am_ws ad ty (hset h k c) = (am_ws ad ty h).set (k - 2) (ad k, am_ce ad ty c) := by
  apply List.ext_getElem?
  intro i
  rw [List.getElem?_set]
  simp only [am_ws, List.getElem?_map, hnx_set, List.length_map, List.length_range]
  by_cases hi : i < hnx h - 2
  · rw [List.getElem?_range hi]
    simp only [Option.map_some, am_wc, hget_set]
    by_cases e : k - 2 = i
    · rw [if_pos e, if_pos (by omega), if_pos (by omega)]
      rw [show i + 2 = k by omega]
      rfl
    · rw [if_neg e, if_neg (by omega)]
  · rw [List.getElem?_eq_none (by simpa using Nat.not_lt.mp hi)]
    rw [if_neg (by omega)]
    rfl
theorem am_RH.set {A : Nat → Prop} {D : va_G} {ty : Nat → ClassId} {a0 a1 N : Nat} {xs : Int → Int32} {ad : Nat → Nat} {h : am_H} {H H1 : Heap} (r : am_RH A D ty a0 a1 N xs ad h H) {k : Nat} {c : am_C} (hk : 2 ≤ k) (hlt : k < hnx h) (hc : am_co (hnx h) c) (hd : am_kd c)
    (hP : va_P D am_cs ((am_ws ad ty h).set (k - 2) (ad k, am_ce ad ty c)) H1) (hD : va_D A ((am_ws ad ty h).set (k - 2) (ad k, am_ce ad ty c))) : am_RH A D ty a0 a1 N xs ad (hset h k c) H1 := by
  obtain ⟨h1, h2, h3, h4, h5, h6, -, -⟩ := r
  refine ⟨h1, fun j hj hl => ?_, fun j hj => ?_, fun j c' hj => ?_, ?_, ?_, ?_, ?_⟩
  · rw [hget_set]
    by_cases e : j = k
    · rw [if_pos e]; exact ⟨c, rfl, hd⟩
    · rw [if_neg e]; exact h2 j hj hl
  · rw [hnx_set] at hj
    rw [hget_set, if_neg (by omega)]
    exact h3 j hj
  · rw [hget_set] at hj
    by_cases e : j = k
    · rw [if_pos e] at hj; cases hj; exact hc
    · rw [if_neg e] at hj; exact h4 j c' hj
  · rw [hget_set, if_neg (by omega)]; exact h5
  · rw [hget_set, if_neg (by omega)]; exact h6
  · rw [am_ws_set hk hlt]; exact hP
  · rw [am_ws_set hk hlt]; exact hD
/-! values under another map that agrees below the next address -/
theorem am_cv_ag {ad ad' : Nat → Nat} {n : Nat} (hag : ∀ k, k < n → ad' k = ad k) {v : Value} (hv : am_vo n v) : am_cv ad' v = am_cv ad v := by
  cases v with
  | ref k => simp only [am_cv]; rw [hag k hv]
  | _ => rfl
theorem am_ce_ag {ad ad' : Nat → Nat} {ty : Nat → ClassId} {n : Nat} (hag : ∀ k, k < n → ad' k = ad k) {c : am_C} (hc : am_co n c) : am_ce ad' ty c = am_ce ad ty c := by
  match c, hc with
  | .inl (t, m, .inl f), _ => rfl
  | .inl (t, m, .inr (.inl f)), _ => rfl
  | .inl (t, m, .inr (.inr (.inl f))), _ => rfl
  | .inl (t, m, .inr (.inr (.inr f))), hc =>
    simp only [am_ce, am_ct]
    congr 8
    funext j
    cases hf : f j with
    | none => rfl
    | some r => simp only [Option.map_some]; rw [hag r (hc _ _ hf)]
  | .inr (ci, fs), hc =>
    simp only [am_ce, am_fl]
    congr 3
    funext k
    exact am_cv_ag hag (hc k)
theorem am_vo.le {n m : Nat} (h : n ≤ m) {v : Value} (hv : am_vo n v) : am_vo m v := by
  cases v with
  | ref k => exact Nat.lt_of_lt_of_le hv h
  | _ => trivial
theorem am_co.le {n m : Nat} (h : n ≤ m) {c : am_C} (hc : am_co n c) : am_co m c := by
  match c, hc with
  | .inl (t, q, .inl f), _ => trivial
  | .inl (t, q, .inr (.inl f)), _ => trivial
  | .inl (t, q, .inr (.inr (.inl f))), _ => trivial
  | .inl (t, q, .inr (.inr (.inr f))), hc => exact fun j r hj => Nat.lt_of_lt_of_le (hc j r hj) h
  | .inr (ci, fs), hc => exact fun k => (hc k).le h
/-- a cell is made -/
theorem am_RH.alc {A : Nat → Prop} {D : va_G} {ty : Nat → ClassId} {a0 a1 N : Nat} {xs : Int → Int32} {ad ad' : Nat → Nat} {h : am_H} {H H1 : Heap} (r : am_RH A D ty a0 a1 N xs ad h H) {c : am_C} {n : Nat} (hag : ∀ k, k < hnx h → ad' k = ad k) (hc : am_co (hnx h) c) (hd : am_kd c)
    (hP : va_P D am_cs (am_ws ad ty h ++ [(ad' (hnx h), am_ce ad ty c)]) H1) (hD : va_D A (am_ws ad ty h ++ [(ad' (hnx h), am_ce ad ty c)])) : am_RH A D ty a0 a1 N xs ad' (halc h n c) H1 := by
  obtain ⟨⟨h1, h1a, h1b⟩, h2, h3, h4, h5, h6, -, -⟩ := r
  have key : am_ws ad' ty (halc h n c) = am_ws ad ty h ++ [(ad' (hnx h), am_ce ad ty c)] := by
    have e1 : hnx (halc h n c) - 2 = (hnx h - 2) + 1 := by rw [hnx_alc]; omega
    unfold am_ws
    rw [e1, List.range_succ, List.map_append, List.map_singleton]
    congr 1
    · apply List.map_congr_left
      intro j hj
      have hj' : j < hnx h - 2 := List.mem_range.mp hj
      obtain ⟨c', hc', -⟩ := h2 (j + 2) (by omega) (by omega)
      simp only [am_wc, hget_alc]
      rw [if_neg (by omega), hag _ (by omega), hc', Option.getD_some, am_ce_ag hag (h4 _ _ hc')]
    · simp only [am_wc, hget_alc]
      rw [show hnx h - 2 + 2 = hnx h by omega, if_pos rfl, Option.getD_some, am_ce_ag hag hc]
  refine ⟨⟨by rw [hnx_alc]; omega, by rw [hag 0 (by omega)]; exact h1a, by rw [hag 1 (by omega)]; exact h1b⟩, fun j hj hl => ?_, fun j hj => ?_, fun j c' hj => ?_, ?_, ?_, ?_, ?_⟩
  · rw [hget_alc]
    by_cases e : j = hnx h
    · rw [if_pos e]; exact ⟨c, rfl, hd⟩
    · rw [if_neg e]; exact h2 j hj (by rw [hnx_alc] at hl; omega)
  · rw [hnx_alc] at hj
    rw [hget_alc, if_neg (by omega)]
    exact h3 j (by omega)
  · rw [hnx_alc]
    rw [hget_alc] at hj
    by_cases e : j = hnx h
    · rw [if_pos e] at hj; cases hj; exact hc.le (Nat.le_succ _)
    · rw [if_neg e] at hj; exact (h4 j c' hj).le (Nat.le_succ _)
  · rw [hget_alc, if_neg (by omega)]; exact h5
  · rw [hget_alc, if_neg (by omega)]; exact h6
  · rw [key]; exact hP
  · rw [key]; exact hD
