/-! ===== every run of the abstract machine is the real one's ===== -/
section AMAIN
variable {A : Nat → Prop} {D : va_G} {ty : Nat → ClassId} {a0 a1 N : Nat} {xs : Int → Int32} {l : Launch}
theorem am_len1 {as : List Value} (h : as.length = 1) : ∃ v, as = [v] := by
  match as, h with
  | [v], _ => exact ⟨v, rfl⟩
theorem am_len2 {as : List Value} (h : as.length = 2) : ∃ v w, as = [v, w] := by
  match as, h with
  | [v, w], _ => exact ⟨v, w, rfl⟩
theorem am_law_h : am_hl m_L_law = [] := by decide +kernel
theorem am_tgt {pc : Nat} {off : Int} (h : decide (0 ≤ (pc : Int) + off) = true) : (pc : Int) + off = (((pc : Int) + off).toNat : Int) := by
  have := of_decide_eq_true h
  omega
theorem am_nar_b {x : Int32} (h : am_okV .boolean (.int x) = true) : vp_nar .boolean x = x := by
  have := (am_ok_fit (fun k => k) h).1
  simp only [am_cv] at this
  unfold vp_nar
  rw [this]
theorem am_nar_c {x : Int32} (h : am_okV .char (.int x) = true) : vp_nar .char x = x := by
  have := (am_ok_fit (fun k => k) h).1
  simp only [am_cv] at this
  unfold vp_nar
  rw [this]
set_option maxHeartbeats 4000000 in
theorem am_snd (hall : am_all) : ∀ n, am_Snd A D ty a0 a1 N xs l n
  | 0 => fun p e R s m args below meth c mi adb nb c0 s0 Q pc L st h r h' hs => by cases hs
  | n + 1 => by
    have ih := am_snd hall n
    intro p e R s m args below meth c mi adb nb c0 s0 Q pc L st h r h' hs B hrc hrs hret hthr hunc
    have go : ∀ {pc : Nat} {L st : List Value} {h : am_H}, am_ex n mi pc L st h = some (r, h') → am_Go A D ty a0 a1 N xs p l e R s m args below meth c mi adb nb c0 s0 Q pc L st h := fun {pc L st h} q => ih p e R s m args below meth c mi adb nb c0 s0 Q pc L st h r h' q B hrc hrs hret hthr hunc
    have grow : ∀ {pc : Nat} {L st : List Value} {h : am_H}, am_ex n mi pc L st h = some (r, h') → hcl h ≤ c0 + R.cells ∧ hsl h ≤ s0 + R.slots := fun {pc L st h} q => by
      have g := am_ex_gr _ _ _ _ _ _ _ _ q
      have g1 := g.2.1
      have g2 := g.2.2
      omega
    -- a call's ends
    have call : ∀ {mj : Nat} {as rest : List Value} {h0 : am_H}, am_hOK mi pc → am_bd (am_ex n) mi pc L (am_call mj as rest h0) = some (r, h') → ∃ r1 h1, am_d mj < am_d mi ∧ am_gd (am_sg mj) as = true ∧ (decide (rest.length ≤ 4) || (decide (rest.length ≤ 8) && rest.all fun v => decide (v.category = 1))) = true ∧ am_ex n mj 0 (am_en (am_sg mj) as (am_n mj)) [] h0 = some (r1, h1) ∧ hcl h1 ≤ c0 + R.cells ∧ hsl h1 ≤ s0 + R.slots ∧
        (∀ v, r1 = .inl v → am_Go A D ty a0 a1 N xs p l e R s m args below meth c mi adb nb c0 s0 Q (pc + 3) L (v.toList ++ rest) h1) ∧
        (∀ x, r1 = .inr x → ∀ (ad' : Nat → Nat) (H1 : Heap) (locs1 : List Loc) (ls : Array Slot) (q : Addr) (ce : Cell) (rest' : List Value), (∀ k, k < nb → ad' k = adb k) → nb ≤ hnx h1 → c0 ≤ hcl h1 → s0 ≤ hsl h1 → am_RS A D ty a0 a1 N xs s mi L [] h1 ad' H1 locs1 ls → H1[q]? = some ce → ce.vm = .none → s.vm.findClass (am_exn x) = some ce.cls →
          vx_W p l e R s m args below meth c H1 locs1 (hcl h1 - c0) (hsl h1 - s0) Q (F0 m pc ls rest') q) := by
      intro mj as rest h0 hH hs
      replace hs := iv_g hs
      obtain ⟨k1, hs⟩ := hs
      simp only [Bool.and_eq_true] at k1
      have hs' : am_bd (am_ex n) mi pc L (am_cl mj as rest h0) = some (r, h') := hs
      simp only [am_bd, am_cl] at hs'
      cases hd : decide (am_d mj < am_d mi) with
      | false => rw [hd] at hs'; simp [am_g] at hs'
      | true =>
        rw [hd] at hs'
        simp only [am_g] at hs'
        cases hf : am_ex n mj 0 (am_en (am_sg mj) as (am_n mj)) [] h0 with
        | none => rw [hf] at hs'; simp at hs'
        | some w =>
          obtain ⟨v | x, h1⟩ := w
          · rw [hf] at hs'
            simp only at hs'
            have g := grow hs'
            exact ⟨.inl v, h1, of_decide_eq_true hd, k1.1, k1.2, rfl, g.1, g.2, fun v' hv => by cases hv; exact go hs', fun x hx => (nomatch hx)⟩
          · rw [hf] at hs'
            simp only at hs'
            cases hh : am_hd mi x with
            | none =>
              rw [hh] at hs'
              simp only at hs'
              cases he : (am_hl mi).isEmpty with
              | false => rw [he] at hs'; simp at hs'
              | true =>
                rw [he] at hs'
                simp only [Option.some.injEq, Prod.mk.injEq] at hs'
                obtain ⟨rfl, rfl⟩ := hs'
                exact ⟨.inr x, h1, of_decide_eq_true hd, k1.1, k1.2, rfl, hrc, hrs, fun v' hv => (nomatch hv), fun x' hx => by
                  cases hx
                  intro ad' H1 locs1 ls q ce rest' q1 q2 q3 q4 rs q5 q6 q7
                  exact hunc x pc ad' H1 locs1 ls q ce rest' rfl (by simpa using he) q1 rs.1 rs.2.1 q5 q6 q7⟩
            | some w =>
              obtain ⟨pc', i⟩ := w
              rw [hh] at hs'
              simp only at hs'
              have g := grow hs'
              have hlaw : mi ≠ m_L_law := by
                intro z
                rw [z] at hh
                unfold am_hd at hh
                rw [am_law_h] at hh
                simp at hh
              exact ⟨.inr x, h1, of_decide_eq_true hd, k1.1, k1.2, rfl, g.1, g.2, fun v' hv => (nomatch hv), fun x' hx => by
                cases hx
                intro ad' H1 locs1 ls q ce rest' q1 q2 q3 q4 rs q5 q6 q7
                exact am_caught B hH hh hlaw q1 q2 q3 q4 rs q5 q6 q7 (go hs')⟩
    simp only [am_ex] at hs
    unfold am_so at hs
    cases hi : am_i mi pc with
    | none => rw [hi] at hs; cases hs
    | some ee =>
      obtain ⟨pc1, ins, len, pl, kz⟩ := ee
      obtain ⟨hpc, hd, hI⟩ := am_i_ok hall hi
      simp only at hpc hd hI
      subst hpc
      rw [hi] at hs
      simp only at hs
      cases ins with
      | iload i =>
        replace hs := iv_ldI hs
        obtain ⟨x, hL, hs⟩ := hs
        obtain rfl : len = 2 := hI
        exact sg_iload B hL hd (go hs)
      | iload_n i =>
        replace hs := iv_ldI hs
        obtain ⟨x, hL, hs⟩ := hs
        obtain rfl : len = 1 := hI
        exact sg_iload_n B hL hd (go hs)
      | lload i =>
        replace hs := iv_ldL hs
        obtain ⟨x, hL, hs⟩ := hs
        obtain rfl : len = 2 := hI
        exact sg_lload B hL hd (go hs)
      | lload_n i =>
        replace hs := iv_ldL hs
        obtain ⟨x, hL, hs⟩ := hs
        obtain rfl : len = 1 := hI
        exact sg_lload_n B hL hd (go hs)
      | fload i =>
        replace hs := iv_ldF hs
        obtain ⟨x, hL, hs⟩ := hs
        obtain rfl : len = 2 := hI
        exact sg_fload B hL hd (go hs)
      | fload_n i =>
        replace hs := iv_ldF hs
        obtain ⟨x, hL, hs⟩ := hs
        obtain rfl : len = 1 := hI
        exact sg_fload_n B hL hd (go hs)
      | dload i =>
        replace hs := iv_ldD hs
        obtain ⟨x, hL, hs⟩ := hs
        obtain rfl : len = 2 := hI
        exact sg_dload B hL hd (go hs)
      | dload_n i =>
        replace hs := iv_ldD hs
        obtain ⟨x, hL, hs⟩ := hs
        obtain rfl : len = 1 := hI
        exact sg_dload_n B hL hd (go hs)
      | aload i =>
        obtain rfl : len = 2 := hI
        replace hs : am_bd (am_ex n) mi pc1 L (am_ldA L i fun x => am_nx (pc1 + 2) L (x :: st) h) = some (r, h') := hs
        replace hs := iv_ldA hs
        rcases hs with ⟨a, hL, hs⟩ | ⟨hL, hs⟩
        · exact sg_aload B hL hd (go hs)
        · exact sg_aloadN B hL hd (go hs)
      | aload_n i =>
        obtain rfl : len = 1 := hI
        replace hs : am_bd (am_ex n) mi pc1 L (am_ldA L i.val fun x => am_nx (pc1 + 1) L (x :: st) h) = some (r, h') := hs
        replace hs := iv_ldA hs
        rcases hs with ⟨a, hL, hs⟩ | ⟨hL, hs⟩
        · exact sg_aload_n B hL hd (go hs)
        · exact sg_aload_nN B hL hd (go hs)
      | istore i =>
        replace hs := iv_pI hs
        obtain ⟨x, st1, rfl, hs⟩ := hs
        obtain ⟨rfl, h2⟩ : len = 2 ∧ _ := hI
        exact sg_istore B h2 hd (go hs)
      | istore_n i =>
        replace hs := iv_pI hs
        obtain ⟨x, st1, rfl, hs⟩ := hs
        obtain ⟨rfl, h2⟩ : len = 1 ∧ _ := hI
        exact sg_istore_n B h2 hd (go hs)
      | lstore i =>
        replace hs := iv_pL hs
        obtain ⟨x, st1, rfl, hs⟩ := hs
        obtain ⟨rfl, h2⟩ : len = 2 ∧ _ := hI
        exact sg_lstore B h2 hd (go hs)
      | lstore_n i =>
        replace hs := iv_pL hs
        obtain ⟨x, st1, rfl, hs⟩ := hs
        obtain ⟨rfl, h2⟩ : len = 1 ∧ _ := hI
        exact sg_lstore_n B h2 hd (go hs)
      | fstore i =>
        replace hs := iv_pF hs
        obtain ⟨x, st1, rfl, hs⟩ := hs
        obtain ⟨rfl, h2⟩ : len = 2 ∧ _ := hI
        exact sg_fstore B h2 hd (go hs)
      | fstore_n i =>
        replace hs := iv_pF hs
        obtain ⟨x, st1, rfl, hs⟩ := hs
        obtain ⟨rfl, h2⟩ : len = 1 ∧ _ := hI
        exact sg_fstore_n B h2 hd (go hs)
      | dstore i =>
        replace hs := iv_pD hs
        obtain ⟨x, st1, rfl, hs⟩ := hs
        obtain ⟨rfl, h2⟩ : len = 2 ∧ _ := hI
        exact sg_dstore B h2 hd (go hs)
      | dstore_n i =>
        replace hs := iv_pD hs
        obtain ⟨x, st1, rfl, hs⟩ := hs
        obtain ⟨rfl, h2⟩ : len = 1 ∧ _ := hI
        exact sg_dstore_n B h2 hd (go hs)
      | astore i =>
        replace hs : am_bd (am_ex n) mi pc1 L (am_pA st fun x st => am_nx (pc1 + len) (am_st L i x) st h) = some (r, h') := hs
        replace hs := iv_pA hs
        obtain ⟨x, st1, rfl, hx, hs⟩ := hs
        obtain ⟨rfl, h2⟩ : len = 2 ∧ _ := hI
        rcases hx with ⟨a, rfl⟩ | rfl
        · exact sg_astore B h2 hd (go hs)
        · exact sg_astoreN B h2 hd (go hs)
      | astore_n i =>
        replace hs : am_bd (am_ex n) mi pc1 L (am_pA st fun x st => am_nx (pc1 + len) (am_st L i.val x) st h) = some (r, h') := hs
        replace hs := iv_pA hs
        obtain ⟨x, st1, rfl, hx, hs⟩ := hs
        obtain ⟨rfl, h2⟩ : len = 1 ∧ _ := hI
        rcases hx with ⟨a, rfl⟩ | rfl
        · exact sg_astore_n B h2 hd (go hs)
        · exact sg_astore_nN B h2 hd (go hs)
      | iconst i =>
        obtain ⟨rfl, h2⟩ : len = 1 ∧ _ := hI
        exact sg_iconst B h2 hd (go hs)
      | bipush i =>
        obtain ⟨rfl, h2⟩ : len = 2 ∧ _ := hI
        exact sg_bipush B h2 hd (go hs)
      | sipush i =>
        obtain ⟨rfl, h2⟩ : len = 3 ∧ _ := hI
        exact sg_sipush B h2 hd (go hs)
      | lconst i =>
        obtain ⟨rfl, h2⟩ : len = 1 ∧ _ := hI
        exact sg_lconst B h2 hd (go hs)
      | ldc i =>
        obtain ⟨rfl, h2⟩ : len = 2 ∧ _ := hI
        exact sg_ldc B h2 hd (go hs)
      | ldc_w i =>
        obtain ⟨rfl, h2⟩ : len = 3 ∧ _ := hI
        exact sg_ldcw B h2 hd (go hs)
      | ldc2_w i =>
        obtain ⟨rfl, h2⟩ : len = 3 ∧ _ := hI
        match pl, h2, hs with
        | [], h2, hs => exact sg_ldc2 B h2 hd (go hs)
        | [_], h2, hs => exact sg_ldc2d B h2 hd (go hs)
        | _ :: _ :: _, h2, hs => exact sg_ldc2 B h2 hd (go hs)
      | fconst f =>
        obtain rfl : len = 1 := hI
        match f, hs, hd with
        | 0, hs, hd => exact sg_fconst0 B hd (go hs)
        | 1, hs, hd => cases hs
        | 2, hs, hd => cases hs
      | dconst f =>
        obtain rfl : len = 1 := hI
        match f, hs, hd with
        | 0, hs, hd => exact sg_dconst0 B hd (go hs)
        | 1, hs, hd => cases hs
      | aconst_null =>
        obtain rfl : len = 1 := hI
        exact sg_null B hd (go hs)
      | iinc i k =>
        replace hs := iv_ldI hs
        obtain ⟨x, hL, hs⟩ := hs
        obtain ⟨rfl, h2⟩ : len = 3 ∧ _ := hI
        exact sg_iinc B hL rfl h2 hd (go hs)
      | iadd =>
        replace hs := iv_pI hs
        obtain ⟨y, st1, rfl, hs⟩ := hs
        replace hs := iv_pI hs
        obtain ⟨x, st2, rfl, hs⟩ := hs
        obtain rfl : len = 1 := hI
        exact sg_iadd B hd (go hs)
      | isub =>
        replace hs := iv_pI hs
        obtain ⟨y, st1, rfl, hs⟩ := hs
        replace hs := iv_pI hs
        obtain ⟨x, st2, rfl, hs⟩ := hs
        obtain rfl : len = 1 := hI
        exact sg_isub B hd (go hs)
      | imul =>
        replace hs := iv_pI hs
        obtain ⟨y, st1, rfl, hs⟩ := hs
        replace hs := iv_pI hs
        obtain ⟨x, st2, rfl, hs⟩ := hs
        obtain rfl : len = 1 := hI
        exact sg_imul B hd (go hs)
      | iand =>
        replace hs := iv_pI hs
        obtain ⟨y, st1, rfl, hs⟩ := hs
        replace hs := iv_pI hs
        obtain ⟨x, st2, rfl, hs⟩ := hs
        obtain rfl : len = 1 := hI
        exact sg_iand B hd (go hs)
      | ishl =>
        replace hs := iv_pI hs
        obtain ⟨y, st1, rfl, hs⟩ := hs
        replace hs := iv_pI hs
        obtain ⟨x, st2, rfl, hs⟩ := hs
        obtain rfl : len = 1 := hI
        exact sg_ishl B hd (go hs)
      | ishr =>
        replace hs := iv_pI hs
        obtain ⟨y, st1, rfl, hs⟩ := hs
        replace hs := iv_pI hs
        obtain ⟨x, st2, rfl, hs⟩ := hs
        obtain rfl : len = 1 := hI
        exact sg_ishr B hd (go hs)
      | iushr =>
        replace hs := iv_pI hs
        obtain ⟨y, st1, rfl, hs⟩ := hs
        replace hs := iv_pI hs
        obtain ⟨x, st2, rfl, hs⟩ := hs
        obtain rfl : len = 1 := hI
        exact sg_iushr B hd (go hs)
      | ladd =>
        replace hs := iv_pL hs
        obtain ⟨y, st1, rfl, hs⟩ := hs
        replace hs := iv_pL hs
        obtain ⟨x, st2, rfl, hs⟩ := hs
        obtain rfl : len = 1 := hI
        exact sg_ladd B hd (go hs)
      | lsub =>
        replace hs := iv_pL hs
        obtain ⟨y, st1, rfl, hs⟩ := hs
        replace hs := iv_pL hs
        obtain ⟨x, st2, rfl, hs⟩ := hs
        obtain rfl : len = 1 := hI
        exact sg_lsub B hd (go hs)
      | lmul =>
        replace hs := iv_pL hs
        obtain ⟨y, st1, rfl, hs⟩ := hs
        replace hs := iv_pL hs
        obtain ⟨x, st2, rfl, hs⟩ := hs
        obtain rfl : len = 1 := hI
        exact sg_lmul B hd (go hs)
      | land =>
        replace hs := iv_pL hs
        obtain ⟨y, st1, rfl, hs⟩ := hs
        replace hs := iv_pL hs
        obtain ⟨x, st2, rfl, hs⟩ := hs
        obtain rfl : len = 1 := hI
        exact sg_land B hd (go hs)
      | lshl =>
        replace hs := iv_pI hs
        obtain ⟨y, st1, rfl, hs⟩ := hs
        replace hs := iv_pL hs
        obtain ⟨x, st2, rfl, hs⟩ := hs
        obtain rfl : len = 1 := hI
        exact sg_lshl B hd (go hs)
      | lshr =>
        replace hs := iv_pI hs
        obtain ⟨y, st1, rfl, hs⟩ := hs
        replace hs := iv_pL hs
        obtain ⟨x, st2, rfl, hs⟩ := hs
        obtain rfl : len = 1 := hI
        exact sg_lshr B hd (go hs)
      | lcmp =>
        replace hs := iv_pL hs
        obtain ⟨y, st1, rfl, hs⟩ := hs
        replace hs := iv_pL hs
        obtain ⟨x, st2, rfl, hs⟩ := hs
        obtain rfl : len = 1 := hI
        exact sg_lcmp B hd (go hs)
      | ineg =>
        replace hs := iv_pI hs
        obtain ⟨x, st1, rfl, hs⟩ := hs
        obtain rfl : len = 1 := hI
        exact sg_ineg B hd (go hs)
      | i2l =>
        replace hs := iv_pI hs
        obtain ⟨x, st1, rfl, hs⟩ := hs
        obtain rfl : len = 1 := hI
        exact sg_i2l B hd (go hs)
      | l2i =>
        replace hs := iv_pL hs
        obtain ⟨x, st1, rfl, hs⟩ := hs
        obtain rfl : len = 1 := hI
        exact sg_l2i B hd (go hs)
      | i2c =>
        replace hs := iv_pI hs
        obtain ⟨x, st1, rfl, hs⟩ := hs
        obtain rfl : len = 1 := hI
        exact sg_i2c B hd (go hs)
      | i2f =>
        replace hs := iv_pI hs
        obtain ⟨x, st1, rfl, hs⟩ := hs
        obtain rfl : len = 1 := hI
        exact sg_i2f B hd (go hs)
      | i2d =>
        replace hs := iv_pI hs
        obtain ⟨x, st1, rfl, hs⟩ := hs
        obtain rfl : len = 1 := hI
        exact sg_i2d B hd (go hs)
      | fcmp op =>
        replace hs := iv_pF hs
        obtain ⟨y, st1, rfl, hs⟩ := hs
        replace hs := iv_pF hs
        obtain ⟨x, st2, rfl, hs⟩ := hs
        obtain rfl : len = 1 := hI
        exact sg_fcmp B hd (go hs)
      | dcmp op =>
        replace hs := iv_pD hs
        obtain ⟨y, st1, rfl, hs⟩ := hs
        replace hs := iv_pD hs
        obtain ⟨x, st2, rfl, hs⟩ := hs
        obtain rfl : len = 1 := hI
        exact sg_dcmp B hd (go hs)
      | idiv =>
        replace hs := iv_pI hs
        obtain ⟨y, st1, rfl, hs⟩ := hs
        replace hs := iv_pI hs
        obtain ⟨x, st2, rfl, hs⟩ := hs
        replace hs := iv_g hs
        obtain ⟨hb, hs⟩ := hs
        obtain rfl : len = 1 := hI
        have hb := of_decide_eq_true hb
        exact sg_idiv B hb hd (go hs)
      | irem =>
        replace hs := iv_pI hs
        obtain ⟨y, st1, rfl, hs⟩ := hs
        replace hs := iv_pI hs
        obtain ⟨x, st2, rfl, hs⟩ := hs
        replace hs := iv_g hs
        obtain ⟨hb, hs⟩ := hs
        obtain rfl : len = 1 := hI
        have hb := of_decide_eq_true hb
        exact sg_irem B hb hd (go hs)
      | ldiv =>
        replace hs := iv_pL hs
        obtain ⟨y, st1, rfl, hs⟩ := hs
        replace hs := iv_pL hs
        obtain ⟨x, st2, rfl, hs⟩ := hs
        replace hs := iv_g hs
        obtain ⟨hb, hs⟩ := hs
        obtain rfl : len = 1 := hI
        have hb := of_decide_eq_true hb
        exact sg_ldiv B hb hd (go hs)
      | fdiv =>
        replace hs := iv_pF hs
        obtain ⟨y, st1, rfl, hs⟩ := hs
        replace hs := iv_pF hs
        obtain ⟨x, st2, rfl, hs⟩ := hs
        replace hs := iv_g hs
        obtain ⟨hb, hs⟩ := hs
        obtain rfl : len = 1 := hI
        have hb := of_decide_eq_true hb
        exact sg_fdiv B hb hd (go hs)
      | ddiv =>
        replace hs := iv_pD hs
        obtain ⟨y, st1, rfl, hs⟩ := hs
        replace hs := iv_pD hs
        obtain ⟨x, st2, rfl, hs⟩ := hs
        replace hs := iv_g hs
        obtain ⟨hb, hs⟩ := hs
        obtain rfl : len = 1 := hI
        have hb := of_decide_eq_true hb
        exact sg_ddiv B hb hd (go hs)
      | f2d =>
        replace hs := iv_pF hs
        obtain ⟨x, st1, rfl, hs⟩ := hs
        replace hs := iv_g hs
        obtain ⟨hb, hs⟩ := hs
        obtain rfl : len = 1 := hI
        have hb := of_decide_eq_true hb
        exact sg_f2d B hb hd (go hs)
      | dup =>
        replace hs := iv_pop _ _ _ hs
        obtain ⟨as, rest, rfl, hl, hs⟩ := hs
        obtain ⟨v, rfl⟩ := am_len1 hl
        replace hs := iv_g hs
        obtain ⟨hb, hs⟩ := hs
        obtain rfl : len = 1 := hI
        exact sg_dup B (of_decide_eq_true hb) hd (go hs)
      | dup2 =>
        replace hs := iv_pop _ _ _ hs
        obtain ⟨as, rest, rfl, hl, hs⟩ := hs
        obtain ⟨v, w, rfl⟩ := am_len2 hl
        replace hs := iv_g hs
        obtain ⟨hb, hs⟩ := hs
        obtain rfl : len = 1 := hI
        simp only [Bool.and_eq_true, decide_eq_true_eq] at hb
        exact sg_dup2 B hb.1 hb.2 hd (go hs)
      | goto off =>
        replace hs : am_bd (am_ex n) mi pc1 L (am_g (decide (0 ≤ (pc1 : Int) + off)) (am_nx ((pc1 : Int) + off).toNat L st h)) = some (r, h') := hs
        replace hs := iv_g hs
        obtain ⟨hb, hs⟩ := hs
        obtain rfl : len = 3 := hI
        exact sg_goto B (am_tgt hb) hd (go hs)
      | ifCond cnd off =>
        obtain ⟨rfl, h0⟩ : len = 3 ∧ _ := hI
        have ht : (pc1 : Int) + off = (((pc1 : Int) + off).toNat : Int) := by omega
        cases cnd with
        | eq =>
          replace hs := iv_pI hs
          obtain ⟨x, st1, rfl, hs⟩ := hs
          unfold am_if at hs
          refine sg_if_eq B ht hd (fun z => ?_) (fun z => ?_)
          · rw [if_pos z] at hs
            unfold am_go at hs
            replace hs := iv_g hs
            obtain ⟨hb, hs⟩ := hs
            exact go hs
          · rw [if_neg z] at hs
            exact go hs
        | ne =>
          replace hs := iv_pI hs
          obtain ⟨x, st1, rfl, hs⟩ := hs
          unfold am_if at hs
          refine sg_if_ne B ht hd (fun z => ?_) (fun z => ?_)
          · rw [if_pos z] at hs
            unfold am_go at hs
            replace hs := iv_g hs
            obtain ⟨hb, hs⟩ := hs
            exact go hs
          · rw [if_neg z] at hs
            exact go hs
        | lt =>
          replace hs := iv_pI hs
          obtain ⟨x, st1, rfl, hs⟩ := hs
          unfold am_if at hs
          refine sg_if_lt B ht hd (fun z => ?_) (fun z => ?_)
          · rw [if_pos z] at hs
            unfold am_go at hs
            replace hs := iv_g hs
            obtain ⟨hb, hs⟩ := hs
            exact go hs
          · rw [if_neg z] at hs
            exact go hs
        | ge =>
          replace hs := iv_pI hs
          obtain ⟨x, st1, rfl, hs⟩ := hs
          unfold am_if at hs
          refine sg_if_ge B ht hd (fun z => ?_) (fun z => ?_)
          · rw [if_pos z] at hs
            unfold am_go at hs
            replace hs := iv_g hs
            obtain ⟨hb, hs⟩ := hs
            exact go hs
          · rw [if_neg z] at hs
            exact go hs
        | gt =>
          replace hs := iv_pI hs
          obtain ⟨x, st1, rfl, hs⟩ := hs
          unfold am_if at hs
          refine sg_if_gt B ht hd (fun z => ?_) (fun z => ?_)
          · rw [if_pos z] at hs
            unfold am_go at hs
            replace hs := iv_g hs
            obtain ⟨hb, hs⟩ := hs
            exact go hs
          · rw [if_neg z] at hs
            exact go hs
        | le =>
          replace hs := iv_pI hs
          obtain ⟨x, st1, rfl, hs⟩ := hs
          unfold am_if at hs
          refine sg_if_le B ht hd (fun z => ?_) (fun z => ?_)
          · rw [if_pos z] at hs
            unfold am_go at hs
            replace hs := iv_g hs
            obtain ⟨hb, hs⟩ := hs
            exact go hs
          · rw [if_neg z] at hs
            exact go hs
      | if_icmp cnd off =>
        obtain ⟨rfl, h0⟩ : len = 3 ∧ _ := hI
        have ht : (pc1 : Int) + off = (((pc1 : Int) + off).toNat : Int) := by omega
        cases cnd with
        | eq =>
          replace hs := iv_pI hs
          obtain ⟨y, st1, rfl, hs⟩ := hs
          replace hs := iv_pI hs
          obtain ⟨x, st2, rfl, hs⟩ := hs
          unfold am_if at hs
          refine sg_icmp_eq B ht hd (fun z => ?_) (fun z => ?_)
          · rw [if_pos z] at hs
            unfold am_go at hs
            replace hs := iv_g hs
            obtain ⟨hb, hs⟩ := hs
            exact go hs
          · rw [if_neg z] at hs
            exact go hs
        | ne =>
          replace hs := iv_pI hs
          obtain ⟨y, st1, rfl, hs⟩ := hs
          replace hs := iv_pI hs
          obtain ⟨x, st2, rfl, hs⟩ := hs
          unfold am_if at hs
          refine sg_icmp_ne B ht hd (fun z => ?_) (fun z => ?_)
          · rw [if_pos z] at hs
            unfold am_go at hs
            replace hs := iv_g hs
            obtain ⟨hb, hs⟩ := hs
            exact go hs
          · rw [if_neg z] at hs
            exact go hs
        | lt =>
          replace hs := iv_pI hs
          obtain ⟨y, st1, rfl, hs⟩ := hs
          replace hs := iv_pI hs
          obtain ⟨x, st2, rfl, hs⟩ := hs
          unfold am_if at hs
          refine sg_icmp_lt B ht hd (fun z => ?_) (fun z => ?_)
          · rw [if_pos z] at hs
            unfold am_go at hs
            replace hs := iv_g hs
            obtain ⟨hb, hs⟩ := hs
            exact go hs
          · rw [if_neg z] at hs
            exact go hs
        | ge =>
          replace hs := iv_pI hs
          obtain ⟨y, st1, rfl, hs⟩ := hs
          replace hs := iv_pI hs
          obtain ⟨x, st2, rfl, hs⟩ := hs
          unfold am_if at hs
          refine sg_icmp_ge B ht hd (fun z => ?_) (fun z => ?_)
          · rw [if_pos z] at hs
            unfold am_go at hs
            replace hs := iv_g hs
            obtain ⟨hb, hs⟩ := hs
            exact go hs
          · rw [if_neg z] at hs
            exact go hs
        | gt =>
          replace hs := iv_pI hs
          obtain ⟨y, st1, rfl, hs⟩ := hs
          replace hs := iv_pI hs
          obtain ⟨x, st2, rfl, hs⟩ := hs
          unfold am_if at hs
          refine sg_icmp_gt B ht hd (fun z => ?_) (fun z => ?_)
          · rw [if_pos z] at hs
            unfold am_go at hs
            replace hs := iv_g hs
            obtain ⟨hb, hs⟩ := hs
            exact go hs
          · rw [if_neg z] at hs
            exact go hs
        | le =>
          replace hs := iv_pI hs
          obtain ⟨y, st1, rfl, hs⟩ := hs
          replace hs := iv_pI hs
          obtain ⟨x, st2, rfl, hs⟩ := hs
          unfold am_if at hs
          refine sg_icmp_le B ht hd (fun z => ?_) (fun z => ?_)
          · rw [if_pos z] at hs
            unfold am_go at hs
            replace hs := iv_g hs
            obtain ⟨hb, hs⟩ := hs
            exact go hs
          · rw [if_neg z] at hs
            exact go hs
      | ifnull off =>
        obtain rfl : len = 3 := hI
        match st, hs with
        | .null :: st, hs =>
          replace hs := iv_g hs
          obtain ⟨hb, hs⟩ := hs
          exact sg_ifnullN B (am_tgt hb) hd (go hs)
        | .ref a :: st, hs => exact sg_ifnull B hd (go hs)
        | [], hs => cases hs
        | .int _ :: st, hs => cases hs
        | .long _ :: st, hs => cases hs
        | .float _ :: st, hs => cases hs
        | .double _ :: st, hs => cases hs
        | .retAddr _ :: st, hs => cases hs
      | ifnonnull off =>
        obtain rfl : len = 3 := hI
        match st, hs with
        | .null :: st, hs => exact sg_ifnonnullN B hd (go hs)
        | .ref a :: st, hs =>
          replace hs := iv_g hs
          obtain ⟨hb, hs⟩ := hs
          exact sg_ifnonnull B (am_tgt hb) hd (go hs)
        | [], hs => cases hs
        | .int _ :: st, hs => cases hs
        | .long _ :: st, hs => cases hs
        | .float _ :: st, hs => cases hs
        | .double _ :: st, hs => cases hs
        | .retAddr _ :: st, hs => cases hs
      | tableswitch dd lo hi offs =>
        replace hs := iv_pI hs
        obtain ⟨x, st1, rfl, hs⟩ := hs
        unfold am_sw at hs
        split at hs
        · rename_i hq
          replace hs := iv_g hs
          obtain ⟨hb, hs⟩ := hs
          exact sg_swOut B hq (am_tgt hb) hd (go hs)
        · rename_i hq
          split at hs
          · rename_i off ho
            replace hs := iv_g hs
            obtain ⟨hb, hs⟩ := hs
            exact sg_swIn B hq ho (am_tgt hb) hd (go hs)
          · cases hs
      | lookupswitch dd ps =>
        replace hs := iv_pI hs
        obtain ⟨x, st1, rfl, hs⟩ := hs
        replace hs := iv_g hs
        obtain ⟨hp, hs⟩ := hs
        replace hs := iv_g hs
        obtain ⟨hb, hs⟩ := hs
        exact sg_lookup B hp (am_tgt hb) hd (go hs)
      | getfield ix =>
        replace hs := iv_pR hs
        obtain ⟨a, st1, rfl, hs⟩ := hs
        obtain ⟨rfl, ci, k, kd, C, T, NF, rfl, hci, hk, hw⟩ := hI
        replace hs := iv_ob hs
        obtain ⟨fs, hob, hs⟩ := hs
        have hs2 : am_ex n mi (pc1 + 3) L (fs k :: st1) h = some (r, h') := by
          cases hf : fs k <;> rw [hf] at hs <;> first | exact hs | cases hs
        rcases hw with hw | ⟨host, hw⟩
        · exact sg_getf B hci hk hw hob hd (go hs2)
        · exact sg_getfN B hci hk hw hob hd (go hs2)
      | putfield ix =>
        replace hs := iv_pop _ _ _ hs
        obtain ⟨as, rest, rfl, hl, hs⟩ := hs
        obtain ⟨v, rfl⟩ := am_len1 hl
        replace hs := iv_pR hs
        obtain ⟨a, st1, rfl, hs⟩ := hs
        obtain ⟨rfl, ci, k, kd, C, T, NF, rfl, hci, hk, hw⟩ := hI
        replace hs := iv_ob hs
        obtain ⟨fs, hob, hs⟩ := hs
        replace hs := iv_g hs
        obtain ⟨hv, hs⟩ := hs
        rcases hw with ⟨hw, hf⟩ | ⟨⟨host, hw⟩, hf⟩ | ⟨hw, hf, h1, h2, h3⟩
        · exact sg_putf B hci hk hw hf hob hv hd (go hs)
        · exact sg_putfN B hci hk hw hf hob hv hd (go hs)
        · exact sg_putfF B hci hk hw hf h1 h2 h3 hob hv hd (go hs)
      | getstatic ix =>
        obtain ⟨rfl, hw⟩ : len = 3 ∧ _ := hI
        exact sg_gets B hw hd (go hs)
      | new ix =>
        obtain ⟨rfl, hw⟩ : len = 3 ∧ _ := hI
        rcases hw with ⟨ci, C, T, NF, rfl, hci, w1, w2, w3⟩ | ⟨x, rfl, ht⟩
        · have g := grow hs
          rw [hcl_alc, hsl_alc] at g
          exact sg_new B hci w1 w2 w3 hd g.1 (by rw [(am_cok hci).2.2.2]; exact g.2) (go hs)
        · replace hs := iv_pE hs
          obtain ⟨rfl, hs⟩ := hs
          have hs2 : (Sum.inr x, hexc h) = (r, h') := Option.some.inj hs
          exact hthr pc1 L h ix x hd ht (Prod.mk.inj hs2).1.symm (Prod.mk.inj hs2).2.symm
      | newarray t =>
        replace hs := iv_pI hs
        obtain ⟨x, st1, rfl, hs⟩ := hs
        replace hs := iv_g hs
        obtain ⟨hb, hs⟩ := hs
        obtain ⟨rfl, hw⟩ : len = 2 ∧ _ := hI
        simp only [Bool.and_eq_true, decide_eq_true_eq] at hb
        have g := grow hs
        rw [hcl_alc, hsl_alc] at g
        cases t with
        | boolean => exact absurd hb.2.2 (by decide)
        | char => exact absurd hb.2.2 (by decide)
        | float => exact absurd hb.2.2 (by decide)
        | double => exact absurd hb.2.2 (by decide)
        | byte => exact absurd hb.2.2 (by decide)
        | short => exact absurd hb.2.2 (by decide)
        | int => exact sg_newa_int B hw hb.1 hb.2.1 hd g.1 g.2 (go hs)
        | long => exact absurd hb.2.2 (by decide)
      | anewarray ix =>
        replace hs := iv_pI hs
        obtain ⟨x, st1, rfl, hs⟩ := hs
        obtain ⟨rfl, hw⟩ : len = 3 ∧ _ := hI
        obtain ⟨rfl, hw⟩ := hw
        replace hs := iv_g hs
        obtain ⟨hb, hs⟩ := hs
        simp only [Bool.and_eq_true, decide_eq_true_eq] at hb
        have g := grow hs
        rw [hcl_alc, hsl_alc] at g
        exact sg_anew5 B hw hb.1 hb.2 hd g.1 g.2 (go hs)
      | arraylength =>
        replace hs := iv_pR hs
        obtain ⟨a, st1, rfl, hs⟩ := hs
        replace hs := iv_ar hs
        obtain ⟨t, nn, x, hc, hs⟩ := hs
        obtain rfl : len = 1 := hI
        exact sg_alen B hc hd (go hs)
      | iaload =>
        replace hs := iv_pI hs
        obtain ⟨i, st1, rfl, hs⟩ := hs
        replace hs := iv_pR hs
        obtain ⟨a, st2, rfl, hs⟩ := hs
        replace hs := iv_rI hs
        obtain ⟨t, nn, f, hc, ht, hin, hs⟩ := hs
        obtain rfl : len = 1 := hI
        exact sg_iaload B hc (by simpa using ht) hin hd (go hs)
      | aaload =>
        replace hs := iv_pI hs
        obtain ⟨i, st1, rfl, hs⟩ := hs
        replace hs := iv_pR hs
        obtain ⟨a, st2, rfl, hs⟩ := hs
        replace hs := iv_rA hs
        obtain ⟨t, nn, f, hc, ht, hin, hs⟩ := hs
        obtain rfl : len = 1 := hI
        obtain rfl := ht
        exact sg_aaload5 B hc hin hd (go hs)
      | iastore =>
        replace hs := iv_pI hs
        obtain ⟨x, st1, rfl, hs⟩ := hs
        replace hs := iv_pI hs
        obtain ⟨i, st2, rfl, hs⟩ := hs
        replace hs := iv_pR hs
        obtain ⟨a, st3, rfl, hs⟩ := hs
        replace hs := iv_wI hs
        obtain ⟨nn, f, hc, hin, hs⟩ := hs
        obtain rfl : len = 1 := hI
        exact sg_iastore B hc hin hd (go hs)
      | aastore =>
        replace hs := iv_pop _ _ _ hs
        obtain ⟨as, rest, rfl, hl, hs⟩ := hs
        obtain ⟨v, rfl⟩ := am_len1 hl
        replace hs := iv_pI hs
        obtain ⟨i, st2, rfl, hs⟩ := hs
        replace hs := iv_pR hs
        obtain ⟨a, st3, rfl, hs⟩ := hs
        replace hs := iv_wA hs
        obtain ⟨t, nn, f, hc, hin, hs⟩ := hs
        obtain rfl : len = 1 := hI
        rcases hs with ⟨rfl, ht, hs⟩ | ⟨b, fs, rfl, rfl, hb, hs⟩
        · obtain rfl := ht
          exact sg_aastN5 B hc hin hd (go hs)
        · exact sg_aast5 B hc hb hin hd (go hs)
      | invokestatic ix =>
        obtain ⟨rfl, hw⟩ : len = 3 ∧ _ := hI
        rcases hw with ⟨mj, rfl, hm, hH, hlk, hst, hlk2⟩ | ⟨rfl, hdm, hw⟩ | ⟨rfl, hdm, hw⟩ | ⟨rfl, hdm, hw⟩
        · replace hs := iv_pop _ _ _ hs
          obtain ⟨as, rest, rfl, hl, hs⟩ := hs
          rw [List.append_nil] at hs
          obtain ⟨r1, h1, k1, k2, k3, k4, k5, k6, kr, kx⟩ := call hH hs
          exact sg_callS B ih hm k1 k4 k2 hl k3 hlk hst hlk2 hd k5 k6 kr kx
        · replace hs := iv_pI hs
          obtain ⟨x, st1, rfl, hs⟩ := hs
          replace hs := iv_g hs
          obtain ⟨h8, hs⟩ := hs
          have g := grow hs
          exact sg_mabs B (of_decide_eq_true h8) hdm hw (am_jw_ok _ (by simp [am_jw])) (am_jw_ok _ (by simp [am_jw])) (am_jw_ok _ (by simp [am_jw])) hd g.1 g.2 (go hs)
        · replace hs := iv_pI hs
          obtain ⟨y, st1, rfl, hs⟩ := hs
          replace hs := iv_pI hs
          obtain ⟨x, st2, rfl, hs⟩ := hs
          replace hs := iv_g hs
          obtain ⟨h8, hs⟩ := hs
          have g := grow hs
          exact sg_mmax B (of_decide_eq_true h8) hdm hw (am_jw_ok _ (by simp [am_jw])) (am_jw_ok _ (by simp [am_jw])) (am_jw_ok _ (by simp [am_jw])) hd g.1 g.2 (go hs)
        · replace hs := iv_pI hs
          obtain ⟨y, st1, rfl, hs⟩ := hs
          replace hs := iv_pI hs
          obtain ⟨x, st2, rfl, hs⟩ := hs
          replace hs := iv_g hs
          obtain ⟨h8, hs⟩ := hs
          have g := grow hs
          exact sg_mmin B (of_decide_eq_true h8) hdm hw (am_jw_ok _ (by simp [am_jw])) (am_jw_ok _ (by simp [am_jw])) (am_jw_ok _ (by simp [am_jw])) hd g.1 g.2 (go hs)
      | invokevirtual ix =>
        obtain ⟨rfl, hw⟩ : len = 3 ∧ _ := hI
        rcases hw with ⟨mj, ci, C, T, NF, rfl, hci, hm, hh, hH, hlk, hin, hsel⟩ | ⟨rfl, hdm, hw⟩
        · replace hs := iv_pop _ _ _ hs
          obtain ⟨as, rest, rfl, hl, hs⟩ := hs
          rw [List.append_nil] at hs
          replace hs := iv_pR hs
          obtain ⟨b, st1, rfl, hs⟩ := hs
          replace hs := iv_ob hs
          obtain ⟨fs, hob, hs⟩ := hs
          obtain ⟨r1, h1, k1, k2, k3, k4, k5, k6, kr, kx⟩ := call hH hs
          have hcode : Jvm.Cond.code (am_y mj) (am_b mj) (am_n mj) (am_r mj) ∈ am_ok := by
            rcases hm.1 with q | q
            · exact q.2.2
            · exact absurd hh q.1
          exact sg_callV B ih hm hh hcode k1 hci hob k4 k2 hl k3 hlk hin hsel hd k5 k6 kr kx
        · replace hs := iv_pR hs
          obtain ⟨a, st1, rfl, hs⟩ := hs
          replace hs := iv_g hs
          obtain ⟨h8, hs⟩ := hs
          replace hs := iv_ar hs
          obtain ⟨t, nn, x, hc, hs⟩ := hs
          cases x with
          | inl f =>
            replace hs := iv_g hs
            obtain ⟨ht, hs⟩ := hs
            obtain rfl : t = 0 := by simpa using ht
            have g := grow hs
            rw [hcl_alc, hsl_alc] at g
            exact sg_clone B hc (of_decide_eq_true h8) hdm hw (am_jw_ok _ (by simp [am_jw])) (am_jw_ok _ (by simp [am_jw])) (am_jw_ok _ (by simp [am_jw])) (am_jw_ok _ (by simp [am_jw])) (am_jw_ok _ (by simp [am_jw])) hd g.1 g.2 (go hs)
          | inr _ => cases hs
      | invokespecial ix =>
        obtain ⟨rfl, hw⟩ : len = 3 ∧ _ := hI
        rcases hw with ⟨mj, rfl, hm, hh, hH, hlk, hin, hnm, hrt⟩ | ⟨rfl, hdm, hw⟩
        · replace hs := iv_pop _ _ _ hs
          obtain ⟨as, rest, rfl, hl, hs⟩ := hs
          rw [List.append_nil] at hs
          replace hs := iv_pR hs
          obtain ⟨b, st1, rfl, hs⟩ := hs
          obtain ⟨r1, h1, k1, k2, k3, k4, k5, k6, kr, kx⟩ := call hH hs
          have hcode : Jvm.Cond.code (am_y mj) (am_b mj) (am_n mj) (am_r mj) ∈ am_ok := by
            rcases hm.1 with q | q
            · exact q.2.2
            · exact absurd hh q.1
          exact sg_callI B ih hm hh hcode k1 k4 k2 hl k3 hlk hin hnm hrt hd k5 k6 kr kx
        · replace hs := iv_pR hs
          obtain ⟨a, st1, rfl, hs⟩ := hs
          replace hs := iv_g hs
          obtain ⟨h8, hs⟩ := hs
          exact sg_objInit B (of_decide_eq_true h8) hdm hw (am_jw_ok _ (by simp [am_jw])) (am_jw_ok _ (by simp [am_jw])) hd (go hs)
      | checkcast ix =>
        replace hs := iv_pR hs
        obtain ⟨a, st1, rfl, hs⟩ := hs
        replace hs := iv_ar hs
        obtain ⟨t, nn, x, hc, hs⟩ := hs
        replace hs := iv_g hs
        obtain ⟨ht, hs⟩ := hs
        obtain rfl : t = 0 := by simpa using ht
        obtain ⟨rfl, hw⟩ : len = 3 ∧ _ := hI
        exact sg_cast B hc hw hd (go hs)
      | ireturn =>
        obtain rfl : len = 1 := hI
        replace hs := iv_pI hs
        obtain ⟨x, st1, rfl, hs⟩ := hs
        replace hs := iv_pE hs
        obtain ⟨rfl, hs⟩ := hs
        cases hr : am_r mi with
        | none => rw [hr] at hs; cases hs
        | some t =>
          rw [hr] at hs
          replace hs := iv_g hs
          obtain ⟨hv, hs⟩ := hs
          have hs2 : (Sum.inl (some (Value.int x)), h) = (r, h') := Option.some.inj hs
          obtain ⟨e1, rfl⟩ := Prod.mk.inj hs2
          exact hret pc1 L _ .ireturn _ hd (Or.inl ⟨rfl, x, t, rfl, hr, hv, rfl⟩) e1.symm
      | lreturn =>
        obtain rfl : len = 1 := hI
        replace hs := iv_pL hs
        obtain ⟨x, st1, rfl, hs⟩ := hs
        replace hs := iv_pE hs
        obtain ⟨rfl, hs⟩ := hs
        replace hs := iv_g hs
        obtain ⟨hv, hs⟩ := hs
        have hs2 : (Sum.inl (some (Value.long x)), h) = (r, h') := Option.some.inj hs
        obtain ⟨e1, rfl⟩ := Prod.mk.inj hs2
        exact hret pc1 L _ .lreturn _ hd (Or.inr (Or.inl ⟨rfl, x, rfl, of_decide_eq_true hv, rfl⟩)) e1.symm
      | freturn =>
        obtain rfl : len = 1 := hI
        replace hs := iv_pF hs
        obtain ⟨x, st1, rfl, hs⟩ := hs
        replace hs := iv_pE hs
        obtain ⟨rfl, hs⟩ := hs
        replace hs := iv_g hs
        obtain ⟨hv, hs⟩ := hs
        have hs2 : (Sum.inl (some (Value.float x)), h) = (r, h') := Option.some.inj hs
        obtain ⟨e1, rfl⟩ := Prod.mk.inj hs2
        exact hret pc1 L _ .freturn _ hd (Or.inr (Or.inr (Or.inl ⟨rfl, x, rfl, of_decide_eq_true hv, rfl⟩))) e1.symm
      | dreturn =>
        obtain rfl : len = 1 := hI
        replace hs := iv_pD hs
        obtain ⟨x, st1, rfl, hs⟩ := hs
        replace hs := iv_pE hs
        obtain ⟨rfl, hs⟩ := hs
        replace hs := iv_g hs
        obtain ⟨hv, hs⟩ := hs
        have hs2 : (Sum.inl (some (Value.double x)), h) = (r, h') := Option.some.inj hs
        obtain ⟨e1, rfl⟩ := Prod.mk.inj hs2
        exact hret pc1 L _ .dreturn _ hd (Or.inr (Or.inr (Or.inr (Or.inl ⟨rfl, x, rfl, of_decide_eq_true hv, rfl⟩)))) e1.symm
      | areturn =>
        obtain rfl : len = 1 := hI
        replace hs : am_bd (am_ex n) mi pc1 L (am_pA st fun x st => am_pE st (match am_r mi with | some ty => am_g (am_okV ty x) (am_dn (some x) h) | none => none)) = some (r, h') := hs
        replace hs := iv_pA hs
        obtain ⟨x, st1, rfl, hx, hs⟩ := hs
        replace hs := iv_pE hs
        obtain ⟨rfl, hs⟩ := hs
        cases hr : am_r mi with
        | none => rw [hr] at hs; cases hs
        | some t =>
          rw [hr] at hs
          replace hs := iv_g hs
          obtain ⟨hv, hs⟩ := hs
          have hs2 : (Sum.inl (some x), h) = (r, h') := Option.some.inj hs
          obtain ⟨e1, rfl⟩ := Prod.mk.inj hs2
          exact hret pc1 L _ .areturn _ hd (Or.inr (Or.inr (Or.inr (Or.inr (Or.inl ⟨rfl, x, t, rfl, hx, hr, hv, rfl⟩))))) e1.symm
      | return_ =>
        obtain rfl : len = 1 := hI
        replace hs := iv_pE hs
        obtain ⟨rfl, hs⟩ := hs
        replace hs := iv_g hs
        obtain ⟨hv, hs⟩ := hs
        have hs2 : ((Sum.inl none : Option Value ⊕ Nat), h) = (r, h') := Option.some.inj hs
        obtain ⟨e1, rfl⟩ := Prod.mk.inj hs2
        exact hret pc1 L _ .return_ _ hd (Or.inr (Or.inr (Or.inr (Or.inr (Or.inr ⟨rfl, rfl, of_decide_eq_true hv, rfl⟩))))) e1.symm
      | _ => cases hs
end AMAIN
