/-! ===== numbers: what the instructions make of them ===== -/
theorem mI_add (x y : Int) : mI x + mI y = mI (x + y) := (Int32.ofInt_add x y).symm
theorem mI_sub (x y : Int) : mI x - mI y = mI (x - y) := (Int32.ofInt_sub x y).symm
theorem mI_mul (x y : Int) : mI x * mI y = mI (x * y) := (Int32.ofInt_mul x y).symm
theorem mI_neg (x : Int) : - mI x = mI (-x) := (Int32.ofInt_neg x).symm
theorem mL_add (x y : Int) : mL x + mL y = mL (x + y) := (Int64.ofInt_add x y).symm
theorem mL_sub (x y : Int) : mL x - mL y = mL (x - y) := (Int64.ofInt_sub x y).symm
theorem mL_mul (x y : Int) : mL x * mL y = mL (x * y) := (Int64.ofInt_mul x y).symm
theorem mI_inj {x y : Int32} (h : x.toInt = y.toInt) : x = y := Int32.toInt_inj.mp h
theorem mL_inj {x y : Int64} (h : x.toInt = y.toInt) : x = y := Int64.toInt_inj.mp h
theorem wr_bmod (z : Int) : wr z = z.bmod 4294967296 := Int32.toInt_ofInt
theorem wl_bmod (z : Int) : wl z = z.bmod 18446744073709551616 := Int64.toInt_ofInt
theorem mI_div (x y : Int) : mI x / mI y = mI ((wr x).tdiv (wr y)) := mI_inj (by rw [Int32.toInt_div]; exact (wr_bmod _).symm)
theorem mL_div (x y : Int) : mL x / mL y = mL ((wl x).tdiv (wl y)) := mL_inj (by rw [Int64.toInt_div]; exact (wl_bmod _).symm)
theorem mI_eq0 {x : Int} : mI x = 0 ↔ wr x = 0 := ⟨fun h => by unfold wr; rw [h]; rfl, fun h => mI_inj h⟩
theorem mL_eq0 {x : Int} : mL x = 0 ↔ wl x = 0 := ⟨fun h => by unfold wl; rw [h]; rfl, fun h => mL_inj h⟩
theorem mI_eq {x y : Int} : mI x = mI y ↔ wr x = wr y := ⟨fun h => by unfold wr; rw [h], fun h => mI_inj h⟩
theorem mL_eq {x y : Int} : mL x = mL y ↔ wl x = wl y := ⟨fun h => by unfold wl; rw [h], fun h => mL_inj h⟩
theorem mI_lt {x y : Int} : mI x < mI y ↔ wr x < wr y := Int32.lt_iff_toInt_lt
theorem mI_le {x y : Int} : mI x ≤ mI y ↔ wr x ≤ wr y := Int32.le_iff_toInt_le
theorem mI_lt0 {x : Int} : mI x < 0 ↔ wr x < 0 := Int32.lt_iff_toInt_lt
theorem mI_0lt {x : Int} : 0 < mI x ↔ 0 < wr x := Int32.lt_iff_toInt_lt
theorem mI_le0 {x : Int} : mI x ≤ 0 ↔ wr x ≤ 0 := Int32.le_iff_toInt_le
theorem mI_0le {x : Int} : 0 ≤ mI x ↔ 0 ≤ wr x := Int32.le_iff_toInt_le
theorem mL_lt {x y : Int} : mL x < mL y ↔ wl x < wl y := Int64.lt_iff_toInt_lt
theorem mI_rem (x y : Int) : mI x - mI x / mI y * mI y = mI ((wr x).tmod (wr y)) := by
  rw [mI_div, ← mI_wr x, ← mI_wr y, mI_mul, mI_sub, Int.tmod_def, Int.mul_comm]
def zand (x y : Int) : Int := (mI x &&& mI y).toInt
theorem mI_and (x y : Int) : mI x &&& mI y = mI (zand x y) := (mI_toInt _).symm
theorem emod_toNat32 (x : Int32) : (x.toBitVec.toNat : Int) = x.toInt % 4294967296 := by
  have h := BitVec.toInt_eq_toNat_bmod x.toBitVec
  have e : x.toBitVec.toInt = x.toInt := rfl
  have l := x.toBitVec.isLt
  rw [e] at h
  rw [h, show (4294967296 : Int) = ((2 ^ 32 : Nat) : Int) from rfl, Int.bmod_emod]
  omega
theorem emod_toNat64 (x : Int64) : (x.toBitVec.toNat : Int) = x.toInt % 18446744073709551616 := by
  have h := BitVec.toInt_eq_toNat_bmod x.toBitVec
  have e : x.toBitVec.toInt = x.toInt := rfl
  have l := x.toBitVec.isLt
  rw [e] at h
  rw [h, show (18446744073709551616 : Int) = ((2 ^ 64 : Nat) : Int) from rfl, Int.bmod_emod]
  omega
theorem toNat32 (z : Int) : ((mI z).toBitVec.toNat : Int) = z % 4294967296 := by
  rw [emod_toNat32]
  show wr z % 4294967296 = _
  rw [wr_bmod]
  exact Int.bmod_emod ..
theorem toNat64 (z : Int) : ((mL z).toBitVec.toNat : Int) = z % 18446744073709551616 := by
  rw [emod_toNat64]
  show wl z % 18446744073709551616 = _
  rw [wl_bmod]
  exact Int.bmod_emod ..
theorem toInt_small32 (x : Int32) (h : x.toBitVec.toNat < 2147483648) : x.toInt = x.toBitVec.toNat := by
  have e : x.toInt = x.toBitVec.toInt := rfl
  rw [e, BitVec.toInt_eq_toNat_cond, if_pos (by omega)]
theorem toInt_small64 (x : Int64) (h : x.toBitVec.toNat < 9223372036854775808) : x.toInt = x.toBitVec.toNat := by
  have e : x.toInt = x.toBitVec.toInt := rfl
  rw [e, BitVec.toInt_eq_toNat_cond, if_pos (by omega)]
/-- a mask of k bits -/
theorem mI_mask {x c : Int} {x' : Int} (k : Nat) (hx : wr x = x') (hk : k ≤ 31) (hc : c = 2 ^ k - 1) : mI x &&& mI c = mI (x' % 2 ^ k) := by
  have hp : (2:Int) ^ k ≤ 2 ^ 31 := by exact_mod_cast Nat.pow_le_pow_right (by decide) hk
  have hp0 : (0:Int) < 2 ^ k := Int.pow_pos (by decide)
  have hp1 : (1:Nat) ≤ 2 ^ k := Nat.one_le_two_pow
  have e31 : (2:Int) ^ 31 = 2147483648 := by decide
  have hn : (mI x &&& mI c).toBitVec.toNat = (mI x).toBitVec.toNat % 2 ^ k := by
    rw [Int32.toBitVec_and, BitVec.toNat_and]
    have h2 : (mI c).toBitVec.toNat = 2 ^ k - 1 := by
      have := toNat32 c
      rw [Int.emod_eq_of_lt (by omega) (by omega)] at this
      have h3 : ((2 ^ k - 1 : Nat) : Int) = 2 ^ k - 1 := by
        rw [Int.ofNat_sub hp1]; simp
      omega
    rw [h2, Nat.and_two_pow_sub_one_eq_mod]
  have hlt : (mI x).toBitVec.toNat % 2 ^ k < 2 ^ k := Nat.mod_lt _ (by omega)
  have hpn : 2 ^ k ≤ 2 ^ 31 := Nat.pow_le_pow_right (by decide) hk
  have e31n : 2 ^ 31 = 2147483648 := by decide
  apply mI_inj
  rw [toInt_small32 _ (by rw [hn]; omega), hn]
  have hd : ((2 : Int) ^ k) ∣ 4294967296 := by
    have : (4294967296 : Int) = 2 ^ k * 2 ^ (32 - k) := by rw [← Int.pow_add]; rw [show k + (32 - k) = 32 by omega]; decide
    exact ⟨_, this⟩
  have h0 := Int.emod_nonneg x' (b := 2 ^ k) (by omega)
  have h1 := Int.emod_lt_of_pos x' hp0
  have e1 : (((mI x).toBitVec.toNat % 2 ^ k : Nat) : Int) = x' % 2 ^ k := by
    rw [Int.natCast_emod, emod_toNat32]
    have : (mI x).toInt = x' := hx
    rw [this]
    simp only [Int.natCast_pow]
    exact Int.emod_emod_of_dvd _ hd
  rw [e1]
  exact (wr_id (by omega) (by omega)).symm
theorem mL_mask {x c : Int} {x' : Int} (k : Nat) (hx : wl x = x') (hk : k ≤ 63) (hc : c = 2 ^ k - 1) : mL x &&& mL c = mL (x' % 2 ^ k) := by
  have hp : (2:Int) ^ k ≤ 2 ^ 63 := by exact_mod_cast Nat.pow_le_pow_right (by decide) hk
  have hp0 : (0:Int) < 2 ^ k := Int.pow_pos (by decide)
  have hp1 : (1:Nat) ≤ 2 ^ k := Nat.one_le_two_pow
  have e31 : (2:Int) ^ 63 = 9223372036854775808 := by decide
  have hn : (mL x &&& mL c).toBitVec.toNat = (mL x).toBitVec.toNat % 2 ^ k := by
    rw [Int64.toBitVec_and, BitVec.toNat_and]
    have h2 : (mL c).toBitVec.toNat = 2 ^ k - 1 := by
      have := toNat64 c
      rw [Int.emod_eq_of_lt (by omega) (by omega)] at this
      have h3 : ((2 ^ k - 1 : Nat) : Int) = 2 ^ k - 1 := by
        rw [Int.ofNat_sub hp1]; simp
      omega
    rw [h2, Nat.and_two_pow_sub_one_eq_mod]
  have hlt : (mL x).toBitVec.toNat % 2 ^ k < 2 ^ k := Nat.mod_lt _ (by omega)
  have hpn : 2 ^ k ≤ 2 ^ 63 := Nat.pow_le_pow_right (by decide) hk
  have e31n : 2 ^ 63 = 9223372036854775808 := by decide
  apply mL_inj
  rw [toInt_small64 _ (by rw [hn]; omega), hn]
  have hd : ((2 : Int) ^ k) ∣ 18446744073709551616 := by
    have : (18446744073709551616 : Int) = 2 ^ k * 2 ^ (64 - k) := by rw [← Int.pow_add]; rw [show k + (64 - k) = 64 by omega]; decide
    exact ⟨_, this⟩
  have h0 := Int.emod_nonneg x' (b := 2 ^ k) (by omega)
  have h1 := Int.emod_lt_of_pos x' hp0
  have e1 : (((mL x).toBitVec.toNat % 2 ^ k : Nat) : Int) = x' % 2 ^ k := by
    rw [Int.natCast_emod, emod_toNat64]
    have : (mL x).toInt = x' := hx
    rw [this]
    simp only [Int.natCast_pow]
    exact Int.emod_emod_of_dvd _ hd
  rw [e1]
  exact (wl_id (by omega) (by omega)).symm
theorem smod32 {c : Int} {k : Nat} (hc : wr c = (k : Int)) (hk : k < 32) : ((mI c &&& 31).toBitVec.smod 32) = BitVec.ofNat 32 k := by
  have e : mI c = mI k := by rw [← hc, mI_wr]
  rw [e]
  have : ∀ k : Fin 32, ((mI (k.val : Int) &&& 31).toBitVec.smod 32) = BitVec.ofNat 32 k.val := by decide +kernel
  exact this ⟨k, hk⟩
theorem smod64 {c : Int} {k : Nat} (hc : wr c = (k : Int)) (hk : k < 64) : (((mI c).toInt64 &&& 63).toBitVec.smod 64) = BitVec.ofNat 64 k := by
  have e : mI c = mI k := by rw [← hc, mI_wr]
  rw [e]
  have : ∀ k : Fin 64, (((mI (k.val : Int)).toInt64 &&& 63).toBitVec.smod 64) = BitVec.ofNat 64 k.val := by decide +kernel
  exact this ⟨k, hk⟩
theorem mI_shr {x c x' : Int} {k : Nat} (hx : wr x = x') (hc : wr c = (k : Int)) (hk : k < 32) : mI x >>> (mI c &&& 31) = mI (x' / 2 ^ k) := by
  apply mI_inj
  have e : (mI x >>> (mI c &&& 31)).toBitVec = (mI x).toBitVec.sshiftRight k := by
    rw [Int32.toBitVec_shiftRight, smod32 hc hk]
    show (mI x).toBitVec.sshiftRight (BitVec.ofNat 32 k).toNat = _
    rw [BitVec.toNat_ofNat, Nat.mod_eq_of_lt (by omega)]
  have e2 : (mI x >>> (mI c &&& 31)).toInt = ((mI x).toBitVec.sshiftRight k).toInt := by rw [← e]; rfl
  rw [e2, BitVec.toInt_sshiftRight, Int.shiftRight_eq_div_pow]
  have e3 : (mI x).toBitVec.toInt = x' := hx
  rw [e3]
  have h1 := wr_lo x
  have h2 := wr_hi x
  rw [hx] at h1 h2
  have hp : (1 : Int) ≤ 2 ^ k := by exact_mod_cast Nat.one_le_two_pow
  have h3 : x' / 2 ^ k ≤ 2147483647 := by
    rcases Int.lt_or_le x' 0 with q | q
    · have := Int.ediv_neg_of_neg_of_pos q (show (0:Int) < 2 ^ k by omega)
      omega
    · exact Int.le_trans (Int.ediv_le_self _ q) h2
  have h4 : -2147483648 ≤ x' / 2 ^ k := by
    rw [Int.le_ediv_iff_mul_le (by omega)]
    have : (-2147483648 : Int) * 2 ^ k ≤ -2147483648 * 1 := Int.mul_le_mul_of_nonpos_left (by decide) (by omega)
    omega
  have e4 : ((2 ^ k : Nat) : Int) = (2:Int) ^ k := by simp
  rw [e4]
  exact (wr_id h4 h3).symm
theorem mL_shr {x c x' : Int} {k : Nat} (hx : wl x = x') (hc : wr c = (k : Int)) (hk : k < 64) : mL x >>> ((mI c).toInt64 &&& 63) = mL (x' / 2 ^ k) := by
  apply mL_inj
  have e : (mL x >>> ((mI c).toInt64 &&& 63)).toBitVec = (mL x).toBitVec.sshiftRight k := by
    rw [Int64.toBitVec_shiftRight, smod64 hc hk]
    show (mL x).toBitVec.sshiftRight (BitVec.ofNat 64 k).toNat = _
    rw [BitVec.toNat_ofNat, Nat.mod_eq_of_lt (by omega)]
  have e2 : (mL x >>> ((mI c).toInt64 &&& 63)).toInt = ((mL x).toBitVec.sshiftRight k).toInt := by rw [← e]; rfl
  rw [e2, BitVec.toInt_sshiftRight, Int.shiftRight_eq_div_pow]
  have e3 : (mL x).toBitVec.toInt = x' := hx
  rw [e3]
  have h1 : -9223372036854775808 ≤ x' := by rw [← hx]; exact Int64.le_toInt _
  have h2 : x' ≤ 9223372036854775807 := by
    have := Int64.toInt_lt (mL x)
    have e5 : (mL x).toInt = x' := hx
    omega
  have hp : (1 : Int) ≤ 2 ^ k := by exact_mod_cast Nat.one_le_two_pow
  have h3 : x' / 2 ^ k ≤ 9223372036854775807 := by
    rcases Int.lt_or_le x' 0 with q | q
    · have := Int.ediv_neg_of_neg_of_pos q (show (0:Int) < 2 ^ k by omega)
      omega
    · exact Int.le_trans (Int.ediv_le_self _ q) h2
  have h4 : -9223372036854775808 ≤ x' / 2 ^ k := by
    rw [Int.le_ediv_iff_mul_le (by omega)]
    have : (-9223372036854775808 : Int) * 2 ^ k ≤ -9223372036854775808 * 1 := Int.mul_le_mul_of_nonpos_left (by decide) (by omega)
    omega
  have e4 : ((2 ^ k : Nat) : Int) = (2:Int) ^ k := by simp
  rw [e4]
  exact (wl_id h4 h3).symm
theorem shl_toNat {w : Nat} (v : BitVec w) (k : Nat) : ((v <<< k).toNat : Int) = (v.toNat * 2 ^ k : Int) % (2 ^ w : Nat) := by
  rw [BitVec.toNat_shiftLeft, Nat.shiftLeft_eq, Int.natCast_emod]
  simp
theorem mI_shl {x c : Int} {k : Nat} (hc : wr c = (k : Int)) (hk : k < 32) : mI x <<< (mI c &&& 31) = mI (x * 2 ^ k) := by
  have e : (mI x <<< (mI c &&& 31)).toBitVec = (mI x).toBitVec <<< k := by
    rw [Int32.toBitVec_shiftLeft, smod32 hc hk]
    show (mI x).toBitVec <<< (BitVec.ofNat 32 k).toNat = _
    rw [BitVec.toNat_ofNat, Nat.mod_eq_of_lt (by omega)]
  apply Int32.toBitVec.inj
  rw [e]
  apply BitVec.eq_of_toNat_eq
  have h1 := shl_toNat (mI x).toBitVec k
  have h2 := toNat32 (x * 2 ^ k)
  have h3 := toNat32 x
  apply Int.ofNat.inj
  show (((mI x).toBitVec <<< k).toNat : Int) = ((mI (x * 2 ^ k)).toBitVec.toNat : Int)
  rw [h1, h2, h3]
  show (x % 4294967296 * 2 ^ k) % 4294967296 = _
  rw [Int.mul_emod, Int.emod_emod_of_dvd _ (Int.dvd_refl _), ← Int.mul_emod]
theorem mL_shl {x c : Int} {k : Nat} (hc : wr c = (k : Int)) (hk : k < 64) : mL x <<< ((mI c).toInt64 &&& 63) = mL (x * 2 ^ k) := by
  have e : (mL x <<< ((mI c).toInt64 &&& 63)).toBitVec = (mL x).toBitVec <<< k := by
    rw [Int64.toBitVec_shiftLeft, smod64 hc hk]
    show (mL x).toBitVec <<< (BitVec.ofNat 64 k).toNat = _
    rw [BitVec.toNat_ofNat, Nat.mod_eq_of_lt (by omega)]
  apply Int64.toBitVec.inj
  rw [e]
  apply BitVec.eq_of_toNat_eq
  have h1 := shl_toNat (mL x).toBitVec k
  have h2 := toNat64 (x * 2 ^ k)
  have h3 := toNat64 x
  apply Int.ofNat.inj
  show (((mL x).toBitVec <<< k).toNat : Int) = ((mL (x * 2 ^ k)).toBitVec.toNat : Int)
  rw [h1, h2, h3]
  show (x % 18446744073709551616 * 2 ^ k) % 18446744073709551616 = _
  rw [Int.mul_emod, Int.emod_emod_of_dvd _ (Int.dvd_refl _), ← Int.mul_emod]
theorem toInt32_u (v : UInt32) (h : v.toNat < 2147483648) : v.toInt32 = mI (v.toNat : Int) := by
  apply mI_inj
  have e := toInt_small32 v.toInt32 h
  rw [e]
  exact (wr_id (show (-2147483648 : Int) ≤ v.toNat by omega) (by omega)).symm
theorem and31u {c : Int} {k : Nat} (hc : wr c = (k : Int)) (hk : k < 32) : (mI c).toUInt32 &&& Int32.toUInt32 31 = UInt32.ofNat k := by
  have e : mI c = mI k := by rw [← hc, mI_wr]
  rw [e]
  have : ∀ k : Fin 32, (mI (k.val : Int)).toUInt32 &&& Int32.toUInt32 31 = UInt32.ofNat k.val := by decide +kernel
  exact this ⟨k, hk⟩
theorem mI_ushr {x c : Int} {k : Nat} (hc : wr c = (k : Int)) (hk : k < 32) (hk1 : 1 ≤ k) : ((mI x).toUInt32 >>> ((mI c).toUInt32 &&& Int32.toUInt32 31)).toInt32 = mI (x % 4294967296 / 2 ^ k) := by
  rw [and31u hc hk]
  have h1 : ((mI x).toUInt32 >>> UInt32.ofNat k).toNat = (mI x).toBitVec.toNat / 2 ^ k := by
    rw [UInt32.toNat_shiftRight, Nat.shiftRight_eq_div_pow]
    have : (UInt32.ofNat k).toNat % 32 = k := by
      rw [UInt32.toNat_ofNat']
      omega
    rw [this]
    rfl
  have h2 := toNat32 x
  have l := (mI x).toBitVec.isLt
  have l2 : (mI x).toBitVec.toNat / 2 ^ k ≤ (mI x).toBitVec.toNat / 2 ^ 1 := Nat.div_le_div_left (Nat.pow_le_pow_right (by decide) hk1) (by decide)
  rw [toInt32_u _ (by rw [h1]; omega), h1]
  congr 1
  rw [Int.natCast_ediv, h2]
  simp
theorem mI_toL {x x' : Int} (hx : wr x = x') : (mI x).toInt64 = mL x' := by
  apply mL_inj
  rw [Int32.toInt_toInt64]
  have h1 := wr_lo x
  have h2 := wr_hi x
  rw [hx] at h1 h2
  have e : (mI x).toInt = x' := hx
  rw [e]
  exact (wl_id (by omega) (by omega)).symm
theorem mL_toI (x : Int) : (mL x).toInt32 = mI x := Int64.toInt32_ofInt
theorem mI_i2c (x : Int) : ((mI x).toUInt32 % 65536).toInt32 = mI (x % 65536) := by
  have h1 : ((mI x).toUInt32 % 65536).toNat = (mI x).toBitVec.toNat % 65536 := by
    rw [UInt32.toNat_mod]
    rfl
  rw [toInt32_u _ (by rw [h1]; omega), h1]
  congr 1
  have h2 := toNat32 x
  omega
theorem jabs_mI {x x' : Int} (hx : wr x = x') : am_jabs (mI x) = mI (max x' (-x')) := by
  have e : mI x = mI x' := by rw [← hx, mI_wr]
  have w : wr x' = x' := by rw [← hx, wr_wr]
  unfold am_jabs
  by_cases h : 0 ≤ mI x
  · rw [if_pos h, e]
    have := mI_0le.mp h
    rw [hx] at this
    congr 1; omega
  · rw [if_neg h, e]
    have h3 : ¬ 0 ≤ wr x := fun q => h (mI_0le.mpr q)
    rw [hx] at h3
    have : (0 : Int32) = mI 0 := rfl
    rw [this, mI_sub]
    congr 1; omega
theorem jmax_mI {x y x' y' : Int} (hx : wr x = x') (hy : wr y = y') : am_jmax (mI x) (mI y) = mI (max x' y') := by
  have e : mI x = mI x' := by rw [← hx, mI_wr]
  have e2 : mI y = mI y' := by rw [← hy, mI_wr]
  unfold am_jmax
  by_cases h : mI x < mI y
  · rw [if_pos h, e2]
    have := mI_lt.mp h
    rw [hx, hy] at this
    congr 1; omega
  · rw [if_neg h, e]
    have h3 : ¬ wr x < wr y := fun q => h (mI_lt.mpr q)
    rw [hx, hy] at h3
    congr 1; omega
theorem jmin_mI {x y x' y' : Int} (hx : wr x = x') (hy : wr y = y') : am_jmin (mI x) (mI y) = mI (min x' y') := by
  have e : mI x = mI x' := by rw [← hx, mI_wr]
  have e2 : mI y = mI y' := by rw [← hy, mI_wr]
  unfold am_jmin
  by_cases h : mI y < mI x
  · rw [if_pos h, e2]
    have := mI_lt.mp h
    rw [hx, hy] at this
    congr 1; omega
  · rw [if_neg h, e]
    have h3 : ¬ wr y < wr x := fun q => h (mI_lt.mpr q)
    rw [hx, hy] at h3
    congr 1; omega
/-- a condition as a boolean's int -/
def bZ (p : Prop) [Decidable p] : Int := if p then 1 else 0
theorem wr_bZ (p : Prop) [Decidable p] : wr (bZ p) = bZ p := by
  unfold bZ
  split
  · exact wr_id (by decide) (by decide)
  · exact wr_0
theorem bZ_t {p : Prop} [Decidable p] (h : p) : bZ p = 1 := if_pos h
theorem bZ_f {p : Prop} [Decidable p] (h : ¬ p) : bZ p = 0 := if_neg h
theorem bZ_01 (p : Prop) [Decidable p] : bZ p = 0 ∨ bZ p = 1 := by
  unfold bZ
  split
  · right; rfl
  · left; rfl
/-! ===== the steps ===== -/
def isA (v : Value) : Prop := (∃ a, v = .ref a) ∨ v = .null
theorem isA_ref (a : Nat) : isA (.ref a) := Or.inl ⟨a, rfl⟩
theorem isA_null : isA .null := Or.inr rfl
theorem isA_rv (r : Option Nat) : isA (am_rv r) := by
  cases r with
  | none => exact isA_null
  | some a => exact isA_ref a
theorem isA_cat {v : Value} (h : isA v) : v.category = 1 := by
  rcases h with ⟨a, rfl⟩ | rfl
  · rfl
  · rfl
theorem isA_J {v : Value} (h : isA v) : v ≠ am_J := by
  rcases h with ⟨a, rfl⟩ | rfl
  · intro q; cases q
  · intro q; cases q
theorem am_k1_rv (r : Option Nat) : am_k1 (am_rv r) = am_rv r := by cases r <;> rfl
section TS
variable {m pc pc' len : Nat} {pl : List Nat} {kz : Int} {L L' st : List Value} {h : am_H}
theorem tq_iload {i : Nat} {x : Int32} (hi : am_i m pc = some (pc, .iload i, len, pl, kz)) (hv : L[i]? = some (.int x)) (hp : pc + len = pc') : rn m pc L (st) h = rn m pc' L (.int x :: st) h := by
  subst hp
  rw [rn_st hi]
  show am_bd rn m pc L (am_ldI L i _) = _
  unfold am_ldI
  rw [hv]
  rfl
theorem tq_iload_n {i : Fin 4} {x : Int32} (hi : am_i m pc = some (pc, .iload_n i, len, pl, kz)) (hv : L[i.val]? = some (.int x)) (hp : pc + len = pc') : rn m pc L (st) h = rn m pc' L (.int x :: st) h := by
  subst hp
  rw [rn_st hi]
  show am_bd rn m pc L (am_ldI L i.val _) = _
  unfold am_ldI
  rw [hv]
  rfl
theorem tq_lload {i : Nat} {x : Int64} (hi : am_i m pc = some (pc, .lload i, len, pl, kz)) (hv : L[i]? = some (.long x)) (hp : pc + len = pc') : rn m pc L (st) h = rn m pc' L (.long x :: st) h := by
  subst hp
  rw [rn_st hi]
  show am_bd rn m pc L (am_ldL L i _) = _
  unfold am_ldL
  rw [hv]
  rfl
theorem tq_lload_n {i : Fin 4} {x : Int64} (hi : am_i m pc = some (pc, .lload_n i, len, pl, kz)) (hv : L[i.val]? = some (.long x)) (hp : pc + len = pc') : rn m pc L (st) h = rn m pc' L (.long x :: st) h := by
  subst hp
  rw [rn_st hi]
  show am_bd rn m pc L (am_ldL L i.val _) = _
  unfold am_ldL
  rw [hv]
  rfl
theorem tq_fload {i : Nat} {x : UInt32} (hi : am_i m pc = some (pc, .fload i, len, pl, kz)) (hv : L[i]? = some (.float x)) (hp : pc + len = pc') : rn m pc L (st) h = rn m pc' L (.float x :: st) h := by
  subst hp
  rw [rn_st hi]
  show am_bd rn m pc L (am_ldF L i _) = _
  unfold am_ldF
  rw [hv]
  rfl
theorem tq_fload_n {i : Fin 4} {x : UInt32} (hi : am_i m pc = some (pc, .fload_n i, len, pl, kz)) (hv : L[i.val]? = some (.float x)) (hp : pc + len = pc') : rn m pc L (st) h = rn m pc' L (.float x :: st) h := by
  subst hp
  rw [rn_st hi]
  show am_bd rn m pc L (am_ldF L i.val _) = _
  unfold am_ldF
  rw [hv]
  rfl
theorem tq_dload {i : Nat} {x : UInt64} (hi : am_i m pc = some (pc, .dload i, len, pl, kz)) (hv : L[i]? = some (.double x)) (hp : pc + len = pc') : rn m pc L (st) h = rn m pc' L (.double x :: st) h := by
  subst hp
  rw [rn_st hi]
  show am_bd rn m pc L (am_ldD L i _) = _
  unfold am_ldD
  rw [hv]
  rfl
theorem tq_dload_n {i : Fin 4} {x : UInt64} (hi : am_i m pc = some (pc, .dload_n i, len, pl, kz)) (hv : L[i.val]? = some (.double x)) (hp : pc + len = pc') : rn m pc L (st) h = rn m pc' L (.double x :: st) h := by
  subst hp
  rw [rn_st hi]
  show am_bd rn m pc L (am_ldD L i.val _) = _
  unfold am_ldD
  rw [hv]
  rfl
theorem tq_aload {i : Nat} {v : Value} (hi : am_i m pc = some (pc, .aload i, len, pl, kz)) (hv : L[i]? = some v) (hA : isA v) (hp : pc + len = pc') : rn m pc L (st) h = rn m pc' L (v :: st) h := by
  subst hp
  rw [rn_st hi]
  show am_bd rn m pc L (am_ldA L i fun x => am_nx (pc + len) L (x :: st) h) = _
  unfold am_ldA
  rw [hv]
  rcases hA with ⟨a, rfl⟩ | rfl
  · rfl
  · rfl
theorem tq_aload_n {i : Fin 4} {v : Value} (hi : am_i m pc = some (pc, .aload_n i, len, pl, kz)) (hv : L[i.val]? = some v) (hA : isA v) (hp : pc + len = pc') : rn m pc L (st) h = rn m pc' L (v :: st) h := by
  subst hp
  rw [rn_st hi]
  show am_bd rn m pc L (am_ldA L i.val fun x => am_nx (pc + len) L (x :: st) h) = _
  unfold am_ldA
  rw [hv]
  rcases hA with ⟨a, rfl⟩ | rfl
  · rfl
  · rfl
theorem tq_istore {i : Nat} {x : Int32} (hi : am_i m pc = some (pc, .istore i, len, pl, kz)) (hL : am_st L i (.int x) = L') (hp : pc + len = pc') : rn m pc L (.int x :: st) h = rn m pc' L' (st) h := by
  subst hp
  rw [rn_st hi]
  subst hL
  rfl
theorem tq_istore_n {i : Fin 4} {x : Int32} (hi : am_i m pc = some (pc, .istore_n i, len, pl, kz)) (hL : am_st L i.val (.int x) = L') (hp : pc + len = pc') : rn m pc L (.int x :: st) h = rn m pc' L' (st) h := by
  subst hp
  rw [rn_st hi]
  subst hL
  rfl
theorem tq_lstore {i : Nat} {x : Int64} (hi : am_i m pc = some (pc, .lstore i, len, pl, kz)) (hL : am_s2 L i (.long x) = L') (hp : pc + len = pc') : rn m pc L (.long x :: st) h = rn m pc' L' (st) h := by
  subst hp
  rw [rn_st hi]
  subst hL
  rfl
theorem tq_lstore_n {i : Fin 4} {x : Int64} (hi : am_i m pc = some (pc, .lstore_n i, len, pl, kz)) (hL : am_s2 L i.val (.long x) = L') (hp : pc + len = pc') : rn m pc L (.long x :: st) h = rn m pc' L' (st) h := by
  subst hp
  rw [rn_st hi]
  subst hL
  rfl
theorem tq_fstore {i : Nat} {x : UInt32} (hi : am_i m pc = some (pc, .fstore i, len, pl, kz)) (hL : am_st L i (.float x) = L') (hp : pc + len = pc') : rn m pc L (.float x :: st) h = rn m pc' L' (st) h := by
  subst hp
  rw [rn_st hi]
  subst hL
  rfl
theorem tq_fstore_n {i : Fin 4} {x : UInt32} (hi : am_i m pc = some (pc, .fstore_n i, len, pl, kz)) (hL : am_st L i.val (.float x) = L') (hp : pc + len = pc') : rn m pc L (.float x :: st) h = rn m pc' L' (st) h := by
  subst hp
  rw [rn_st hi]
  subst hL
  rfl
theorem tq_dstore {i : Nat} {x : UInt64} (hi : am_i m pc = some (pc, .dstore i, len, pl, kz)) (hL : am_s2 L i (.double x) = L') (hp : pc + len = pc') : rn m pc L (.double x :: st) h = rn m pc' L' (st) h := by
  subst hp
  rw [rn_st hi]
  subst hL
  rfl
theorem tq_dstore_n {i : Fin 4} {x : UInt64} (hi : am_i m pc = some (pc, .dstore_n i, len, pl, kz)) (hL : am_s2 L i.val (.double x) = L') (hp : pc + len = pc') : rn m pc L (.double x :: st) h = rn m pc' L' (st) h := by
  subst hp
  rw [rn_st hi]
  subst hL
  rfl
theorem tq_astore {i : Nat} {v : Value} (hi : am_i m pc = some (pc, .astore i, len, pl, kz)) (hA : isA v) (hL : am_st L i v = L') (hp : pc + len = pc') : rn m pc L (v :: st) h = rn m pc' L' (st) h := by
  subst hp
  rw [rn_st hi]
  subst hL
  rcases hA with ⟨a, rfl⟩ | rfl
  · rfl
  · rfl
theorem tq_astore_n {i : Fin 4} {v : Value} (hi : am_i m pc = some (pc, .astore_n i, len, pl, kz)) (hA : isA v) (hL : am_st L i.val v = L') (hp : pc + len = pc') : rn m pc L (v :: st) h = rn m pc' L' (st) h := by
  subst hp
  rw [rn_st hi]
  subst hL
  rcases hA with ⟨a, rfl⟩ | rfl
  · rfl
  · rfl
theorem tq_iconst {i : _} (hi : am_i m pc = some (pc, .iconst i, len, pl, kz)) (hp : pc + len = pc') : rn m pc L (st) h = rn m pc' L (.int (mI kz) :: st) h := by
  subst hp
  rw [rn_st hi]
  rfl
theorem tq_bipush {i : _} (hi : am_i m pc = some (pc, .bipush i, len, pl, kz)) (hp : pc + len = pc') : rn m pc L (st) h = rn m pc' L (.int (mI kz) :: st) h := by
  subst hp
  rw [rn_st hi]
  rfl
theorem tq_sipush {i : _} (hi : am_i m pc = some (pc, .sipush i, len, pl, kz)) (hp : pc + len = pc') : rn m pc L (st) h = rn m pc' L (.int (mI kz) :: st) h := by
  subst hp
  rw [rn_st hi]
  rfl
theorem tq_ldc {i : _} (hi : am_i m pc = some (pc, .ldc i, len, pl, kz)) (hp : pc + len = pc') : rn m pc L (st) h = rn m pc' L (.int (mI kz) :: st) h := by
  subst hp
  rw [rn_st hi]
  rfl
theorem tq_ldc_w {i : _} (hi : am_i m pc = some (pc, .ldc_w i, len, pl, kz)) (hp : pc + len = pc') : rn m pc L (st) h = rn m pc' L (.int (mI kz) :: st) h := by
  subst hp
  rw [rn_st hi]
  rfl
theorem tq_lconst {i : _} (hi : am_i m pc = some (pc, .lconst i, len, pl, kz)) (hp : pc + len = pc') : rn m pc L (st) h = rn m pc' L (.long (mL kz) :: st) h := by
  subst hp
  rw [rn_st hi]
  rfl
theorem tq_ldc2_w {i : _} (hi : am_i m pc = some (pc, .ldc2_w i, len, [], kz)) (hp : pc + len = pc') : rn m pc L (st) h = rn m pc' L (.long (mL kz) :: st) h := by
  subst hp
  rw [rn_st hi]
  rfl
theorem tq_ldc2d {i z : _} (hi : am_i m pc = some (pc, .ldc2_w i, len, [z], kz)) (hp : pc + len = pc') : rn m pc L (st) h = rn m pc' L (.double (UInt64.ofNat kz.toNat) :: st) h := by
  subst hp
  rw [rn_st hi]
  rfl
theorem tq_fconst (hi : am_i m pc = some (pc, .fconst 0, len, pl, kz)) (hp : pc + len = pc') : rn m pc L (st) h = rn m pc' L (.float FP.fconst0 :: st) h := by
  subst hp
  rw [rn_st hi]
  rfl
theorem tq_dconst (hi : am_i m pc = some (pc, .dconst 0, len, pl, kz)) (hp : pc + len = pc') : rn m pc L (st) h = rn m pc' L (.double FP.dconst0 :: st) h := by
  subst hp
  rw [rn_st hi]
  rfl
theorem tq_aconst_null (hi : am_i m pc = some (pc, .aconst_null, len, pl, kz)) (hp : pc + len = pc') : rn m pc L (st) h = rn m pc' L (.null :: st) h := by
  subst hp
  rw [rn_st hi]
  rfl
theorem tq_iinc {i : Nat} {n : Int} {x : Int} (hi : am_i m pc = some (pc, .iinc i n, len, pl, kz)) (hv : L[i]? = some (.int (mI x))) (hL : am_st L i (.int (mI (x + n))) = L') (hp : pc + len = pc') : rn m pc L (st) h = rn m pc' L' (st) h := by
  subst hp
  rw [rn_st hi]
  subst hL
  show am_bd rn m pc L (am_ldI L i _) = _
  unfold am_ldI
  rw [hv]
  show rn m (pc + len) (am_st L i (.int (mI x + mI n))) st h = _
  rw [mI_add]
theorem tq_iadd {x y : Int} (hi : am_i m pc = some (pc, .iadd, len, pl, kz)) (hp : pc + len = pc') : rn m pc L (.int (mI y) :: .int (mI x) :: st) h = rn m pc' L (.int (mI (x + y)) :: st) h := by
  subst hp
  rw [rn_st hi]
  show rn m (pc + len) L (.int (mI x + mI y) :: st) h = _
  rw [mI_add]
theorem tq_isub {x y : Int} (hi : am_i m pc = some (pc, .isub, len, pl, kz)) (hp : pc + len = pc') : rn m pc L (.int (mI y) :: .int (mI x) :: st) h = rn m pc' L (.int (mI (x - y)) :: st) h := by
  subst hp
  rw [rn_st hi]
  show rn m (pc + len) L (.int (mI x - mI y) :: st) h = _
  rw [mI_sub]
theorem tq_imul {x y : Int} (hi : am_i m pc = some (pc, .imul, len, pl, kz)) (hp : pc + len = pc') : rn m pc L (.int (mI y) :: .int (mI x) :: st) h = rn m pc' L (.int (mI (x * y)) :: st) h := by
  subst hp
  rw [rn_st hi]
  show rn m (pc + len) L (.int (mI x * mI y) :: st) h = _
  rw [mI_mul]
theorem tq_ladd {x y : Int} (hi : am_i m pc = some (pc, .ladd, len, pl, kz)) (hp : pc + len = pc') : rn m pc L (.long (mL y) :: .long (mL x) :: st) h = rn m pc' L (.long (mL (x + y)) :: st) h := by
  subst hp
  rw [rn_st hi]
  show rn m (pc + len) L (.long (mL x + mL y) :: st) h = _
  rw [mL_add]
theorem tq_lsub {x y : Int} (hi : am_i m pc = some (pc, .lsub, len, pl, kz)) (hp : pc + len = pc') : rn m pc L (.long (mL y) :: .long (mL x) :: st) h = rn m pc' L (.long (mL (x - y)) :: st) h := by
  subst hp
  rw [rn_st hi]
  show rn m (pc + len) L (.long (mL x - mL y) :: st) h = _
  rw [mL_sub]
theorem tq_lmul {x y : Int} (hi : am_i m pc = some (pc, .lmul, len, pl, kz)) (hp : pc + len = pc') : rn m pc L (.long (mL y) :: .long (mL x) :: st) h = rn m pc' L (.long (mL (x * y)) :: st) h := by
  subst hp
  rw [rn_st hi]
  show rn m (pc + len) L (.long (mL x * mL y) :: st) h = _
  rw [mL_mul]
theorem tq_ineg {x : Int} (hi : am_i m pc = some (pc, .ineg, len, pl, kz)) (hp : pc + len = pc') : rn m pc L (.int (mI x) :: st) h = rn m pc' L (.int (mI (-x)) :: st) h := by
  subst hp
  rw [rn_st hi]
  show rn m (pc + len) L (.int (- mI x) :: st) h = _
  rw [mI_neg]
theorem tq_idiv {x y x' y' : Int} (hi : am_i m pc = some (pc, .idiv, len, pl, kz)) (hx : wr x = x') (hy : wr y = y') (h0 : y' ≠ 0) (hp : pc + len = pc') : rn m pc L (.int (mI y) :: .int (mI x) :: st) h = rn m pc' L (.int (mI (x'.tdiv y')) :: st) h := by
  subst hp
  rw [rn_st hi]
  subst hx hy
  have e : ¬ mI y = 0 := fun q => h0 (mI_eq0.mp q)
  show am_bd rn m pc L (am_g (decide (¬ mI y = 0)) _) = _
  rw [decide_eq_true e]
  show rn m (pc + len) L (.int (mI x / mI y) :: st) h = _
  rw [mI_div]
theorem tq_irem {x y x' y' : Int} (hi : am_i m pc = some (pc, .irem, len, pl, kz)) (hx : wr x = x') (hy : wr y = y') (h0 : y' ≠ 0) (hp : pc + len = pc') : rn m pc L (.int (mI y) :: .int (mI x) :: st) h = rn m pc' L (.int (mI (x'.tmod y')) :: st) h := by
  subst hp
  rw [rn_st hi]
  subst hx hy
  have e : ¬ mI y = 0 := fun q => h0 (mI_eq0.mp q)
  show am_bd rn m pc L (am_g (decide (¬ mI y = 0)) _) = _
  rw [decide_eq_true e]
  show rn m (pc + len) L (.int (mI x - mI x / mI y * mI y) :: st) h = _
  rw [mI_rem]
theorem tq_ldiv {x y x' y' : Int} (hi : am_i m pc = some (pc, .ldiv, len, pl, kz)) (hx : wl x = x') (hy : wl y = y') (h0 : y' ≠ 0) (hp : pc + len = pc') : rn m pc L (.long (mL y) :: .long (mL x) :: st) h = rn m pc' L (.long (mL (x'.tdiv y')) :: st) h := by
  subst hp
  rw [rn_st hi]
  subst hx hy
  have e : ¬ mL y = 0 := fun q => h0 (mL_eq0.mp q)
  show am_bd rn m pc L (am_g (decide (¬ mL y = 0)) _) = _
  rw [decide_eq_true e]
  show rn m (pc + len) L (.long (mL x / mL y) :: st) h = _
  rw [mL_div]
theorem tq_iand {x y : Int} (hi : am_i m pc = some (pc, .iand, len, pl, kz)) (hp : pc + len = pc') : rn m pc L (.int (mI y) :: .int (mI x) :: st) h = rn m pc' L (.int (mI (zand x y)) :: st) h := by
  subst hp
  rw [rn_st hi]
  show rn m (pc + len) L (.int (mI x &&& mI y) :: st) h = _
  rw [mI_and]
theorem tq_imask {x c x' : Int} (k : Nat) (hi : am_i m pc = some (pc, .iand, len, pl, kz)) (hx : wr x = x') (hk : k ≤ 31) (hc : c = 2 ^ k - 1) (hp : pc + len = pc') : rn m pc L (.int (mI c) :: .int (mI x) :: st) h = rn m pc' L (.int (mI (x' % 2 ^ k)) :: st) h := by
  subst hp
  rw [rn_st hi]
  show rn m (pc + len) L (.int (mI x &&& mI c) :: st) h = _
  rw [mI_mask k hx hk hc]
theorem tq_lmask {x c x' : Int} (k : Nat) (hi : am_i m pc = some (pc, .land, len, pl, kz)) (hx : wl x = x') (hk : k ≤ 63) (hc : c = 2 ^ k - 1) (hp : pc + len = pc') : rn m pc L (.long (mL c) :: .long (mL x) :: st) h = rn m pc' L (.long (mL (x' % 2 ^ k)) :: st) h := by
  subst hp
  rw [rn_st hi]
  show rn m (pc + len) L (.long (mL x &&& mL c) :: st) h = _
  rw [mL_mask k hx hk hc]
theorem tq_ishr {x c x' : Int} {k : Nat} (hi : am_i m pc = some (pc, .ishr, len, pl, kz)) (hx : wr x = x') (hc : wr c = (k : Int)) (hk : k < 32) (hp : pc + len = pc') : rn m pc L (.int (mI c) :: .int (mI x) :: st) h = rn m pc' L (.int (mI (x' / 2 ^ k)) :: st) h := by
  subst hp
  rw [rn_st hi]
  show rn m (pc + len) L (.int (mI x >>> (mI c &&& 31)) :: st) h = _
  rw [mI_shr hx hc hk]
theorem tq_ishl {x c : Int} {k : Nat} (hi : am_i m pc = some (pc, .ishl, len, pl, kz)) (hc : wr c = (k : Int)) (hk : k < 32) (hp : pc + len = pc') : rn m pc L (.int (mI c) :: .int (mI x) :: st) h = rn m pc' L (.int (mI (x * 2 ^ k)) :: st) h := by
  subst hp
  rw [rn_st hi]
  show rn m (pc + len) L (.int (mI x <<< (mI c &&& 31)) :: st) h = _
  rw [mI_shl hc hk]
theorem tq_iushr {x c : Int} {k : Nat} (hi : am_i m pc = some (pc, .iushr, len, pl, kz)) (hc : wr c = (k : Int)) (hk : k < 32) (hk1 : 1 ≤ k) (hp : pc + len = pc') : rn m pc L (.int (mI c) :: .int (mI x) :: st) h = rn m pc' L (.int (mI (x % 4294967296 / 2 ^ k)) :: st) h := by
  subst hp
  rw [rn_st hi]
  show rn m (pc + len) L (.int ((mI x).toUInt32 >>> ((mI c).toUInt32 &&& Int32.toUInt32 31)).toInt32 :: st) h = _
  rw [mI_ushr hc hk hk1]
theorem tq_lshr {x c x' : Int} {k : Nat} (hi : am_i m pc = some (pc, .lshr, len, pl, kz)) (hx : wl x = x') (hc : wr c = (k : Int)) (hk : k < 64) (hp : pc + len = pc') : rn m pc L (.int (mI c) :: .long (mL x) :: st) h = rn m pc' L (.long (mL (x' / 2 ^ k)) :: st) h := by
  subst hp
  rw [rn_st hi]
  show rn m (pc + len) L (.long (mL x >>> ((mI c).toInt64 &&& 63)) :: st) h = _
  rw [mL_shr hx hc hk]
theorem tq_lshl {x c : Int} {k : Nat} (hi : am_i m pc = some (pc, .lshl, len, pl, kz)) (hc : wr c = (k : Int)) (hk : k < 64) (hp : pc + len = pc') : rn m pc L (.int (mI c) :: .long (mL x) :: st) h = rn m pc' L (.long (mL (x * 2 ^ k)) :: st) h := by
  subst hp
  rw [rn_st hi]
  show rn m (pc + len) L (.long (mL x <<< ((mI c).toInt64 &&& 63)) :: st) h = _
  rw [mL_shl hc hk]
theorem tq_i2l {x x' : Int} (hi : am_i m pc = some (pc, .i2l, len, pl, kz)) (hx : wr x = x') (hp : pc + len = pc') : rn m pc L (.int (mI x) :: st) h = rn m pc' L (.long (mL x') :: st) h := by
  subst hp
  rw [rn_st hi]
  show rn m (pc + len) L (.long (mI x).toInt64 :: st) h = _
  rw [mI_toL hx]
theorem tq_l2i {x : Int} (hi : am_i m pc = some (pc, .l2i, len, pl, kz)) (hp : pc + len = pc') : rn m pc L (.long (mL x) :: st) h = rn m pc' L (.int (mI x) :: st) h := by
  subst hp
  rw [rn_st hi]
  show rn m (pc + len) L (.int (mL x).toInt32 :: st) h = _
  rw [mL_toI]
theorem tq_i2c {x : Int} (hi : am_i m pc = some (pc, .i2c, len, pl, kz)) (hp : pc + len = pc') : rn m pc L (.int (mI x) :: st) h = rn m pc' L (.int (mI (x % 65536)) :: st) h := by
  subst hp
  rw [rn_st hi]
  show rn m (pc + len) L (.int ((mI x).toUInt32 % 65536).toInt32 :: st) h = _
  rw [mI_i2c]
theorem tq_i2f {x : Int32} (hi : am_i m pc = some (pc, .i2f, len, pl, kz)) (hp : pc + len = pc') : rn m pc L (.int x :: st) h = rn m pc' L (.float (FP.i2f x) :: st) h := by
  subst hp
  rw [rn_st hi]
  rfl
theorem tq_i2d {x : Int32} (hi : am_i m pc = some (pc, .i2d, len, pl, kz)) (hp : pc + len = pc') : rn m pc L (.int x :: st) h = rn m pc' L (.double (FP.i2d x) :: st) h := by
  subst hp
  rw [rn_st hi]
  rfl
theorem tq_f2d {x : UInt32} (hi : am_i m pc = some (pc, .f2d, len, pl, kz)) (hg : decide (FP.f2d x &&& 0x7fffffffffffffff ≤ 0x7ff0000000000000) = true) (hp : pc + len = pc') : rn m pc L (.float x :: st) h = rn m pc' L (.double (FP.f2d x) :: st) h := by
  subst hp
  rw [rn_st hi]
  show am_bd rn m pc L (am_g (decide (FP.f2d x &&& 0x7fffffffffffffff ≤ 0x7ff0000000000000)) _) = _
  rw [hg]
  rfl
theorem tq_fdiv {x y : UInt32} (hi : am_i m pc = some (pc, .fdiv, len, pl, kz)) (hg : decide (FP.fdiv x y &&& 0x7fffffff ≤ 0x7f800000) = true) (hp : pc + len = pc') : rn m pc L (.float y :: .float x :: st) h = rn m pc' L (.float (FP.fdiv x y) :: st) h := by
  subst hp
  rw [rn_st hi]
  show am_bd rn m pc L (am_g (decide (FP.fdiv x y &&& 0x7fffffff ≤ 0x7f800000)) _) = _
  rw [hg]
  rfl
theorem tq_ddiv {x y : UInt64} (hi : am_i m pc = some (pc, .ddiv, len, pl, kz)) (hg : decide (FP.ddiv x y &&& 0x7fffffffffffffff ≤ 0x7ff0000000000000) = true) (hp : pc + len = pc') : rn m pc L (.double y :: .double x :: st) h = rn m pc' L (.double (FP.ddiv x y) :: st) h := by
  subst hp
  rw [rn_st hi]
  show am_bd rn m pc L (am_g (decide (FP.ddiv x y &&& 0x7fffffffffffffff ≤ 0x7ff0000000000000)) _) = _
  rw [hg]
  rfl
theorem tq_fcmp {b : _} {x y : UInt32} (hi : am_i m pc = some (pc, .fcmp b, len, pl, kz)) (hp : pc + len = pc') : rn m pc L (.float y :: .float x :: st) h = rn m pc' L (.int (Op.cmpValue (FP.fcmp x y) b) :: st) h := by
  subst hp
  rw [rn_st hi]
  rfl
theorem tq_dcmp {b : _} {x y : UInt64} (hi : am_i m pc = some (pc, .dcmp b, len, pl, kz)) (hp : pc + len = pc') : rn m pc L (.double y :: .double x :: st) h = rn m pc' L (.int (Op.cmpValue (FP.dcmp x y) b) :: st) h := by
  subst hp
  rw [rn_st hi]
  rfl
theorem tq_dup {v : Value} (hi : am_i m pc = some (pc, .dup, len, pl, kz)) (hc : v.category = 1) (hp : pc + len = pc') : rn m pc L (v :: st) h = rn m pc' L (v :: v :: st) h := by
  subst hp
  rw [rn_st hi]
  show am_bd rn m pc L (am_g (decide (v.category = 1)) _) = _
  rw [decide_eq_true hc]
  rfl
theorem tq_dup2 {v w : Value} (hi : am_i m pc = some (pc, .dup2, len, pl, kz)) (hc : v.category = 1) (hc2 : w.category = 1) (hp : pc + len = pc') : rn m pc L (w :: v :: st) h = rn m pc' L (w :: v :: w :: v :: st) h := by
  subst hp
  rw [rn_st hi]
  show am_bd rn m pc L (am_g (decide (v.category = 1) && decide (w.category = 1)) _) = _
  rw [decide_eq_true hc, decide_eq_true hc2]
  rfl
theorem am_go_eq {off : Int} (ht : (pc : Int) + off = (pc' : Int)) (L st : List Value) (h : am_H) : am_go pc off L st h = am_nx pc' L st h := by
  unfold am_go
  rw [decide_eq_true (show 0 ≤ (pc : Int) + off by omega), ht]
  rfl
theorem tq_goto {off : Int} (hi : am_i m pc = some (pc, .goto off, len, pl, kz)) (ht : (pc : Int) + off = (pc' : Int)) : rn m pc L st h = rn m pc' L st h := by
  rw [rn_st hi]
  show am_bd rn m pc L (am_go pc off L st h) = _
  rw [am_go_eq ht]
  rfl
theorem am_if_eq {b c : Prop} [Decidable b] [Decidable c] {off : Int} {pt : Nat} (hb : b ↔ c) (ht : (pc : Int) + off = (pt : Int)) (hp : pc + 3 = pc') (L st : List Value) (h : am_H) : am_bd rn m pc L (am_if b pc off L st h) = if c then rn m pt L st h else rn m pc' L st h := by
  subst hp
  unfold am_if
  by_cases q : b
  · rw [if_pos q, if_pos (hb.mp q), am_go_eq ht]
    rfl
  · rw [if_neg q, if_neg fun x => q (hb.mpr x)]
    rfl
theorem tq_icmp_eq {x y x' y' off : Int} {pt : Nat} (hi : am_i m pc = some (pc, .if_icmp .eq off, len, pl, kz)) (hx : wr x = x') (hy : wr y = y') (ht : (pc : Int) + off = (pt : Int)) (hp : pc + 3 = pc') : rn m pc L (.int (mI y) :: .int (mI x) :: st) h = if x' = y' then rn m pt L st h else rn m pc' L st h := by
  subst hx hy
  rw [rn_st hi]
  exact am_if_eq (mI_eq) ht hp L st h
theorem tq_icmp_ne {x y x' y' off : Int} {pt : Nat} (hi : am_i m pc = some (pc, .if_icmp .ne off, len, pl, kz)) (hx : wr x = x') (hy : wr y = y') (ht : (pc : Int) + off = (pt : Int)) (hp : pc + 3 = pc') : rn m pc L (.int (mI y) :: .int (mI x) :: st) h = if ¬ x' = y' then rn m pt L st h else rn m pc' L st h := by
  subst hx hy
  rw [rn_st hi]
  exact am_if_eq (not_congr mI_eq) ht hp L st h
theorem tq_icmp_lt {x y x' y' off : Int} {pt : Nat} (hi : am_i m pc = some (pc, .if_icmp .lt off, len, pl, kz)) (hx : wr x = x') (hy : wr y = y') (ht : (pc : Int) + off = (pt : Int)) (hp : pc + 3 = pc') : rn m pc L (.int (mI y) :: .int (mI x) :: st) h = if x' < y' then rn m pt L st h else rn m pc' L st h := by
  subst hx hy
  rw [rn_st hi]
  exact am_if_eq (mI_lt) ht hp L st h
theorem tq_icmp_ge {x y x' y' off : Int} {pt : Nat} (hi : am_i m pc = some (pc, .if_icmp .ge off, len, pl, kz)) (hx : wr x = x') (hy : wr y = y') (ht : (pc : Int) + off = (pt : Int)) (hp : pc + 3 = pc') : rn m pc L (.int (mI y) :: .int (mI x) :: st) h = if y' ≤ x' then rn m pt L st h else rn m pc' L st h := by
  subst hx hy
  rw [rn_st hi]
  exact am_if_eq (mI_le) ht hp L st h
theorem tq_icmp_gt {x y x' y' off : Int} {pt : Nat} (hi : am_i m pc = some (pc, .if_icmp .gt off, len, pl, kz)) (hx : wr x = x') (hy : wr y = y') (ht : (pc : Int) + off = (pt : Int)) (hp : pc + 3 = pc') : rn m pc L (.int (mI y) :: .int (mI x) :: st) h = if y' < x' then rn m pt L st h else rn m pc' L st h := by
  subst hx hy
  rw [rn_st hi]
  exact am_if_eq (mI_lt) ht hp L st h
theorem tq_icmp_le {x y x' y' off : Int} {pt : Nat} (hi : am_i m pc = some (pc, .if_icmp .le off, len, pl, kz)) (hx : wr x = x') (hy : wr y = y') (ht : (pc : Int) + off = (pt : Int)) (hp : pc + 3 = pc') : rn m pc L (.int (mI y) :: .int (mI x) :: st) h = if x' ≤ y' then rn m pt L st h else rn m pc' L st h := by
  subst hx hy
  rw [rn_st hi]
  exact am_if_eq (mI_le) ht hp L st h
theorem tq_if_eq {x x' off : Int} {pt : Nat} (hi : am_i m pc = some (pc, .ifCond .eq off, len, pl, kz)) (hx : wr x = x') (ht : (pc : Int) + off = (pt : Int)) (hp : pc + 3 = pc') : rn m pc L (.int (mI x) :: st) h = if x' = 0 then rn m pt L st h else rn m pc' L st h := by
  subst hx
  rw [rn_st hi]
  exact am_if_eq (mI_eq0) ht hp L st h
theorem tq_if_ne {x x' off : Int} {pt : Nat} (hi : am_i m pc = some (pc, .ifCond .ne off, len, pl, kz)) (hx : wr x = x') (ht : (pc : Int) + off = (pt : Int)) (hp : pc + 3 = pc') : rn m pc L (.int (mI x) :: st) h = if ¬ x' = 0 then rn m pt L st h else rn m pc' L st h := by
  subst hx
  rw [rn_st hi]
  exact am_if_eq (not_congr mI_eq0) ht hp L st h
theorem tq_if_lt {x x' off : Int} {pt : Nat} (hi : am_i m pc = some (pc, .ifCond .lt off, len, pl, kz)) (hx : wr x = x') (ht : (pc : Int) + off = (pt : Int)) (hp : pc + 3 = pc') : rn m pc L (.int (mI x) :: st) h = if x' < 0 then rn m pt L st h else rn m pc' L st h := by
  subst hx
  rw [rn_st hi]
  exact am_if_eq (mI_lt0) ht hp L st h
theorem tq_if_ge {x x' off : Int} {pt : Nat} (hi : am_i m pc = some (pc, .ifCond .ge off, len, pl, kz)) (hx : wr x = x') (ht : (pc : Int) + off = (pt : Int)) (hp : pc + 3 = pc') : rn m pc L (.int (mI x) :: st) h = if 0 ≤ x' then rn m pt L st h else rn m pc' L st h := by
  subst hx
  rw [rn_st hi]
  exact am_if_eq (mI_0le) ht hp L st h
theorem tq_if_gt {x x' off : Int} {pt : Nat} (hi : am_i m pc = some (pc, .ifCond .gt off, len, pl, kz)) (hx : wr x = x') (ht : (pc : Int) + off = (pt : Int)) (hp : pc + 3 = pc') : rn m pc L (.int (mI x) :: st) h = if 0 < x' then rn m pt L st h else rn m pc' L st h := by
  subst hx
  rw [rn_st hi]
  exact am_if_eq (mI_0lt) ht hp L st h
theorem tq_if_le {x x' off : Int} {pt : Nat} (hi : am_i m pc = some (pc, .ifCond .le off, len, pl, kz)) (hx : wr x = x') (ht : (pc : Int) + off = (pt : Int)) (hp : pc + 3 = pc') : rn m pc L (.int (mI x) :: st) h = if x' ≤ 0 then rn m pt L st h else rn m pc' L st h := by
  subst hx
  rw [rn_st hi]
  exact am_if_eq (mI_le0) ht hp L st h
theorem bZ_eq0 {p : Prop} [Decidable p] : wr (bZ p) = 0 ↔ ¬ p := by
  rw [wr_bZ]
  unfold bZ
  by_cases q : p
  · simp [q]
  · simp [q]
theorem tq_ifb_eq {p : Prop} [Decidable p] {off : Int} {pt : Nat} (hi : am_i m pc = some (pc, .ifCond .eq off, len, pl, kz)) (ht : (pc : Int) + off = (pt : Int)) (hp : pc + 3 = pc') : rn m pc L (.int (mI (bZ p)) :: st) h = if p then rn m pc' L st h else rn m pt L st h := by
  rw [tq_if_eq hi rfl ht hp]
  by_cases q : p
  · rw [if_pos q, if_neg fun x => bZ_eq0.mp x q]
  · rw [if_neg q, if_pos (bZ_eq0.mpr q)]
theorem tq_ifb_ne {p : Prop} [Decidable p] {off : Int} {pt : Nat} (hi : am_i m pc = some (pc, .ifCond .ne off, len, pl, kz)) (ht : (pc : Int) + off = (pt : Int)) (hp : pc + 3 = pc') : rn m pc L (.int (mI (bZ p)) :: st) h = if p then rn m pt L st h else rn m pc' L st h := by
  rw [tq_if_ne hi rfl ht hp]
  by_cases q : p
  · rw [if_pos q, if_pos fun x => bZ_eq0.mp x q]
  · rw [if_neg q, if_neg fun x => x (bZ_eq0.mpr q)]
theorem Int32_le_0 {x : Int32} : x ≤ 0 ↔ ¬ 0 < x := by
  rw [Int32.le_iff_toInt_le, Int32.lt_iff_toInt_lt]
  omega
theorem Int32_0_le {x : Int32} : 0 ≤ x ↔ ¬ x < 0 := by
  rw [Int32.le_iff_toInt_le, Int32.lt_iff_toInt_lt]
  omega
theorem tq_lcmp_eq {x y x' y' off : Int} {pt pc1 len1 : Nat} {pl1 : List Nat} {kz1 : Int} (hi : am_i m pc = some (pc, .lcmp, len, pl, kz)) (hi1 : am_i m pc1 = some (pc1, .ifCond .eq off, len1, pl1, kz1)) (hp1 : pc + len = pc1) (hx : wl x = x') (hy : wl y = y') (ht : (pc1 : Int) + off = (pt : Int)) (hp : pc1 + 3 = pc') : rn m pc L (.long (mL y) :: .long (mL x) :: st) h = if x' = y' then rn m pt L st h else rn m pc' L st h := by
  subst hx hy hp1
  rw [rn_st hi]
  show rn m (pc + len) L (.int (lg_cmp (mL x) (mL y)) :: st) h = _
  rw [rn_st hi1]
  exact am_if_eq ((lg_cmp_eq _ _).trans mL_eq) ht hp L st h
theorem tq_lcmp_ne {x y x' y' off : Int} {pt pc1 len1 : Nat} {pl1 : List Nat} {kz1 : Int} (hi : am_i m pc = some (pc, .lcmp, len, pl, kz)) (hi1 : am_i m pc1 = some (pc1, .ifCond .ne off, len1, pl1, kz1)) (hp1 : pc + len = pc1) (hx : wl x = x') (hy : wl y = y') (ht : (pc1 : Int) + off = (pt : Int)) (hp : pc1 + 3 = pc') : rn m pc L (.long (mL y) :: .long (mL x) :: st) h = if ¬ x' = y' then rn m pt L st h else rn m pc' L st h := by
  subst hx hy hp1
  rw [rn_st hi]
  show rn m (pc + len) L (.int (lg_cmp (mL x) (mL y)) :: st) h = _
  rw [rn_st hi1]
  exact am_if_eq (not_congr ((lg_cmp_eq _ _).trans mL_eq)) ht hp L st h
theorem tq_lcmp_lt {x y x' y' off : Int} {pt pc1 len1 : Nat} {pl1 : List Nat} {kz1 : Int} (hi : am_i m pc = some (pc, .lcmp, len, pl, kz)) (hi1 : am_i m pc1 = some (pc1, .ifCond .lt off, len1, pl1, kz1)) (hp1 : pc + len = pc1) (hx : wl x = x') (hy : wl y = y') (ht : (pc1 : Int) + off = (pt : Int)) (hp : pc1 + 3 = pc') : rn m pc L (.long (mL y) :: .long (mL x) :: st) h = if x' < y' then rn m pt L st h else rn m pc' L st h := by
  subst hx hy hp1
  rw [rn_st hi]
  show rn m (pc + len) L (.int (lg_cmp (mL x) (mL y)) :: st) h = _
  rw [rn_st hi1]
  exact am_if_eq ((lg_cmp_lt _ _).trans mL_lt) ht hp L st h
theorem tq_lcmp_ge {x y x' y' off : Int} {pt pc1 len1 : Nat} {pl1 : List Nat} {kz1 : Int} (hi : am_i m pc = some (pc, .lcmp, len, pl, kz)) (hi1 : am_i m pc1 = some (pc1, .ifCond .ge off, len1, pl1, kz1)) (hp1 : pc + len = pc1) (hx : wl x = x') (hy : wl y = y') (ht : (pc1 : Int) + off = (pt : Int)) (hp : pc1 + 3 = pc') : rn m pc L (.long (mL y) :: .long (mL x) :: st) h = if y' ≤ x' then rn m pt L st h else rn m pc' L st h := by
  subst hx hy hp1
  rw [rn_st hi]
  show rn m (pc + len) L (.int (lg_cmp (mL x) (mL y)) :: st) h = _
  rw [rn_st hi1]
  exact am_if_eq (Int32_0_le.trans ((not_congr ((lg_cmp_lt _ _).trans mL_lt)).trans Int.not_lt)) ht hp L st h
theorem tq_lcmp_gt {x y x' y' off : Int} {pt pc1 len1 : Nat} {pl1 : List Nat} {kz1 : Int} (hi : am_i m pc = some (pc, .lcmp, len, pl, kz)) (hi1 : am_i m pc1 = some (pc1, .ifCond .gt off, len1, pl1, kz1)) (hp1 : pc + len = pc1) (hx : wl x = x') (hy : wl y = y') (ht : (pc1 : Int) + off = (pt : Int)) (hp : pc1 + 3 = pc') : rn m pc L (.long (mL y) :: .long (mL x) :: st) h = if y' < x' then rn m pt L st h else rn m pc' L st h := by
  subst hx hy hp1
  rw [rn_st hi]
  show rn m (pc + len) L (.int (lg_cmp (mL x) (mL y)) :: st) h = _
  rw [rn_st hi1]
  exact am_if_eq ((lg_cmp_gt _ _).trans mL_lt) ht hp L st h
theorem tq_lcmp_le {x y x' y' off : Int} {pt pc1 len1 : Nat} {pl1 : List Nat} {kz1 : Int} (hi : am_i m pc = some (pc, .lcmp, len, pl, kz)) (hi1 : am_i m pc1 = some (pc1, .ifCond .le off, len1, pl1, kz1)) (hp1 : pc + len = pc1) (hx : wl x = x') (hy : wl y = y') (ht : (pc1 : Int) + off = (pt : Int)) (hp : pc1 + 3 = pc') : rn m pc L (.long (mL y) :: .long (mL x) :: st) h = if x' ≤ y' then rn m pt L st h else rn m pc' L st h := by
  subst hx hy hp1
  rw [rn_st hi]
  show rn m (pc + len) L (.int (lg_cmp (mL x) (mL y)) :: st) h = _
  rw [rn_st hi1]
  exact am_if_eq (Int32_le_0.trans ((not_congr ((lg_cmp_gt _ _).trans mL_lt)).trans Int.not_lt)) ht hp L st h
theorem tq_ifnull {r : Option Nat} {off : Int} {pt : Nat} (hi : am_i m pc = some (pc, .ifnull off, 3, pl, kz)) (ht : (pc : Int) + off = (pt : Int)) (hp : pc + 3 = pc') : rn m pc L (am_rv r :: st) h = if r = none then rn m pt L st h else rn m pc' L st h := by
  subst hp
  rw [rn_st hi]
  cases r with
  | none =>
    rw [if_pos rfl]
    show am_bd rn m pc L (am_go pc off L st h) = _
    rw [am_go_eq ht]
    rfl
  | some a =>
    rw [if_neg fun q => nomatch q]
    rfl
theorem tq_ifnonnull {r : Option Nat} {off : Int} {pt : Nat} (hi : am_i m pc = some (pc, .ifnonnull off, 3, pl, kz)) (ht : (pc : Int) + off = (pt : Int)) (hp : pc + 3 = pc') : rn m pc L (am_rv r :: st) h = if ¬ r = none then rn m pt L st h else rn m pc' L st h := by
  subst hp
  rw [rn_st hi]
  cases r with
  | none =>
    rw [if_neg fun q => q rfl]
    rfl
  | some a =>
    rw [if_pos fun q => nomatch q]
    show am_bd rn m pc L (am_go pc off L st h) = _
    rw [am_go_eq ht]
    rfl
theorem tq_ifnull_r {a : Nat} {off : Int} (hi : am_i m pc = some (pc, .ifnull off, len, pl, kz)) (hp : pc + len = pc') : rn m pc L (.ref a :: st) h = rn m pc' L st h := by
  subst hp
  rw [rn_st hi]
  rfl
theorem tq_ifnonnull_r {a : Nat} {off : Int} (hi : am_i m pc = some (pc, .ifnonnull off, len, pl, kz)) (ht : (pc : Int) + off = (pc' : Int)) : rn m pc L (.ref a :: st) h = rn m pc' L st h := by
  rw [rn_st hi]
  show am_bd rn m pc L (am_go pc off L st h) = _
  rw [am_go_eq ht]
  rfl
/-- a switch -/
def sw {α : Type} (x : Int) (f : Nat → α) (d : Nat) : Int → List Nat → α
  | _, [] => f d
  | k, t :: ts => if x = k then f t else sw x f d (k + 1) ts
theorem sw_df {α : Type} {x : Int} (f : Nat → α) (d : Nat) : ∀ (ts : List Nat) (k : Int), (x < k ∨ k + ts.length ≤ x) → sw x f d k ts = f d
  | [], _, _ => rfl
  | t :: ts, k, hx => by
    have e : ((t :: ts).length : Int) = ts.length + 1 := by simp
    rw [sw, if_neg (by omega)]
    exact sw_df f d ts (k + 1) (by omega)
theorem sw_at {α : Type} {x : Int} (f : Nat → α) (d : Nat) : ∀ (ts : List Nat) (k : Int) (n : Nat) (t : Nat), ts[n]? = some t → x = k + n → sw x f d k ts = f t
  | [], _, n, t, h, _ => by simp at h
  | t0 :: ts, k, 0, t, h, hx => by
    rw [sw, if_pos (by omega)]
    simp at h
    rw [h]
  | t0 :: ts, k, n + 1, t, h, hx => by
    rw [sw, if_neg (by omega)]
    exact sw_at f d ts (k + 1) n t (by simpa using h) (by omega)
theorem tq_switch {x x' d lo hi' : Int} {offs : Array Int} {dt : Nat} {ts : List Nat} (hi : am_i m pc = some (pc, .tableswitch d lo hi' offs, len, pl, kz)) (hx : wr x = x') (hd : (pc : Int) + d = (dt : Int)) (hn : lo + ts.length = hi' + 1) (ho : offs.toList.map (fun o => (pc : Int) + o) = ts.map fun (t : Nat) => (t : Int)) : rn m pc L (.int (mI x) :: st) h = sw x' (fun p => rn m p L st h) dt lo ts := by
  subst hx
  rw [rn_st hi]
  show am_bd rn m pc L (am_sw pc d lo hi' offs (mI x) L st h) = _
  unfold am_sw
  have e : (mI x).toInt = wr x := rfl
  rw [e]
  by_cases q : wr x < lo ∨ hi' < wr x
  · rw [if_pos q, am_go_eq hd, sw_df _ _ _ _ (by omega)]
    rfl
  · rw [if_neg q]
    have hl : (wr x - lo).toNat < ts.length := by omega
    have h0 := congrArg (fun l => l[(wr x - lo).toNat]?) ho
    simp only [List.getElem?_map, List.getElem?_eq_getElem hl, Option.map_some] at h0
    obtain ⟨o, h1, h2⟩ := Option.map_eq_some_iff.mp h0
    rw [Array.getElem?_toList] at h1
    rw [h1]
    rw [sw_at (x := wr x) (fun p => rn m p L st h) dt ts lo (wr x - lo).toNat _ (List.getElem?_eq_getElem hl) (by omega)]
    simp only []
    rw [am_go_eq h2]
    rfl
/-- a switch over a list -/
def lks {α : Type} (x : Int) (f : Nat → α) (d : Nat) : List (Int × Nat) → α
  | [] => f d
  | (k, t) :: ts => if x = k then f t else lks x f d ts
theorem lks_of {α : Type} {x d : Int} (pc : Nat) (g : Int → α) (f : Nat → α) {dt : Nat} (hg : ∀ (o : Int) (t : Nat), (pc : Int) + o = (t : Int) → g o = f t) (hd : (pc : Int) + d = (dt : Int)) : ∀ (ps : List (Int × Int)) (ts : List (Int × Nat)), ps.map (fun q => (q.1, (pc : Int) + q.2)) = ts.map (fun q => (q.1, (q.2 : Int))) → g (Op.lookupswitch.offset ps d x) = lks x f dt ts
  | [], [], _ => hg _ _ hd
  | [], _ :: _, h => by simp at h
  | _ :: _, [], h => by simp at h
  | (k, o) :: ps, (k', t) :: ts, h => by
    simp only [List.map_cons, List.cons.injEq, Prod.mk.injEq] at h
    obtain ⟨⟨rfl, h1⟩, h2⟩ := h
    show g (if k = x then o else Op.lookupswitch.offset ps d x) = if x = k then f t else lks x f dt ts
    by_cases q : k = x
    · rw [if_pos q, if_pos q.symm]
      exact hg _ _ h1
    · rw [if_neg q, if_neg fun w => q w.symm]
      exact lks_of pc g f hg hd ps ts h2
theorem tq_lookup {x x' d : Int} {ps : Array (Int × Int)} {dt : Nat} {ts : List (Int × Nat)} (hi : am_i m pc = some (pc, .lookupswitch d ps, len, pl, kz)) (hx : wr x = x') (hd : (pc : Int) + d = (dt : Int)) (hs : ((ps.toList.zip (ps.toList.drop 1)).all fun q => decide (q.1.1 < q.2.1)) = true) (ho : ps.toList.map (fun q => (q.1, (pc : Int) + q.2)) = ts.map (fun q => (q.1, (q.2 : Int)))) : rn m pc L (.int (mI x) :: st) h = lks x' (fun p => rn m p L st h) dt ts := by
  subst hx
  rw [rn_st hi]
  show am_bd rn m pc L (am_g ((ps.toList.zip (ps.toList.drop 1)).all fun q => decide (q.1.1 < q.2.1)) (am_go pc (Op.lookupswitch.offset ps.toList d (wr x)) L st h)) = _
  rw [hs]
  show am_bd rn m pc L (am_go pc (Op.lookupswitch.offset ps.toList d (wr x)) L st h) = _
  exact lks_of pc (fun o => am_bd rn m pc L (am_go pc o L st h)) _ (fun o t e => by rw [am_go_eq e]; rfl) hd ps.toList ts ho
def isV (v : Value) : Prop := ∀ p, v ≠ .retAddr p
theorem isV_I (x : Int32) : isV (.int x) := fun _ q => nomatch q
theorem isV_J (x : Int64) : isV (.long x) := fun _ q => nomatch q
theorem isV_ref (a : Nat) : isV (.ref a) := fun _ q => nomatch q
theorem isV_null : isV .null := fun _ q => nomatch q
theorem isV_A {v : Value} (h : isA v) : isV v := by
  rcases h with ⟨a, rfl⟩ | rfl
  · exact isV_ref a
  · exact isV_null
theorem isV_rv (r : Option Nat) : isV (am_rv r) := isV_A (isA_rv r)
theorem tq_getfield {z a ci k kd : Nat} {v : Value} (hi : am_i m pc = some (pc, .getfield z, len, [ci, k, kd], kz)) (q : sh h a = (5, ci)) (hv : gV h a k = v) (hn : isV v) (hp : pc + len = pc') : rn m pc L (.ref a :: st) h = rn m pc' L (v :: st) h := by
  subst hp
  rw [rn_st hi]
  show am_bd rn m pc L (am_ob h a ci fun fs => _) = _
  unfold am_ob
  rw [(sh_5 q).1]
  simp only [beq_self_eq_true, am_g]
  rw [hv]
  match v, hn with
  | .retAddr p, hn => exact absurd rfl (hn p)
  | .int _, _ => rfl
  | .long _, _ => rfl
  | .float _, _ => rfl
  | .double _, _ => rfl
  | .null, _ => rfl
  | .ref _, _ => rfl
theorem tq_putfield {z a ci k kd : Nat} {v : Value} (hi : am_i m pc = some (pc, .putfield z, len, [ci, k, kd], kz)) (q : sh h a = (5, ci)) (qv : am_okV (am_ft ci k) v = true) (hp : pc + len = pc') : rn m pc L (v :: .ref a :: st) h = rn m pc' L st (uF ci h a k v) := by
  subst hp
  rw [rn_st hi]
  show am_bd rn m pc L (am_ob h a ci fun fs => am_g (am_okV (am_ft ci k) v) (am_nx (pc + len) L st (hset h a (.inr (ci, am_fu fs k v))))) = _
  unfold am_ob
  rw [(sh_5 q).1]
  simp only [beq_self_eq_true, am_g, qv]
  unfold uF hupd
  rw [if_pos (ok_uF q qv)]
  rfl
theorem tq_getstatic {z : Nat} (hi : am_i m pc = some (pc, .getstatic z, len, pl, kz)) (hp : pc + len = pc') : rn m pc L st h = rn m pc' L (.ref 0 :: st) h := by
  subst hp
  rw [rn_st hi]
  rfl
theorem tq_new {z ci : Nat} (hi : am_i m pc = some (pc, .new z, len, [ci], kz)) (hp : pc + len = pc') : rn m pc L st h = rn m pc' L (.ref (hnx h) :: st) (aO ci h) := by
  subst hp
  rw [rn_st hi]
  rfl
theorem tq_newx {z x w : Nat} (hi : am_i m pc = some (pc, .new z, len, [x, w], kz)) : rn m pc L [] h = some (.inr x, hexc h) := by
  rw [rn_st hi]
  rfl
theorem in_ok {i' : Int} {i : Int} {n : Nat} (hi : wr i = i') (h0 : 0 ≤ i') (h1 : i' < n) : am_in (mI i) n = true := by
  unfold am_in
  have e : (mI i).toInt = i' := hi
  rw [e, decide_eq_true h0, decide_eq_true h1]
  rfl
theorem tq_newI {x : Int} {t n : Nat} {ty : ArrayType} (hi : am_i m pc = some (pc, .newarray ty, len, pl, kz)) (hx : wr x = (n : Int)) (hn : n ≤ 65536) (ht : am_tg ty = t) (ht4 : t = 0) (hz : am_z0 ty = .inl fun _ => 0) (hp : pc + len = pc') : rn m pc L (.int (mI x) :: st) h = rn m pc' L (.ref (hnx h) :: st) (aI t n h) := by
  subst hp ht
  rw [rn_st hi]
  have e : (mI x).toInt = (n : Int) := hx
  show am_bd rn m pc L (am_g (decide (0 ≤ (mI x).toInt) && (decide ((mI x).toInt ≤ 65536) && decide (am_tg ty = 0))) (am_nx (pc + len) L (.ref (hnx h) :: st) (halc h (mI x).toInt.toNat (.inl (am_tg ty, (mI x).toInt.toNat, am_z0 ty))))) = _
  rw [e, hz, decide_eq_true ht4, decide_eq_true (show (n : Int) ≤ 65536 by omega), decide_eq_true (show (0 : Int) ≤ n by omega)]
  rfl
theorem tq_newA {x : Int} {z n t : Nat} (hi : am_i m pc = some (pc, .anewarray z, len, [t], kz)) (hx : wr x = (n : Int)) (hn : n ≤ 65536) (hp : pc + len = pc') : rn m pc L (.int (mI x) :: st) h = rn m pc' L (.ref (hnx h) :: st) (aA t n h) := by
  subst hp
  rw [rn_st hi]
  have e : (mI x).toInt = (n : Int) := hx
  show am_bd rn m pc L (am_g (decide (0 ≤ (mI x).toInt) && decide ((mI x).toInt ≤ 65536)) (am_nx (pc + len) L (.ref (hnx h) :: st) (halc h (mI x).toInt.toNat (.inl (t, (mI x).toInt.toNat, .inr (.inr (.inr fun _ => none))))))) = _
  rw [e, decide_eq_true (show (n : Int) ≤ 65536 by omega), decide_eq_true (show (0 : Int) ≤ n by omega)]
  rfl
theorem tq_alen {a t : Nat} (hi : am_i m pc = some (pc, .arraylength, len, pl, kz)) {kk : Nat} (q : sh h a = (kk, t)) (q1 : 1 ≤ kk) (q4 : kk ≤ 4) (hp : pc + len = pc') : rn m pc L (.ref a :: st) h = rn m pc' L (.int (mI (gn h a)) :: st) h := by
  subst hp
  rw [rn_st hi]
  show am_bd rn m pc L (am_ar h a fun _ n _ => am_nx (pc + len) L (.int (mI n) :: st) h) = _
  have : kk = 1 ∨ kk = 2 ∨ kk = 3 ∨ kk = 4 := by omega
  unfold am_ar
  rcases this with e | e | e | e
  · rw [(sh_1 (h := h) (a := a) (by rw [q, e])).1]; rfl
  · rw [(sh_2 (h := h) (a := a) (by rw [q, e])).1]; rfl
  · rw [(sh_3 (h := h) (a := a) (by rw [q, e])).1]; rfl
  · rw [(sh_4 (h := h) (a := a) (by rw [q, e])).1]; rfl
theorem tq_iaload {a t : Nat} {i i' : Int} (hi : am_i m pc = some (pc, .iaload, len, pl, kz)) (q : sh h a = (1, t)) (ht : t = 0 ∨ t = 7) (hx : wr i = i') (h0 : 0 ≤ i') (h1 : i' < gn h a) (hp : pc + len = pc') : rn m pc L (.int (mI i) :: .ref a :: st) h = rn m pc' L (.int (mI (gZ h a i')) :: st) h := by
  subst hp
  rw [rn_st hi]
  show am_bd rn m pc L (am_rI (fun t => t == 0 || t == 7) h a (mI i) fun x => am_nx (pc + len) L (.int x :: st) h) = _
  unfold am_rI
  rw [(sh_1 (h := h) (a := a) (by rw [q])).1]
  have e : (mI i).toInt = i' := hx
  simp only [in_ok hx h0 h1, q, e]
  rw [show (t == 0 || t == 7) = true by simp [ht], gI_mI]
  rfl
theorem tq_aaload {a : Nat} {i i' : Int} (hi : am_i m pc = some (pc, .aaload, len, pl, kz)) (q : sh h a = (4, 5)) (hx : wr i = i') (h0 : 0 ≤ i') (h1 : i' < gn h a) (hp : pc + len = pc') : rn m pc L (.int (mI i) :: .ref a :: st) h = rn m pc' L (am_rv (gA h a i') :: st) h := by
  subst hp
  rw [rn_st hi]
  show am_bd rn m pc L (am_rA h a (mI i) fun x => am_nx (pc + len) L (am_rv x :: st) h) = _
  unfold am_rA
  have s := sh_4 (h := h) (a := a) (by rw [q])
  rw [s.1]
  have e : (mI i).toInt = i' := hx
  simp only [in_ok hx h0 h1, e]
  rw [show ((sh h a).2 == 5) = true by rw [q]; rfl]
  rfl
theorem tq_iastore {a : Nat} {i i' v : Int} (hi : am_i m pc = some (pc, .iastore, len, pl, kz)) (q : sh h a = (1, 0)) (hx : wr i = i') (h0 : 0 ≤ i') (h1 : i' < gn h a) (hp : pc + len = pc') : rn m pc L (.int (mI v) :: .int (mI i) :: .ref a :: st) h = rn m pc' L st (uZ h a i' v) := by
  subst hp
  rw [rn_st hi]
  show am_bd rn m pc L (am_wI 0 h a (mI i) (mI v) fun h => am_nx (pc + len) L st h) = _
  unfold am_wI
  have q1 : (sh h a).1 = 1 := by rw [q]
  rw [(sh_1 q1).1]
  have e : (mI i).toInt = i' := hx
  simp only [in_ok hx h0 h1, q, e, am_g, beq_self_eq_true, Bool.and_self]
  unfold uZ uI hupd
  rw [if_pos (ok_uI q1 _), q]
  rfl
/-- may this reference stand in an array of this kind -/
def elok (h : am_H) (t : Nat) (r : Option Nat) : Prop := match r with
  | none => True
  | some b => t = 5 ∧ sh h b = (5, 6)
theorem tq_aastore {a : Nat} {i i' : Int} {r : Option Nat} (hi : am_i m pc = some (pc, .aastore, len, pl, kz)) (q : sh h a = (4, 5)) (he : elok h 5 r) (hx : wr i = i') (h0 : 0 ≤ i') (h1 : i' < gn h a) (hp : pc + len = pc') : rn m pc L (am_rv r :: .int (mI i) :: .ref a :: st) h = rn m pc' L st (uA h a i' r) := by
  subst hp
  rw [rn_st hi]
  show am_bd rn m pc L (am_wA h a (mI i) (am_rv r) fun h => am_nx (pc + len) L st h) = _
  unfold am_wA
  have q1 : (sh h a).1 = 4 := by rw [q]
  have s := sh_4 q1
  rw [s.1]
  have e : (mI i).toInt = i' := hx
  have eu : uA h a i' r = hset h a (.inl ((sh h a).2, gn h a, .inr (.inr (.inr (am_up (gA h a) i' r))))) := by
    unfold uA hupd
    rw [if_pos (ok_uA q1 _)]
  have et : ((sh h a).2 == 5) = true := by rw [q]; rfl
  simp only [in_ok hx h0 h1, e, et, am_g, Bool.and_self]
  rw [eu]
  cases r with
  | none => rfl
  | some b =>
    have q2 : (sh h a).2 = 5 := by rw [q]
    rw [q2]
    obtain ⟨-, hb⟩ := he
    simp only [am_rv, am_el]
    rw [(sh_5 hb).1]
    rfl
theorem tq_clone {a z : Nat} (hi : am_i m pc = some (pc, .invokevirtual z, len, [], kz)) (q : sh h a = (1, 0)) (hst : st.length ≤ 8) (hp : pc + len = pc') : rn m pc L (.ref a :: st) h = rn m pc' L (.ref (hnx h) :: st) (aC a h) := by
  subst hp
  rw [rn_st hi]
  show am_bd rn m pc L (am_g (decide (st.length ≤ 8)) _) = _
  rw [decide_eq_true hst]
  have q1 : (sh h a).1 = 1 := by rw [q]
  simp only [am_g, am_ar]
  rw [(sh_1 q1).1, q]
  rfl
theorem tq_checkcast {a z : Nat} (hi : am_i m pc = some (pc, .checkcast z, len, pl, kz)) (q : sh h a = (1, 0)) (hp : pc + len = pc') : rn m pc L (.ref a :: st) h = rn m pc' L (.ref a :: st) h := by
  subst hp
  rw [rn_st hi]
  have q1 : (sh h a).1 = 1 := by rw [q]
  show am_bd rn m pc L (am_ar h a fun t _ _ => am_g (t == 0) (am_nx (pc + len) L (.ref a :: st) h)) = _
  unfold am_ar
  rw [(sh_1 q1).1, q]
  rfl
theorem tq_init {v : Nat} {z : Nat} (hi : am_i m pc = some (pc, .invokespecial z, len, [], kz)) (hst : st.length ≤ 8) (hp : pc + len = pc') : rn m pc L (.ref v :: st) h = rn m pc' L st h := by
  subst hp
  rw [rn_st hi]
  show am_bd rn m pc L (am_g (decide (st.length ≤ 8)) _) = _
  rw [decide_eq_true hst]
  rfl
theorem tq_abs {x x' : Int} {z : Nat} (hi : am_i m pc = some (pc, .invokestatic z, len, [0, 0], kz)) (hx : wr x = x') (hst : st.length ≤ 8) (hp : pc + len = pc') : rn m pc L (.int (mI x) :: st) h = rn m pc' L (.int (mI (max x' (-x'))) :: st) h := by
  subst hp
  rw [rn_st hi]
  show am_bd rn m pc L (am_g (decide (st.length ≤ 8)) (am_nx (pc + len) L (.int (am_jabs (mI x)) :: st) h)) = _
  rw [decide_eq_true hst, jabs_mI hx]
  rfl
theorem tq_max {x y x' y' : Int} {z : Nat} (hi : am_i m pc = some (pc, .invokestatic z, len, [0, 1], kz)) (hx : wr x = x') (hy : wr y = y') (hst : st.length ≤ 8) (hp : pc + len = pc') : rn m pc L (.int (mI y) :: .int (mI x) :: st) h = rn m pc' L (.int (mI (max x' y')) :: st) h := by
  subst hp
  rw [rn_st hi]
  show am_bd rn m pc L (am_g (decide (st.length ≤ 8)) (am_nx (pc + len) L (.int (am_jmax (mI x) (mI y)) :: st) h)) = _
  rw [decide_eq_true hst, jmax_mI hx hy]
  rfl
theorem tq_min {x y x' y' : Int} {z : Nat} (hi : am_i m pc = some (pc, .invokestatic z, len, [0, 2], kz)) (hx : wr x = x') (hy : wr y = y') (hst : st.length ≤ 8) (hp : pc + len = pc') : rn m pc L (.int (mI y) :: .int (mI x) :: st) h = rn m pc' L (.int (mI (min x' y')) :: st) h := by
  subst hp
  rw [rn_st hi]
  show am_bd rn m pc L (am_g (decide (st.length ≤ 8)) (am_nx (pc + len) L (.int (am_jmin (mI x) (mI y)) :: st) h)) = _
  rw [decide_eq_true hst, jmin_mI hx hy]
  rfl
theorem tq_ireturn {x : Int32} {ty : FieldType} (hi : am_i m pc = some (pc, .ireturn, len, pl, kz)) (hr : am_r m = some ty) (ho : am_okV ty (.int x) = true) : rn m pc L [.int x] h = some (.inl (some (.int x)), h) := by
  rw [rn_st hi]
  show am_bd rn m pc L (match am_r m with
    | some ty => am_g (am_okV ty (.int x)) (am_dn (some (.int x)) h)
    | none => none) = _
  rw [hr]
  simp only [ho]
  rfl
theorem tq_lreturn {x : Int64} (hi : am_i m pc = some (pc, .lreturn, len, pl, kz)) (hr : am_r m = some .long) : rn m pc L [.long x] h = some (.inl (some (.long x)), h) := by
  rw [rn_st hi]
  show am_bd rn m pc L (am_g (decide (am_r m = some .long)) (am_dn (some (.long x)) h)) = _
  rw [decide_eq_true hr]
  rfl
theorem tq_freturn {x : UInt32} (hi : am_i m pc = some (pc, .freturn, len, pl, kz)) (hr : am_r m = some .float) : rn m pc L [.float x] h = some (.inl (some (.float x)), h) := by
  rw [rn_st hi]
  show am_bd rn m pc L (am_g (decide (am_r m = some .float)) (am_dn (some (.float x)) h)) = _
  rw [decide_eq_true hr]
  rfl
theorem tq_dreturn {x : UInt64} (hi : am_i m pc = some (pc, .dreturn, len, pl, kz)) (hr : am_r m = some .double) : rn m pc L [.double x] h = some (.inl (some (.double x)), h) := by
  rw [rn_st hi]
  show am_bd rn m pc L (am_g (decide (am_r m = some .double)) (am_dn (some (.double x)) h)) = _
  rw [decide_eq_true hr]
  rfl
theorem tq_areturn {v : Value} {ty : FieldType} (hi : am_i m pc = some (pc, .areturn, len, pl, kz)) (hA : isA v) (hr : am_r m = some ty) (ho : am_okV ty v = true) : rn m pc L [v] h = some (.inl (some v), h) := by
  rw [rn_st hi]
  rcases hA with ⟨a, rfl⟩ | rfl
  · show am_bd rn m pc L (match am_r m with
      | some ty => am_g (am_okV ty (.ref a)) (am_dn (some (.ref a)) h)
      | none => none) = _
    rw [hr]
    simp only [ho]
    rfl
  · show am_bd rn m pc L (match am_r m with
      | some ty => am_g (am_okV ty .null) (am_dn (some .null) h)
      | none => none) = _
    rw [hr]
    simp only [ho]
    rfl
theorem tq_return (hi : am_i m pc = some (pc, .return_, len, pl, kz)) (hr : am_r m = none) : rn m pc L [] h = some (.inl none, h) := by
  rw [rn_st hi]
  show am_bd rn m pc L (am_g (decide (am_r m = none)) (am_dn none h)) = _
  rw [decide_eq_true hr]
  rfl
/-! calls -/
def gdOk (bs : List Bool) (vs : List Value) : Prop := am_gd bs vs = true
theorem gd_nil : gdOk [] [] := rfl
theorem gd_1 {bs : List Bool} {v : Value} {vs : List Value} (hc : v.category = 1) (hj : v ≠ am_J) (k : gdOk bs vs) : gdOk (false :: bs) (v :: vs) := by
  unfold gdOk at *
  simp only [am_gd, hc, k, decide_eq_true hj]
  decide
theorem gd_2 {bs : List Bool} {v : Value} {vs : List Value} (hc : v.category = 2) (hj : v ≠ am_J) (k : gdOk bs vs) : gdOk (true :: bs) (v :: vs) := by
  unfold gdOk at *
  simp only [am_gd, hc, k, decide_eq_true hj]
  decide
theorem gd_I {bs : List Bool} {x : Int32} {vs : List Value} (k : gdOk bs vs) : gdOk (false :: bs) (.int x :: vs) := gd_1 rfl (fun q => nomatch q) k
theorem gd_J {bs : List Bool} {x : Int64} {vs : List Value} (k : gdOk bs vs) : gdOk (true :: bs) (.long x :: vs) := gd_2 rfl (fun q => nomatch q) k
theorem gd_A {bs : List Bool} {v : Value} {vs : List Value} (hA : isA v) (k : gdOk bs vs) : gdOk (false :: bs) (v :: vs) := gd_1 (isA_cat hA) (isA_J hA) k
def stOk (st : List Value) : Prop := st.length ≤ 4 ∨ (st.length ≤ 8 ∧ ∀ v ∈ st, v.category = 1)
theorem call_eq {mj : Nat} {as rest : List Value} (hd : am_d mj < am_d m) (hg : gdOk (am_sg mj) as) (hs : stOk rest) (hp : pc + 3 = pc') (hL : am_en (am_sg mj) as (am_n mj) = L') : am_bd rn m pc L (am_call mj as rest h) = cl m pc' L rest (rn mj 0 L' [] h) := by
  subst hp hL
  unfold am_call
  have e : (am_gd (am_sg mj) as && (decide (rest.length ≤ 4) || (decide (rest.length ≤ 8) && rest.all fun v => decide (v.category = 1)))) = true := by
    unfold gdOk at hg
    rw [hg]
    rcases hs with q | ⟨q1, q2⟩
    · rw [decide_eq_true q]; rfl
    · have : (rest.all fun v => decide (v.category = 1)) = true := by
        rw [List.all_eq_true]
        intro v hv
        exact decide_eq_true (q2 v hv)
      rw [decide_eq_true q1, this]
      simp
  rw [e]
  simp only [am_g, am_cl, am_bd, decide_eq_true hd]
  rfl
theorem tq_callS {z mj : Nat} {st0 as rest : List Value} (hi : am_i m pc = some (pc, .invokestatic z, len, [mj], kz)) (hq : ∀ k : List Value → List Value → am_O, am_pop (am_np mj) [] st0 k = k as rest) (hd : am_d mj < am_d m) (hg : gdOk (am_sg mj) as) (hs : stOk rest) (hp : pc + 3 = pc') (hL : am_en (am_sg mj) as (am_n mj) = L') : rn m pc L st0 h = cl m pc' L rest (rn mj 0 L' [] h) := by
  rw [rn_st hi]
  show am_bd rn m pc L (am_pop (am_np mj) [] st0 fun as st => am_call mj as st h) = _
  rw [hq]
  exact call_eq hd hg hs hp hL
theorem tq_callV {z mj ci b : Nat} {st0 as rest : List Value} (hi : am_i m pc = some (pc, .invokevirtual z, len, [mj, ci], kz)) (q : sh h b = (5, ci)) (hq : ∀ k : List Value → List Value → am_O, am_pop (am_np mj) [] st0 k = k as (.ref b :: rest)) (hd : am_d mj < am_d m) (hg : gdOk (am_sg mj) (.ref b :: as)) (hs : stOk rest) (hp : pc + 3 = pc') (hL : am_en (am_sg mj) (.ref b :: as) (am_n mj) = L') : rn m pc L st0 h = cl m pc' L rest (rn mj 0 L' [] h) := by
  rw [rn_st hi]
  show am_bd rn m pc L (am_pop (am_np mj) [] st0 fun as st => am_pR st fun b st => am_ob h b ci fun _ => am_call mj (.ref b :: as) st h) = _
  rw [hq]
  show am_bd rn m pc L (am_ob h b ci fun _ => am_call mj (.ref b :: as) rest h) = _
  unfold am_ob
  rw [(sh_5 q).1]
  simp only [beq_self_eq_true, am_g]
  exact call_eq hd hg hs hp hL
theorem tq_callX {z mj b : Nat} {st0 as rest : List Value} (hi : am_i m pc = some (pc, .invokespecial z, len, [mj], kz)) (hq : ∀ k : List Value → List Value → am_O, am_pop (am_np mj) [] st0 k = k as (.ref b :: rest)) (hd : am_d mj < am_d m) (hg : gdOk (am_sg mj) (.ref b :: as)) (hs : stOk rest) (hp : pc + 3 = pc') (hL : am_en (am_sg mj) (.ref b :: as) (am_n mj) = L') : rn m pc L st0 h = cl m pc' L rest (rn mj 0 L' [] h) := by
  rw [rn_st hi]
  show am_bd rn m pc L (am_pop (am_np mj) [] st0 fun as st => am_pR st fun b st => am_call mj (.ref b :: as) st h) = _
  rw [hq]
  exact call_eq hd hg hs hp hL
end TS
