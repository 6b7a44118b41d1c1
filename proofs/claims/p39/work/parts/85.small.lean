/-! ===== halves of the same pixels ===== -/
theorem hv_congr {f g : Int → Int} (h : ∀ i, 0 ≤ i → i < 256 → f i = g i) : hv f = hv g := by
  funext x y
  have a1 := ixs_b (y / 2)
  have a2 := ixs_b (x / 2)
  have a3 := ixs_b ((y + 1) / 2)
  have a4 := ixs_b ((x + 1) / 2)
  unfold hv
  rw [h _ (by omega) (by omega), h _ (by omega) (by omega), h _ (by omega) (by omega), h _ (by omega) (by omega)]
theorem Gq_hv {pd : Nat → Int → Int} {f1 f2 g1 g2 p : Int → Int} {sl s x y : Int} (e1 : hv f1 = hv g1) (e2 : hv f2 = hv g2) : Gq pd f1 f2 sl p s x y = Gq pd g1 g2 sl p s x y := by
  unfold Gq gss gsK
  rw [e1, e2]
theorem Bu_hv {pd : Nat → Int → Int} {f1 f2 g1 g2 p : Int → Int} {sl q s : Int} (e1 : hv f1 = hv g1) (e2 : hv f2 = hv g2) (b : Bu pd f1 f2 sl q p s) : Bu pd g1 g2 sl q p s := fun k k0 k1 => by
  rw [b k k0 k1, Gq_hv e1 e2]
theorem Dcd_hv {pd : Nat → Int → Int} {f1 f2 g1 g2 s0 t0 p : Int → Int} {sl q lost s : Int} (e1 : hv f1 = hv g1) (e2 : hv f2 = hv g2) (e3 : ∀ i, 0 ≤ i → i < 256 → s0 i = t0 i) (d : Dcd pd f1 f2 s0 sl q lost p s) : Dcd pd g1 g2 t0 sl q lost p s :=
  ⟨fun l k k0 k1 => by rw [d.1 l k k0 k1]; exact e3 _ (pl_b s k).1 (pl_b s k).2, fun l => Bu_hv e1 e2 (d.2 l)⟩
