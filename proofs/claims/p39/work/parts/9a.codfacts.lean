/-! ===== what a coded picture is: through the halves only; what the decoder wants of it ===== -/
theorem vcost_hv {c f g : Int → Int} (e : hv f = hv g) (X Y Z v : Int) : vcost c f X Y Z v = vcost c g X Y Z v := by unfold vcost; rw [e]
theorem bestv_hv {c f g : Int → Int} (e : hv f = hv g) (X Y Z st n : Int) : bestv c f X Y Z st n = bestv c g X Y Z st n := by
  have : vcost c f = vcost c g := by funext X Y Z v; exact vcost_hv e X Y Z v
  unfold bestv
  rw [this]
theorem gss_hv {p f1 f2 g1 g2 : Int → Int} (e1 : hv f1 = hv g1) (e2 : hv f2 = hv g2) : gss p f1 f2 = gss p g1 g2 := by
  funext X Y Z T m v1 v2 x y
  unfold gss gsK
  rw [e1, e2]
theorem bestm_hv {c p f1 f2 g1 g2 : Int → Int} (e1 : hv f1 = hv g1) (e2 : hv f2 = hv g2) (X Y Z T v1 v2 : Int) (n : Nat) : bestm c p f1 f2 X Y Z T v1 v2 n = bestm c p g1 g2 X Y Z T v1 v2 n := by
  have : cost c p f1 f2 = cost c p g1 g2 := by
    funext X Y Z T m v1 v2
    unfold cost
    rw [gss_hv e1 e2]
  unfold bestm
  rw [this]
theorem Cod_hv {c f1 f2 g1 g2 p : Int → Int} {kd tl sl q s : Int} {pd : Nat → Int → Int} (e1 : hv f1 = hv g1) (e2 : hv f2 = hv g2) (d : Cod c f1 f2 kd tl sl q pd p s) : Cod c g1 g2 kd tl sl q pd p s := by
  obtain ⟨d1, d2, d4, d5⟩ := d
  refine ⟨d1, ?_, fun k k0 k1 => ?_, Bu_hv e1 e2 d5⟩
  · unfold E2 cmo cv1 cv2 at *
    rw [← bestv_hv e1, ← bestv_hv e2, ← bestm_hv e1 e2]
    exact d2
  · rw [d4 k k0 k1]
    rw [hd_congr fun j j0 j1 => by rw [Gq_hv (g1 := g1) (g2 := g2) e1 e2]]
theorem Cod_pdW {c f1 f2 p : Int → Int} {kd tl sl q : Int} {pd : Nat → Int → Int} (hk : isKind kd) (hc : pixels c) (hp : pixels p) (h1 : kd ≠ 105 → pixels f1) (h2 : kd = 98 → pixels f2) (hq : 1 ≤ q ∧ q ≤ 40) (d : ∀ s, 0 ≤ s → s < 16 → Cod c f1 f2 kd tl sl q pd p s) {s : Int} (hs : 0 ≤ s ∧ s < 16) : pdW pd kd q s ∧ (¬ (pd 1 s = 4 ∨ pd 1 s = 6) → pd 2 s = -1) ∧ (¬ (pd 1 s = 5 ∨ pd 1 s = 6) → pd 3 s = -1) := by
  have b := Cod_pdB hk hc hp h1 h2 hq hs (d s hs.1 hs.2)
  obtain ⟨b1, b2, b3, b4, -⟩ := b
  obtain ⟨d1, ⟨d2, d3, d3'⟩, d4, -⟩ := d s hs.1 hs.2
  obtain ⟨a1, ⟨a2, a3, a3'⟩, -, -⟩ := d (4 * (s / 4)) (by omega) (by omega)
  have nb := nmo_b hk
  have mb : 0 ≤ pd 1 s ∧ pd 1 s < nmo kd := by rw [d2]; exact cmo_b hk
  have e0 : pd 0 s = pd 0 (4 * (s / 4)) := by
    unfold E1 at d1 a1
    rw [d1, a1, show 4 * (s / 4) / 4 = s / 4 by omega, show 4 * (s / 4) / 8 = s / 8 by omega]
  refine ⟨⟨b1, e0, fun q => ?_, mb, b3, b4, fun k k0 k1 => ?_⟩, fun q => ?_, fun q => ?_⟩
  · have q' : ¬ pd 0 (4 * (s / 4)) = 4 := by rw [← e0]; exact q
    have x0 : X0 (pd 0) s = X0 (pd 0) (4 * (s / 4)) := by unfold X0; rw [if_neg q, if_neg q', show 4 * (s / 4) / 4 = s / 4 by omega]
    have y0 : Y0 (pd 0) s = Y0 (pd 0) (4 * (s / 4)) := by unfold Y0; rw [if_neg q, if_neg q', show 4 * (s / 4) / 8 = s / 8 by omega]
    have z0 : SZ (pd 0) s = SZ (pd 0) (4 * (s / 4)) := by unfold SZ; rw [if_neg q, if_neg q']
    have e1 : pd 1 s = pd 1 (4 * (s / 4)) := by rw [d2, a2, x0, y0, z0]
    refine ⟨e1, ?_, ?_⟩
    · rw [d3, a3, x0, y0, z0, e1]
    · rw [d3', a3', x0, y0, z0, e1]
  · have hd2 := hd_b (s := fun j => c (pl s j) - Gq pd f1 f2 sl p s (cx s + j % 4) (cy s + j / 4)) (m := 255) (fun j j0 j1 => by
      have g1 := Gq_b (pd := pd) (p := p) (f1 := f1) (f2 := f2) (sl := sl) hp (fun w => h1 (by have := nb.2.1; omega)) (fun w => h2 (by have := nb.2.2; omega)) (by omega) hs ⟨j0, j1⟩
      have g3 := hc (pl s j) (pl_b s j).1 (pl_b s j).2
      omega) k
    rw [d4 k k0 k1]
    exact lev_4q hq (by omega)
  · rw [d3]; unfold used1; exact if_neg q
  · rw [d3']; unfold used2; exact if_neg q
