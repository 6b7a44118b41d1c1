/-! ===== the law: case by case ===== -/
section LV
variable {σ : St} {h : am_H} {D n : Nat} {xs : Int → Int} {c i : Int}
theorem C_pixel (j : JI σ c h D n xs) (hi : 0 ≤ i ∧ i + 5 < n) (hn : n ≤ 3072) : LC σ c h D n xs i 524 := by
  by_cases q : (0 ≤ (xs (i + 1)) ∧ (xs (i + 1)) < 16) ∧ 0 ≤ (xs (i + 2)) ∧ (xs (i + 2)) < 16
  · exact LC_q j (fun rm => (m_pixel rm (sr_w j.2.2.2.2.2 (i + 1)) (sr_w j.2.2.2.2.2 (i + 2))).1 q) (BL_pixel j.2.2.2.2.2 hi hn) (fun o => W_pixel j.1.1 o (wr_wr _) (mI_of (q_pixel j.1 (sr_w j.2.2.2.2.2 (i + 1)) (sr_w j.2.2.2.2.2 (i + 2)) q))) (BM_pixel hi hn) (by decide) (by decide)
  · exact LC_x j w_1 (by decide) w_0 (fun rm => (m_pixel rm (sr_w j.2.2.2.2.2 (i + 1)) (sr_w j.2.2.2.2.2 (i + 2))).2 q) (BL_pixel j.2.2.2.2.2 hi hn) (W_pixel_x1 j.1.1 (q_pixel_x (sr_w j.2.2.2.2.2 (i + 1)) (sr_w j.2.2.2.2.2 (i + 2)) q)) (BM_pixel hi hn) (by decide) (by decide)
theorem C_kindOf (j : JI σ c h D n xs) (hi : 0 ≤ i ∧ i + 5 < n) (hn : n ≤ 3072) : LC σ c h D n xs i 1090 := by
  by_cases q : 0 ≤ (xs (i + 1)) ∧ (xs (i + 1)) < tz σ 7
  · exact LC_q j (fun rm => (m_kindOf rm j.2.2.1 (sr_w j.2.2.2.2.2 (i + 1))).1 q) (BL_kindOf j.2.2.2.2.2 hi hn) (fun o => W_kindOf j.1.1 o (wr_wr _) (mI_of (q_kindOf j.1 j.2.2.1 (sr_w j.2.2.2.2.2 (i + 1)) q))) (BM_kindOf hi hn) (by decide) (by decide)
  · exact LC_x j w_1 (by decide) w_32 (fun rm => (m_kindOf rm j.2.2.1 (sr_w j.2.2.2.2.2 (i + 1))).2 q) (BL_kindOf j.2.2.2.2.2 hi hn) (W_kindOf_x1 j.1.1 (q_kindOf_x j.1 j.2.2.1 (sr_w j.2.2.2.2.2 (i + 1)) q)) (BM_kindOf hi hn) (by decide) (by decide)
theorem C_coarsenessOf (j : JI σ c h D n xs) (hi : 0 ≤ i ∧ i + 5 < n) (hn : n ≤ 3072) : LC σ c h D n xs i 1146 := by
  by_cases q : 0 ≤ (xs (i + 1)) ∧ (xs (i + 1)) < tz σ 7
  · exact LC_q j (fun rm => (m_coarsenessOf rm j.2.2.1 (sr_w j.2.2.2.2.2 (i + 1))).1 q) (BL_coarsenessOf j.2.2.2.2.2 hi hn) (fun o => W_coarsenessOf j.1.1 o (wr_wr _) (mI_of (q_coarsenessOf j.1 j.2.2.1 (sr_w j.2.2.2.2.2 (i + 1)) q))) (BM_coarsenessOf hi hn) (by decide) (by decide)
  · exact LC_x j w_1 (by decide) w_0 (fun rm => (m_coarsenessOf rm j.2.2.1 (sr_w j.2.2.2.2.2 (i + 1))).2 q) (BL_coarsenessOf j.2.2.2.2.2 hi hn) (W_coarsenessOf_x1 j.1.1 (q_coarsenessOf_x j.1 j.2.2.1 (sr_w j.2.2.2.2.2 (i + 1)) q)) (BM_coarsenessOf hi hn) (by decide) (by decide)
theorem C_bytes (j : JI σ c h D n xs) (hi : 0 ≤ i ∧ i + 5 < n) (hn : n ≤ 3072) : LC σ c h D n xs i 1202 := by
  by_cases q : isSl σ (xs (i + 1)) (xs (i + 2))
  · exact LC_q j (fun rm => (m_bytes rm j.2.2.1 (sr_w j.2.2.2.2.2 (i + 1)) (sr_w j.2.2.2.2.2 (i + 2))).1 q) (BL_bytes j.2.2.2.2.2 hi hn) (fun o => W_bytes j.1.1 o (wr_wr _) (mI_of (q_bytes j.1 j.2.2.1 (sr_w j.2.2.2.2.2 (i + 1)) (sr_w j.2.2.2.2.2 (i + 2)) q))) (BM_bytes hi hn) (by decide) (by decide)
  · exact LC_x j w_1 (by decide) w_0 (fun rm => (m_bytes rm j.2.2.1 (sr_w j.2.2.2.2.2 (i + 1)) (sr_w j.2.2.2.2.2 (i + 2))).2 q) (BL_bytes j.2.2.2.2.2 hi hn) (W_bytes_x1 j.1.1 (q_bytes_x j.1 j.2.2.1 (sr_w j.2.2.2.2.2 (i + 1)) (sr_w j.2.2.2.2.2 (i + 2)) q)) (BM_bytes hi hn) (by decide) (by decide)
theorem C_byteAt (j : JI σ c h D n xs) (hi : 0 ≤ i ∧ i + 5 < n) (hn : n ≤ 3072) : LC σ c h D n xs i 1270 := by
  by_cases q : isBy σ (xs (i + 1)) (xs (i + 2)) (xs (i + 3))
  · exact LC_q j (fun rm => (m_byteAt rm j.2.2.1 (sr_w j.2.2.2.2.2 (i + 1)) (sr_w j.2.2.2.2.2 (i + 2)) (sr_w j.2.2.2.2.2 (i + 3))).1 q) (BL_byteAt j.2.2.2.2.2 hi hn) (fun o => W_byteAt j.1.1 o (wr_wr _) (mI_of (q_byteAt j.1 j.2.2.1 (sr_w j.2.2.2.2.2 (i + 1)) (sr_w j.2.2.2.2.2 (i + 2)) (sr_w j.2.2.2.2.2 (i + 3)) q))) (BM_byteAt hi hn) (by decide) (by decide)
  · exact LC_x j w_1 (by decide) w_0 (fun rm => (m_byteAt rm j.2.2.1 (sr_w j.2.2.2.2.2 (i + 1)) (sr_w j.2.2.2.2.2 (i + 2)) (sr_w j.2.2.2.2.2 (i + 3))).2 q) (BL_byteAt j.2.2.2.2.2 hi hn) (W_byteAt_x1 j.1.1 (q_byteAt_x j.1 j.2.2.1 (sr_w j.2.2.2.2.2 (i + 1)) (sr_w j.2.2.2.2.2 (i + 2)) (sr_w j.2.2.2.2.2 (i + 3)) q)) (BM_byteAt hi hn) (by decide) (by decide)
theorem C_partAt (j : JI σ c h D n xs) (hi : 0 ≤ i ∧ i + 5 < n) (hn : n ≤ 3072) : LC σ c h D n xs i 1350 := by
  by_cases q : isPl σ (xs (i + 1)) (xs (i + 2)) (xs (i + 3))
  · exact LC_q j (fun rm => (m_partAt rm j.2.2.1 (sr_w j.2.2.2.2.2 (i + 1)) (sr_w j.2.2.2.2.2 (i + 2)) (sr_w j.2.2.2.2.2 (i + 3))).1 q) (BL_partAt j.2.2.2.2.2 hi hn) (fun o => W_partAt j.1.1 o (wr_wr _) (mI_of (q_partAt j.1 j.2.2.1 (sr_w j.2.2.2.2.2 (i + 1)) (sr_w j.2.2.2.2.2 (i + 2)) (sr_w j.2.2.2.2.2 (i + 3)) q))) (BM_partAt hi hn) (by decide) (by decide)
  · exact LC_x j w_1 (by decide) w_0 (fun rm => (m_partAt rm j.2.2.1 (sr_w j.2.2.2.2.2 (i + 1)) (sr_w j.2.2.2.2.2 (i + 2)) (sr_w j.2.2.2.2.2 (i + 3))).2 q) (BL_partAt j.2.2.2.2.2 hi hn) (W_partAt_x1 j.1.1 (q_partAt_x j.1 j.2.2.1 (sr_w j.2.2.2.2.2 (i + 1)) (sr_w j.2.2.2.2.2 (i + 2)) (sr_w j.2.2.2.2.2 (i + 3)) q)) (BM_partAt hi hn) (by decide) (by decide)
theorem C_modeAt (j : JI σ c h D n xs) (hi : 0 ≤ i ∧ i + 5 < n) (hn : n ≤ 3072) : LC σ c h D n xs i 1430 := by
  by_cases q : isPl σ (xs (i + 1)) (xs (i + 2)) (xs (i + 3))
  · exact LC_q j (fun rm => (m_modeAt rm j.2.2.1 (sr_w j.2.2.2.2.2 (i + 1)) (sr_w j.2.2.2.2.2 (i + 2)) (sr_w j.2.2.2.2.2 (i + 3))).1 q) (BL_modeAt j.2.2.2.2.2 hi hn) (fun o => W_modeAt j.1.1 o (wr_wr _) (mI_of (q_modeAt j.1 j.2.2.1 (sr_w j.2.2.2.2.2 (i + 1)) (sr_w j.2.2.2.2.2 (i + 2)) (sr_w j.2.2.2.2.2 (i + 3)) q))) (BM_modeAt hi hn) (by decide) (by decide)
  · exact LC_x j w_1 (by decide) w_0 (fun rm => (m_modeAt rm j.2.2.1 (sr_w j.2.2.2.2.2 (i + 1)) (sr_w j.2.2.2.2.2 (i + 2)) (sr_w j.2.2.2.2.2 (i + 3))).2 q) (BL_modeAt j.2.2.2.2.2 hi hn) (W_modeAt_x1 j.1.1 (q_modeAt_x j.1 j.2.2.1 (sr_w j.2.2.2.2.2 (i + 1)) (sr_w j.2.2.2.2.2 (i + 2)) (sr_w j.2.2.2.2.2 (i + 3)) q)) (BM_modeAt hi hn) (by decide) (by decide)
theorem C_levelAt (j : JI σ c h D n xs) (hi : 0 ≤ i ∧ i + 5 < n) (hn : n ≤ 3072) : LC σ c h D n xs i 1618 := by
  by_cases q : isPl σ (xs (i + 1)) (xs (i + 2)) (xs (i + 3))
  · exact LC_q j (fun rm => (m_levelAt rm j.2.2.1 (sr_w j.2.2.2.2.2 (i + 1)) (sr_w j.2.2.2.2.2 (i + 2)) (sr_w j.2.2.2.2.2 (i + 3))).1 q) (BL_levelAt j.2.2.2.2.2 hi hn) (fun o => W_levelAt j.1.1 o (wr_wr _) (mI_of (q_levelAt j.1 j.2.2.1 (sr_w j.2.2.2.2.2 (i + 1)) (sr_w j.2.2.2.2.2 (i + 2)) (sr_w j.2.2.2.2.2 (i + 3)) q))) (BM_levelAt hi hn) (by decide) (by decide)
  · exact LC_x j w_1 (by decide) w_0 (fun rm => (m_levelAt rm j.2.2.1 (sr_w j.2.2.2.2.2 (i + 1)) (sr_w j.2.2.2.2.2 (i + 2)) (sr_w j.2.2.2.2.2 (i + 3))).2 q) (BL_levelAt j.2.2.2.2.2 hi hn) (W_levelAt_x1 j.1.1 (q_levelAt_x j.1 j.2.2.1 (sr_w j.2.2.2.2.2 (i + 1)) (sr_w j.2.2.2.2.2 (i + 2)) (sr_w j.2.2.2.2.2 (i + 3)) q)) (BM_levelAt hi hn) (by decide) (by decide)
theorem C_built (j : JI σ c h D n xs) (hi : 0 ≤ i ∧ i + 5 < n) (hn : n ≤ 3072) : LC σ c h D n xs i 1698 := by
  by_cases q : isPl σ (xs (i + 1)) (xs (i + 2)) (xs (i + 3))
  · exact LC_q j (fun rm => (m_built rm j.2.2.1 (sr_w j.2.2.2.2.2 (i + 1)) (sr_w j.2.2.2.2.2 (i + 2)) (sr_w j.2.2.2.2.2 (i + 3))).1 q) (BL_built j.2.2.2.2.2 hi hn) (fun o => W_built j.1.1 o (wr_wr _) (mI_of (q_built j.1 j.2.2.1 (sr_w j.2.2.2.2.2 (i + 1)) (sr_w j.2.2.2.2.2 (i + 2)) (sr_w j.2.2.2.2.2 (i + 3)) q))) (BM_built hi hn) (by decide) (by decide)
  · exact LC_x j w_1 (by decide) w_0 (fun rm => (m_built rm j.2.2.1 (sr_w j.2.2.2.2.2 (i + 1)) (sr_w j.2.2.2.2.2 (i + 2)) (sr_w j.2.2.2.2.2 (i + 3))).2 q) (BL_built j.2.2.2.2.2 hi hn) (W_built_x1 j.1.1 (q_built_x j.1 j.2.2.1 (sr_w j.2.2.2.2.2 (i + 1)) (sr_w j.2.2.2.2.2 (i + 2)) (sr_w j.2.2.2.2.2 (i + 3)) q)) (BM_built hi hn) (by decide) (by decide)
theorem C_keptAt (j : JI σ c h D n xs) (hi : 0 ≤ i ∧ i + 5 < n) (hn : n ≤ 3072) : LC σ c h D n xs i 977 := by
  by_cases q : 0 ≤ (xs (i + 1)) ∧ (xs (i + 1)) < tz σ 8
  · exact LC_q j (fun rm => (m_keptAt rm j.2.2.1 (sr_w j.2.2.2.2.2 (i + 1))).1 q) (BL_keptAt j.2.2.2.2.2 hi hn) (fun o => W_keptAt j.1.1 o (wr_wr _) (mI_of ((q_keptAt j.1 j.2.2.1 (sr_w j.2.2.2.2.2 (i + 1))).1 q))) (BM_keptAt hi hn) (by decide) (by decide)
  · exact LC_x j w_1 (by decide) w_0 (fun rm => (m_keptAt rm j.2.2.1 (sr_w j.2.2.2.2.2 (i + 1))).2 q) (BL_keptAt j.2.2.2.2.2 hi hn) (W_keptAt_x1 j.1.1 ((q_keptAt j.1 j.2.2.1 (sr_w j.2.2.2.2.2 (i + 1))).2 q)) (BM_keptAt hi hn) (by decide) (by decide)
theorem C_bucket (j : JI σ c h D n xs) (hi : 0 ≤ i ∧ i + 5 < n) (hn : n ≤ 3072) : LC σ c h D n xs i 1046 := by
  by_cases q : 0 < tz σ 4
  · exact LC_q j (fun rm => (m_bucket rm j.2.2.1).1 q) (BL_bucket j.2.2.2.2.2 hi hn) (fun o => W_bucket j.1.1 o (wr_wr _) (mI_of ((q_bucket j.1).1 q))) (BM_bucket hi hn) (by decide) (by decide)
  · exact LC_x j w_1 (by decide) w_0 (fun rm => (m_bucket rm j.2.2.1).2 q) (BL_bucket j.2.2.2.2.2 hi hn) (W_bucket_x4 j.1.1 ((q_bucket j.1).2 q)) (BM_bucket hi hn) (by decide) (by decide)
theorem C_shown (j : JI σ c h D n xs) (hi : 0 ≤ i ∧ i + 5 < n) (hn : n ≤ 3072) : LC σ c h D n xs i 2045 := by
  by_cases q : tz σ 10 = -1
  · exact LC_x j w_1 (by decide) w_0 (fun rm => (m_shown rm).2 q) (BL_shown j.2.2.2.2.2 hi hn) (W_shown_x4 j.1.1 ((q_shown j.1).2 q)) (BM_shown hi hn) (by decide) (by decide)
  · exact LC_q j (fun rm => (m_shown rm).1 q) (BL_shown j.2.2.2.2.2 hi hn) (fun o => W_shown j.1.1 o (wr_wr _) (mI_of ((q_shown j.1).1 q))) (BM_shown hi hn) (by decide) (by decide)
theorem C_drift (j : JI σ c h D n xs) (hi : 0 ≤ i ∧ i + 5 < n) (hn : n ≤ 3072) : LC σ c h D n xs i 2208 := by
  by_cases q : tz σ 10 = -1
  · exact LC_x j w_1 (by decide) w_0 (fun rm => (m_drift rm j.2.2.1).2 q) (BL_drift j.2.2.2.2.2 hi hn) (W_drift_x4 j.1.1 ((q_drift j.1 j.2.2.1).2 q)) (BM_drift hi hn) (by decide) (by decide)
  · exact LC_q j (fun rm => (m_drift rm j.2.2.1).1 q) (BL_drift j.2.2.2.2.2 hi hn) (fun o => W_drift j.1.1 o (wr_wr _) (mI_of ((q_drift j.1 j.2.2.1).1 q))) (BM_drift hi hn) (by decide) (by decide)
theorem C_commonest (j : JI σ c h D n xs) (hi : 0 ≤ i ∧ i + 5 < n) (hn : n ≤ 3072) : LC σ c h D n xs i 1889 := by
  by_cases q : tz σ 7 = 0
  · exact LC_x j w_1 (by decide) w_0 (fun rm => (m_commonest rm j.2.2.1).2 q) (BL_commonest j.2.2.2.2.2 hi hn) (W_commonest_x4 j.1.1 ((q_commonest j.1 j.2.2.1).2 q)) (BM_commonest hi hn) (by decide) (by decide)
  · exact LC_q j (fun rm => (m_commonest rm j.2.2.1).1 q) (BL_commonest j.2.2.2.2.2 hi hn) (fun o => W_commonest j.1.1 o (wr_wr _) (mI_of ((q_commonest j.1 j.2.2.1).1 q))) (BM_commonest hi hn) (by decide) (by decide)
theorem C_shownAt (j : JI σ c h D n xs) (hi : 0 ≤ i ∧ i + 5 < n) (hn : n ≤ 3072) : LC σ c h D n xs i 2089 := by
  by_cases q : (0 ≤ (xs (i + 1)) ∧ (xs (i + 1)) < 16) ∧ 0 ≤ (xs (i + 2)) ∧ (xs (i + 2)) < 16
  · by_cases p : tz σ 10 = -1
    · exact LC_x j w_2 (by decide) w_0 (fun rm => ((m_shownAt rm (sr_w j.2.2.2.2.2 (i + 1)) (sr_w j.2.2.2.2.2 (i + 2))).1 q).2 p) (BL_shownAt j.2.2.2.2.2 hi hn) (W_shownAt_x4 j.1.1 (((q_shownAt j.1 (sr_w j.2.2.2.2.2 (i + 1)) (sr_w j.2.2.2.2.2 (i + 2))).1 q).2 p)) (BM_shownAt hi hn) (by decide) (by decide)
    · exact LC_q j (fun rm => ((m_shownAt rm (sr_w j.2.2.2.2.2 (i + 1)) (sr_w j.2.2.2.2.2 (i + 2))).1 q).1 p) (BL_shownAt j.2.2.2.2.2 hi hn) (fun o => W_shownAt j.1.1 o (wr_wr _) (mI_of (((q_shownAt j.1 (sr_w j.2.2.2.2.2 (i + 1)) (sr_w j.2.2.2.2.2 (i + 2))).1 q).1 p))) (BM_shownAt hi hn) (by decide) (by decide)
  · exact LC_x j w_1 (by decide) w_0 (fun rm => (m_shownAt rm (sr_w j.2.2.2.2.2 (i + 1)) (sr_w j.2.2.2.2.2 (i + 2))).2 q) (BL_shownAt j.2.2.2.2.2 hi hn) (W_shownAt_x1 j.1.1 ((q_shownAt j.1 (sr_w j.2.2.2.2.2 (i + 1)) (sr_w j.2.2.2.2.2 (i + 2))).2 q)) (BM_shownAt hi hn) (by decide) (by decide)
theorem C_vectorAt (j : JI σ c h D n xs) (hi : 0 ≤ i ∧ i + 5 < n) (hn : n ≤ 3072) : LC σ c h D n xs i 1510 := by
  by_cases q : isPl σ (xs (i + 1)) (xs (i + 2)) (xs (i + 3))
  · by_cases p : isVc σ (xs (i + 1)) (xs (i + 2)) (xs (i + 3)) (bZ (¬ (xs (i + 4)) = 0))
    · exact LC_q j (fun rm => ((m_vectorAt rm j.2.2.1 (sr_w j.2.2.2.2.2 (i + 1)) (sr_w j.2.2.2.2.2 (i + 2)) (sr_w j.2.2.2.2.2 (i + 3)) (wr_bZ _)).1 q).1 p) (BL_vectorAt j.2.2.2.2.2 hi hn) (fun o => W_vectorAt j.1.1 o (wr_wr _) (mI_of ((q_vectorAt j.1 j.2.2.1 (sr_w j.2.2.2.2.2 (i + 1)) (sr_w j.2.2.2.2.2 (i + 2)) (sr_w j.2.2.2.2.2 (i + 3)) (wr_bZ _) q).1 p))) (BM_vectorAt hi hn) (by decide) (by decide)
    · exact LC_x j w_2 (by decide) w_0 (fun rm => ((m_vectorAt rm j.2.2.1 (sr_w j.2.2.2.2.2 (i + 1)) (sr_w j.2.2.2.2.2 (i + 2)) (sr_w j.2.2.2.2.2 (i + 3)) (wr_bZ _)).1 q).2 p) (BL_vectorAt j.2.2.2.2.2 hi hn) (W_vectorAt_x4 j.1.1 ((q_vectorAt j.1 j.2.2.1 (sr_w j.2.2.2.2.2 (i + 1)) (sr_w j.2.2.2.2.2 (i + 2)) (sr_w j.2.2.2.2.2 (i + 3)) (wr_bZ _) q).2 p)) (BM_vectorAt hi hn) (by decide) (by decide)
  · exact LC_x j w_1 (by decide) w_0 (fun rm => (m_vectorAt rm j.2.2.1 (sr_w j.2.2.2.2.2 (i + 1)) (sr_w j.2.2.2.2.2 (i + 2)) (sr_w j.2.2.2.2.2 (i + 3)) (wr_bZ _)).2 q) (BL_vectorAt j.2.2.2.2.2 hi hn) (W_vectorAt_x1 j.1.1 (q_vectorAt_x j.1 j.2.2.1 (sr_w j.2.2.2.2.2 (i + 1)) (sr_w j.2.2.2.2.2 (i + 2)) (sr_w j.2.2.2.2.2 (i + 3)) q)) (BM_vectorAt hi hn) (by decide) (by decide)
theorem C_heaviest (j : JI σ c h D n xs) (hi : 0 ≤ i ∧ i + 5 < n) (hn : n ≤ 3072) : LC σ c h D n xs i 1833 := by
  by_cases q : 0 ≤ (xs (i + 1)) ∧ (xs (i + 1)) < tz σ 7
  · obtain ⟨v, hv, -, e⟩ := (q_heaviest j.1 j.2.2.1 (sr_w j.2.2.2.2.2 (i + 1))).1 q
    exact LC_q j (fun rm => by
      obtain ⟨v2, hv2, m⟩ := (m_heaviest rm j.2.2.1 (sr_w j.2.2.2.2.2 (i + 1))).1 q
      rw [← isHv_one hv hv2] at m
      exact m) (BL_heaviest j.2.2.2.2.2 hi hn) (fun o => W_heaviest j.1.1 o (wr_wr _) (mI_of e)) (BM_heaviest hi hn) (by decide) (by decide)
  · exact LC_x j w_1 (by decide) w_0 (fun rm => (m_heaviest rm j.2.2.1 (sr_w j.2.2.2.2.2 (i + 1))).2 q) (BL_heaviest j.2.2.2.2.2 hi hn) (W_heaviest_x1 j.1.1 ((q_heaviest j.1 j.2.2.1 (sr_w j.2.2.2.2.2 (i + 1))).2 q)) (BM_heaviest hi hn) (by decide) (by decide)
theorem C_setCoarseness (j : JI σ c h D n xs) (hi : 0 ≤ i ∧ i + 5 < n) (hn : n ≤ 3072) : LC σ c h D n xs i 592 := by
  by_cases q : 1 ≤ (xs (i + 1)) ∧ (xs (i + 1)) ≤ 40
  · obtain ⟨h', e, rc, md⟩ := (c_setCoarseness j.1 (sr_w j.2.2.2.2.2 (i + 1))).1 q
    exact LC_int j (md_fr (SC0_l md)) (Or.inl rfl) rc (px_l md j.1 j.2.2.2.1) (WfS_le (WfS_0 j.2.2.1 q) (by omega)) (fun rm _ => (m_setCoarseness rm (sr_w j.2.2.2.2.2 (i + 1))).1 q) (BL_setCoarseness j.2.2.2.2.2 hi hn) (fun o => W_setCoarseness j.1.1 o (wr_wr _) (mI_of e)) (BM_setCoarseness hi hn) (by decide) (hs0 rfl (by decide))
  · exact LC_x j w_1 (by decide) w_0 (fun rm => (m_setCoarseness rm (sr_w j.2.2.2.2.2 (i + 1))).2 q) (BL_setCoarseness j.2.2.2.2.2 hi hn) (W_setCoarseness_x0 j.1.1 ((c_setCoarseness j.1 (sr_w j.2.2.2.2.2 (i + 1))).2 q)) (BM_setCoarseness hi hn) (by decide) (by decide)
theorem C_setTools (j : JI σ c h D n xs) (hi : 0 ≤ i ∧ i + 5 < n) (hn : n ≤ 3072) : LC σ c h D n xs i 648 := by
  by_cases q : 0 ≤ (xs (i + 1)) ∧ (xs (i + 1)) ≤ 7
  · obtain ⟨h', e, rc, md⟩ := (c_setTools j.1 (sr_w j.2.2.2.2.2 (i + 1))).1 q
    exact LC_int j (md_fr (SC0_l md)) (Or.inl rfl) rc (px_l md j.1 j.2.2.2.1) (WfS_le (WfS_1 j.2.2.1 q) (by omega)) (fun rm _ => (m_setTools rm (sr_w j.2.2.2.2.2 (i + 1))).1 q) (BL_setTools j.2.2.2.2.2 hi hn) (fun o => W_setTools j.1.1 o (wr_wr _) (mI_of e)) (BM_setTools hi hn) (by decide) (hs0 rfl (by decide))
  · exact LC_x j w_1 (by decide) w_0 (fun rm => (m_setTools rm (sr_w j.2.2.2.2.2 (i + 1))).2 q) (BL_setTools j.2.2.2.2.2 hi hn) (W_setTools_x0 j.1.1 ((c_setTools j.1 (sr_w j.2.2.2.2.2 (i + 1))).2 q)) (BM_setTools hi hn) (by decide) (by decide)
theorem C_setSlices (j : JI σ c h D n xs) (hi : 0 ≤ i ∧ i + 5 < n) (hn : n ≤ 3072) : LC σ c h D n xs i 704 := by
  by_cases q : 1 ≤ (xs (i + 1)) ∧ (xs (i + 1)) ≤ 2
  · obtain ⟨h', e, rc, md⟩ := (c_setSlices j.1 (sr_w j.2.2.2.2.2 (i + 1))).1 q
    exact LC_int j (md_fr (SC0_l md)) (Or.inl rfl) rc (px_l md j.1 j.2.2.2.1) (WfS_le (WfS_2 j.2.2.1 q) (by omega)) (fun rm _ => (m_setSlices rm (sr_w j.2.2.2.2.2 (i + 1))).1 q) (BL_setSlices j.2.2.2.2.2 hi hn) (fun o => W_setSlices j.1.1 o (wr_wr _) (mI_of e)) (BM_setSlices hi hn) (by decide) (hs0 rfl (by decide))
  · exact LC_x j w_1 (by decide) w_0 (fun rm => (m_setSlices rm (sr_w j.2.2.2.2.2 (i + 1))).2 q) (BL_setSlices j.2.2.2.2.2 hi hn) (W_setSlices_x0 j.1.1 ((c_setSlices j.1 (sr_w j.2.2.2.2.2 (i + 1))).2 q)) (BM_setSlices hi hn) (by decide) (by decide)
theorem C_setBucket (j : JI σ c h D n xs) (hi : 0 ≤ i ∧ i + 5 < n) (hn : n ≤ 3072) : LC σ c h D n xs i 801 := by
  by_cases q : isB2 (xs (i + 1)) (xs (i + 2))
  · obtain ⟨h', e, rc, md⟩ := (c_setBucket j.1 (sr_w j.2.2.2.2.2 (i + 1)) (sr_w j.2.2.2.2.2 (i + 2))).1 q
    exact LC_int j (md_fr (SC0_l md)) (Or.inl rfl) rc (px_l md j.1 j.2.2.2.1) (WfS_le (WfS_b j.2.2.1 q) (by omega)) (fun rm _ => (m_setBucket rm j.2.2.1 (sr_w j.2.2.2.2.2 (i + 1)) (sr_w j.2.2.2.2.2 (i + 2))).1 q) (BL_setBucket j.2.2.2.2.2 hi hn) (fun o => W_setBucket j.1.1 o (wr_wr _) (mI_of e)) (BM_setBucket hi hn) (by decide) (hs0 rfl (by decide))
  · exact LC_x j w_1 (by decide) w_0 (fun rm => (m_setBucket rm j.2.2.1 (sr_w j.2.2.2.2.2 (i + 1)) (sr_w j.2.2.2.2.2 (i + 2))).2 q) (BL_setBucket j.2.2.2.2.2 hi hn) (W_setBucket_x0 j.1.1 ((c_setBucket j.1 (sr_w j.2.2.2.2.2 (i + 1)) (sr_w j.2.2.2.2.2 (i + 2))).2 q)) (BM_setBucket hi hn) (by decide) (by decide)
theorem C_join (j : JI σ c h D n xs) (hi : 0 ≤ i ∧ i + 5 < n) (hn : n ≤ 3072) : LC σ c h D n xs i 1989 := by
  by_cases q : 0 ≤ (xs (i + 1)) ∧ (xs (i + 1)) ≤ tz σ 7
  · obtain ⟨h', e, rc, md⟩ := (c_join j.1 j.2.2.1 (sr_w j.2.2.2.2.2 (i + 1))).1 q
    exact LC_int j (md_fr (SC0_l md)) (Or.inl rfl) rc (px_l md j.1 j.2.2.2.1) (WfS_le (WfS_j j.2.2.1 q) (by omega)) (fun rm _ => (m_join rm (sr_w j.2.2.2.2.2 (i + 1))).1 q) (BL_join j.2.2.2.2.2 hi hn) (fun o => W_join j.1.1 o (wr_wr _) (mI_of e)) (BM_join hi hn) (by decide) (hs0 rfl (by decide))
  · exact LC_x j w_1 (by decide) w_0 (fun rm => (m_join rm (sr_w j.2.2.2.2.2 (i + 1))).2 q) (BL_join j.2.2.2.2.2 hi hn) (W_join_x1 j.1.1 ((c_join j.1 j.2.2.1 (sr_w j.2.2.2.2.2 (i + 1))).2 q)) (BM_join hi hn) (by decide) (by decide)
theorem C_fill (j : JI σ c h D n xs) (hi : 0 ≤ i ∧ i + 5 < n) (hn : n ≤ 3072) : LC σ c h D n xs i 204 := by
  by_cases q : isF (xs (i + 1)) (xs (i + 2)) (xs (i + 3)) (xs (i + 4)) (xs (i + 5))
  · obtain ⟨h', e, md, g3⟩ := fill_ok j.1 q
    have rc := RC_cv md j.1
    rw [g3] at rc
    have m0 : Md SC0 h h' := Md_mono md fun a _ q => by unfold SC0; omega
    exact LC_int j (md_fr (SC0_l m0)) (Or.inl rfl) rc (px_l m0 j.1 j.2.2.2.1) (WfS_le (WfS_cv j.2.2.1 (px_fl j.2.2.1.2.2.1 q)) (by omega)) (fun rm _ => (m_fill rm (sr_w j.2.2.2.2.2 (i + 1)) (sr_w j.2.2.2.2.2 (i + 2)) (sr_w j.2.2.2.2.2 (i + 3)) (sr_w j.2.2.2.2.2 (i + 4)) (sr_w j.2.2.2.2.2 (i + 5))).1 q) (BL_fill j.2.2.2.2.2 hi hn) (fun o => W_fill j.1.1 o (wr_wr _) (mI_of e)) (BM_fill hi hn) (by decide) (hs0 rfl (by decide))
  · exact LC_x j w_1 (by decide) w_0 (fun rm => (m_fill rm (sr_w j.2.2.2.2.2 (i + 1)) (sr_w j.2.2.2.2.2 (i + 2)) (sr_w j.2.2.2.2.2 (i + 3)) (sr_w j.2.2.2.2.2 (i + 4)) (sr_w j.2.2.2.2.2 (i + 5))).2 q) (BL_fill j.2.2.2.2.2 hi hn) (W_fill_x0 j.1.1 (fill_x j.1 (sr_w j.2.2.2.2.2 (i + 1)) (sr_w j.2.2.2.2.2 (i + 2)) (sr_w j.2.2.2.2.2 (i + 3)) (sr_w j.2.2.2.2.2 (i + 4)) (sr_w j.2.2.2.2.2 (i + 5)) q)) (BM_fill hi hn) (by decide) (by decide)
theorem C_slope (j : JI σ c h D n xs) (hi : 0 ≤ i ∧ i + 5 < n) (hn : n ≤ 3072) : LC σ c h D n xs i 308 := by
  by_cases q : isS (xs (i + 1)) (xs (i + 2)) (xs (i + 3))
  · obtain ⟨h', e, md, g3⟩ := slope_ok j.1 q
    have rc := RC_cv md j.1
    rw [g3] at rc
    have m0 : Md SC0 h h' := Md_mono md fun a _ q => by unfold SC0; omega
    exact LC_int j (md_fr (SC0_l m0)) (Or.inl rfl) rc (px_l m0 j.1 j.2.2.2.1) (WfS_le (WfS_cv j.2.2.1 (px_sl j.2.2.1.2.2.1)) (by omega)) (fun rm _ => (m_slope rm (sr_w j.2.2.2.2.2 (i + 1)) (sr_w j.2.2.2.2.2 (i + 2)) (sr_w j.2.2.2.2.2 (i + 3))).1 q) (BL_slope j.2.2.2.2.2 hi hn) (fun o => W_slope j.1.1 o (wr_wr _) (mI_of e)) (BM_slope hi hn) (by decide) (hs0 rfl (by decide))
  · exact LC_x j w_1 (by decide) w_0 (fun rm => (m_slope rm (sr_w j.2.2.2.2.2 (i + 1)) (sr_w j.2.2.2.2.2 (i + 2)) (sr_w j.2.2.2.2.2 (i + 3))).2 q) (BL_slope j.2.2.2.2.2 hi hn) (W_slope_x0 j.1.1 (slope_x (sr_w j.2.2.2.2.2 (i + 1)) (sr_w j.2.2.2.2.2 (i + 2)) (sr_w j.2.2.2.2.2 (i + 3)) q)) (BM_slope hi hn) (by decide) (by decide)
theorem C_grain (j : JI σ c h D n xs) (hi : 0 ≤ i ∧ i + 5 < n) (hn : n ≤ 3072) : LC σ c h D n xs i 388 := by
  by_cases q : 1 ≤ (xs (i + 2)) ∧ (xs (i + 2)) ≤ 99
  · obtain ⟨h', e, md, g3⟩ := grain_ok j.1 (sr_w j.2.2.2.2.2 (i + 1)) q j.2.2.1.2.2.1
    have rc := RC_cv md j.1
    rw [g3] at rc
    have m0 : Md SC0 h h' := Md_mono md fun a _ q => by unfold SC0; omega
    exact LC_int j (md_fr (SC0_l m0)) (Or.inl rfl) rc (px_l m0 j.1 j.2.2.2.1) (WfS_le (WfS_cv j.2.2.1 (px_gr j.2.2.1.2.2.1)) (by omega)) (fun rm _ => (m_grain rm j.2.2.1.2.2.1 (sr_w j.2.2.2.2.2 (i + 1)) (sr_w j.2.2.2.2.2 (i + 2))).1 q) (BL_grain j.2.2.2.2.2 hi hn) (fun o => W_grain j.1.1 o (wr_wr _) (mI_of e)) (BM_grain hi hn) (by decide) (hs0 rfl (by decide))
  · exact LC_x j w_1 (by decide) w_0 (fun rm => (m_grain rm j.2.2.1.2.2.1 (sr_w j.2.2.2.2.2 (i + 1)) (sr_w j.2.2.2.2.2 (i + 2))).2 q) (BL_grain j.2.2.2.2.2 hi hn) (W_grain_x0 j.1.1 (grain_x (sr_w j.2.2.2.2.2 (i + 2)) q)) (BM_grain hi hn) (by decide) (by decide)
theorem C_move (j : JI σ c h D n xs) (hi : 0 ≤ i ∧ i + 5 < n) (hn : n ≤ 3072) : LC σ c h D n xs i 456 := by
  by_cases q : isM (xs (i + 1)) (xs (i + 2))
  · obtain ⟨h', e, md, g3⟩ := move_ok j.1 q
    have rc := RC_cv md j.1
    rw [g3] at rc
    have m0 : Md SC0 h h' := Md_mono md fun a _ q => by unfold SC0; omega
    exact LC_int j (md_fr (SC0_l m0)) (Or.inl rfl) rc (px_l m0 j.1 j.2.2.2.1) (WfS_le (WfS_cv j.2.2.1 (px_mv j.2.2.1.2.2.1)) (by omega)) (fun rm _ => (m_move rm (sr_w j.2.2.2.2.2 (i + 1)) (sr_w j.2.2.2.2.2 (i + 2))).1 q) (BL_move j.2.2.2.2.2 hi hn) (fun o => W_move j.1.1 o (wr_wr _) (mI_of e)) (BM_move hi hn) (by decide) (hs0 rfl (by decide))
  · exact LC_x j w_1 (by decide) w_0 (fun rm => (m_move rm (sr_w j.2.2.2.2.2 (i + 1)) (sr_w j.2.2.2.2.2 (i + 2))).2 q) (BL_move j.2.2.2.2.2 hi hn) (W_move_x0 j.1.1 (move_x (sr_w j.2.2.2.2.2 (i + 1)) (sr_w j.2.2.2.2.2 (i + 2)) q)) (BM_move hi hn) (by decide) (by decide)
theorem C_pictures (j : JI σ c h D n xs) (hi : 0 ≤ i ∧ i + 5 < n) (hn : n ≤ 3072) : LC σ c h D n xs i 951 := by
  exact LC_dir j (md_fr (Md_nil _ _)) j.1 j.2.2.2.1 (WfS_le j.2.2.1 (by omega)) (fun rm => m_pictures rm) (BL_pictures j.2.2.2.2.2 hi hn j.1.1) (mI_of (q_pictures j.1)) (fun h2 x sr k10 wx e => BM_pictures sr hi hn k10 wx wx e rfl) rfl
theorem C_kept (j : JI σ c h D n xs) (hi : 0 ≤ i ∧ i + 5 < n) (hn : n ≤ 3072) : LC σ c h D n xs i 964 := by
  exact LC_dir j (md_fr (Md_nil _ _)) j.1 j.2.2.2.1 (WfS_le j.2.2.1 (by omega)) (fun rm => m_kept rm) (BL_kept j.2.2.2.2.2 hi hn j.1.1) (mI_of (q_kept j.1)) (fun h2 x sr k10 wx e => BM_kept sr hi hn k10 wx wx e rfl) rfl
theorem C_coarseness (j : JI σ c h D n xs) (hi : 0 ≤ i ∧ i + 5 < n) (hn : n ≤ 3072) : LC σ c h D n xs i 1033 := by
  exact LC_dir j (md_fr (Md_nil _ _)) j.1 j.2.2.2.1 (WfS_le j.2.2.1 (by omega)) (fun rm => m_coarseness rm) (BL_coarseness j.2.2.2.2.2 hi hn j.1.1) (mI_of (q_coarseness j.1)) (fun h2 x sr k10 wx e => BM_coarseness sr hi hn k10 wx wx e rfl) rfl
theorem C_setKept (j : JI σ c h D n xs) (hi : 0 ≤ i ∧ i + 5 < n) (hn : n ≤ 3072) : LC σ c h D n xs i 760 := by
  have g : bZ (¬ xs (i + 1) = 0) = 0 ∨ bZ (¬ xs (i + 1) = 0) = 1 := bZ_01 _
  obtain ⟨h', e, rc, md⟩ := c_setKept j.1 (wr_bZ (¬ xs (i + 1) = 0)) g
  exact LC_dir j (md_fr (SC0_l md)) rc (px_l md j.1 j.2.2.2.1) (WfS_le (WfS_3 j.2.2.1 g) (by omega)) (fun rm => m_setKept rm (wr_bZ _) g) (BL_setKept j.2.2.2.2.2 hi hn j.1.1) (mI_of e) (fun h2 x sr k10 wx e => BM_setKept sr hi hn k10 wx wx e rfl) rfl
theorem C_errorOf (j : JI σ c h D n xs) (hi : 0 ≤ i ∧ i + 5 < n) (hn : n ≤ 3072) : LC σ c h D n xs i 1778 := by
  by_cases q : 0 ≤ (xs (i + 1)) ∧ (xs (i + 1)) < tz σ 7
  · exact LC_all (h' := h) (g := uJ h 74 0 (tpz σ (xs (i + 1)) 7)) (D' := D) (X := .int (mI 0)) (V := .long (mL (tpz σ (xs (i + 1)) 7))) j (md_fr (Md_nil _ _)) (Or.inl rfl) j.1 j.2.2.2.1 (WfS_le j.2.2.1 (by omega)) (Md_mono (Md_uJ _ _ _ _) fun _ _ q => Or.inl q) (fun rm _ => (m_errorOf rm j.2.2.1 (sr_w j.2.2.2.2.2 (i + 1))).1 q) (BL_errorOf j.2.2.2.2.2 hi hn) (fun o => W_errorOf j.1.1 o (q_errorOf j.1 j.2.2.1 (sr_w j.2.2.2.2.2 (i + 1)) q)) (fun h2 o sr k10 e k2 o2 f q1 _ v6 v7 v8 => BM_errorOf hi hn _ h2 0 _ sr k10 wr_0 (er_w j.2.2.1 q) e k2 o2 f (fun _ => q1.trans ((gJ_uJ_eq _ (by rw [o.1.1]) rfl).trans (er_w j.2.2.1 q))) v6 v7 v8) (by decide) (hs0 rfl (by decide))
  · exact LC_all (h' := hexc h) (g := hexc h) (D' := D) (X := .int (mI 1)) (V := .long (mL 0)) j (J_exc j).1 (Or.inl rfl) (J_exc j).2.1 (J_exc j).2.2 (WfS_le j.2.2.1 (by omega)) (Md_nil _ _) (fun rm _ => (m_errorOf rm j.2.2.1 (sr_w j.2.2.2.2.2 (i + 1))).2 q) (BL_errorOf j.2.2.2.2.2 hi hn) (fun _ => W_errorOf_x1 j.1.1 (q_errorOf_x j.1 j.2.2.1 (sr_w j.2.2.2.2.2 (i + 1)) q)) (fun h2 o sr k10 e k2 o2 f q1 _ v6 v7 v8 => BM_errorOf hi hn _ h2 1 0 sr k10 w_1 wl_0 e k2 o2 f (fun w => absurd w (by decide)) v6 v7 v8) (by decide) (hs0 rfl (by decide))
theorem C_isClean (j : JI σ c h D n xs) (hi : 0 ≤ i ∧ i + 5 < n) (hn : n ≤ 3072) : LC σ c h D n xs i 2157 := by
  by_cases q : tz σ 10 = -1
  · exact LC_all (h' := hexc h) (g := hexc h) (D' := D) (X := .int (mI 1)) (V := .int (mI 0)) j (J_exc j).1 (Or.inl rfl) (J_exc j).2.1 (J_exc j).2.2 (WfS_le j.2.2.1 (by omega)) (Md_nil _ _) (fun rm _ => (m_isClean rm j.2.2.1).2 q) (BL_isClean j.2.2.2.2.2 hi hn) (fun _ => W_isClean_x4 j.1.1 ((q_isClean j.1).2 q)) (fun h2 o sr k10 e k2 o2 f q1 _ v6 v7 v8 => BM_isClean hi hn _ h2 1 0 sr k10 w_1 w_0 e k2 o2 f (fun w => absurd w (by decide)) v6 v7 v8) (by decide) (hs0 rfl (by decide))
  · have b01 : tz σ 11 = 0 ∨ tz σ 11 = 1 := j.2.2.1.2.2.2.2.1.2.2.1
    have w11 : wr (tz σ 11) = tz σ 11 := wr_id (by omega) (by omega)
    exact LC_all (h' := h) (g := uJ h 74 0 (tz σ 11)) (D' := D) (X := .int (mI 0)) (V := .int (mI (tz σ 11))) j (md_fr (Md_nil _ _)) (Or.inl rfl) j.1 j.2.2.2.1 (WfS_le j.2.2.1 (by omega)) (Md_mono (Md_uJ _ _ _ _) fun _ _ q => Or.inl q) (fun rm _ => (m_isClean rm j.2.2.1).1 q) (BL_isClean j.2.2.2.2.2 hi hn) (fun o => W_isClean j.1.1 o b01 ((q_isClean j.1).1 q)) (fun h2 o sr k10 e k2 o2 f q1 _ v6 v7 v8 => BM_isClean hi hn _ h2 0 _ sr k10 wr_0 w11 e k2 o2 f (fun _ => (q1.trans ((gJ_uJ_eq _ (by rw [o.1.1]) rfl).trans (wl_of_wr w11))).trans (by split <;> omega)) v6 v7 v8) (by decide) (hs0 rfl (by decide))
theorem C_meanBits (j : JI σ c h D n xs) (hi : 0 ≤ i ∧ i + 5 < n) (hn : n ≤ 3072) : LC σ c h D n xs i 2252 := by
  have w7 : 0 ≤ tz σ 7 ∧ tz σ 7 ≤ 12 := j.2.2.1.2.1.1
  by_cases q : tz σ 7 = 0
  · exact LC_all (h' := hexc h) (g := hexc h) (D' := D) (X := .int (mI 1)) (V := .double FP.dconst0) j (J_exc j).1 (Or.inl rfl) (J_exc j).2.1 (J_exc j).2.2 (WfS_le j.2.2.1 (by omega)) (Md_nil _ _) (fun rm _ => (m_meanBits rm j.2.2.1).2 q) (BL_meanBits j.2.2.2.2.2 hi hn) (fun _ => W_meanBits_x5 j.1.1 ((q_meanBits j.1 j.2.2.1).2 q)) (fun h2 o sr k10 e k2 o2 f q1 _ v6 v7 v8 => BM_meanBits hi hn _ h2 sr k10 w_1 e k2 o2 f (fun w => absurd w (by decide)) v6 v7 v8) (by decide) (hs0 rfl (by decide))
  · exact LC_all (h' := h) (g := uD h 75 0 (FP.ddiv (FP.i2d (mI (tbt σ (tz σ 7).toNat))) (FP.i2d (mI (tz σ 7))))) (D' := D) (X := .int (mI 0)) (V := .double (FP.ddiv (FP.i2d (mI (tbt σ (tz σ 7).toNat))) (FP.i2d (mI (tz σ 7))))) j (md_fr (Md_nil _ _)) (Or.inl rfl) j.1 j.2.2.2.1 (WfS_le j.2.2.1 (by omega)) (Md_mono (Md_uD _ _ _ _) fun _ _ q => Or.inr q) (fun rm _ => (m_meanBits rm j.2.2.1).1 q) (BL_meanBits j.2.2.2.2.2 hi hn) (fun o => W_meanBits j.1.1 o ((q_meanBits j.1 j.2.2.1).1 q)) (fun h2 o sr k10 e k2 o2 f _ q1 v6 v7 v8 => BM_meanBits hi hn _ h2 sr k10 wr_0 e k2 o2 f (fun _ => ⟨by rw [q1, gDD_uD (by rw [o.2.1])]; exact if_pos rfl, dcmp_self (divn64 (by omega))⟩) v6 v7 v8) (by decide) (hs0 rfl (by decide))
theorem C_cleanShare (j : JI σ c h D n xs) (hi : 0 ≤ i ∧ i + 5 < n) (hn : n ≤ 3072) (hc : c ≤ 1000) : LC σ c h D n xs i 2317 := by
  have w13 : 0 ≤ tz σ 13 ∧ tz σ 13 ≤ c := j.2.2.1.2.2.2.2.1.2.2.2.2.1
  by_cases q : tz σ 13 = 0
  · exact LC_all (h' := hexc h) (g := hexc h) (D' := D) (X := .int (mI 1)) (V := .float FP.fconst0) j (J_exc j).1 (Or.inl rfl) (J_exc j).2.1 (J_exc j).2.2 (WfS_le j.2.2.1 (by omega)) (Md_nil _ _) (fun rm _ => (m_cleanShare rm j.2.2.1 hc).2 q) (BL_cleanShare j.2.2.2.2.2 hi hn) (fun _ => W_cleanShare_x5 j.1.1 ((q_cleanShare j.1 j.2.2.1 hc).2 q)) (fun h2 o sr k10 e k2 o2 f q1 _ v6 v7 v8 => BM_cleanShare hi hn _ h2 sr k10 w_1 e k2 o2 f (f2d_g (by decide +kernel)) (fun w => absurd w (by decide)) v6 v7 v8) (by decide) (hs0 rfl (by decide))
  · have p13 : 0 < tz σ 13 ∧ tz σ 13 ≤ 1000 := by omega
    exact LC_all (h' := h) (g := uD h 75 0 (FP.f2d (FP.fdiv (FP.i2f (mI (tz σ 14))) (FP.i2f (mI (tz σ 13)))))) (D' := D) (X := .int (mI 0)) (V := .float (FP.fdiv (FP.i2f (mI (tz σ 14))) (FP.i2f (mI (tz σ 13))))) j (md_fr (Md_nil _ _)) (Or.inl rfl) j.1 j.2.2.2.1 (WfS_le j.2.2.1 (by omega)) (Md_mono (Md_uD _ _ _ _) fun _ _ q => Or.inr q) (fun rm _ => (m_cleanShare rm j.2.2.1 hc).1 q) (BL_cleanShare j.2.2.2.2.2 hi hn) (fun o => W_cleanShare j.1.1 o p13 ((q_cleanShare j.1 j.2.2.1 hc).1 q)) (fun h2 o sr k10 e k2 o2 f _ q1 v6 v7 v8 => BM_cleanShare hi hn _ h2 sr k10 wr_0 e k2 o2 f (f2d_g (divn32 p13)) (fun _ => ⟨by rw [q1, gDD_uD (by rw [o.2.1])]; exact if_pos rfl, dcmp_self (f2d_n (divn32 p13))⟩) v6 v7 v8) (by decide) (hs0 rfl (by decide))
theorem C_send (j : JI σ c h D n xs) (hi : 0 ≤ i ∧ i + 5 < n) (hn : n ≤ 3072) (hc : c ≤ 1000) : LC σ c h D n xs i 1933 := by
  by_cases q : tz σ 9 < tz σ 7
  · by_cases p : (0 ≤ (xs (i + 1)) ∧ (xs (i + 1)) ≤ (if tpz σ (tz σ 9) 5 = 2 then 3 else 1))
    · obtain ⟨h', P, e, pP, dcd, rc, md⟩ := c_send j.1 j.2.2.1 hc (sr_w j.2.2.2.2.2 (i + 1)) q p
      exact LC_int j (md_fr (SC0_l md)) (Or.inl rfl) rc (px_l md j.1 j.2.2.2.1) (WfS_s j.2.2.1 q (cvS_01 σ _) (smo_pix pP)) (fun rm hD => (m_send rm j.2.2.1 hc ⟨hD.2, hD.1⟩ (sr_w j.2.2.2.2.2 (i + 1))).1 q p P dcd) (BL_send j.2.2.2.2.2 hi hn) (fun o => W_send j.1.1 o (wr_wr _) (mI_of e)) (BM_send hi hn) (by decide) (hs0 rfl (by decide))
    · exact LC_exc j (J_exc j).1 (J_exc j).2.1 (J_exc j).2.2 w_2 (by decide) w_32 (fun rm hD => (m_send rm j.2.2.1 hc ⟨hD.2, hD.1⟩ (sr_w j.2.2.2.2.2 (i + 1))).2.2 q p) (BL_send j.2.2.2.2.2 hi hn) (W_send_x0 j.1.1 ((c_send_x j.1 j.2.2.1 (sr_w j.2.2.2.2.2 (i + 1))).2 q p)) (BM_send hi hn) (by decide) (by decide)
  · exact LC_exc j (J_exc j).1 (J_exc j).2.1 (J_exc j).2.2 w_1 (by decide) w_32 (fun rm hD => (m_send rm j.2.2.1 hc ⟨hD.2, hD.1⟩ (sr_w j.2.2.2.2.2 (i + 1))).2.1 q) (BL_send j.2.2.2.2.2 hi hn) (W_send_x4 j.1.1 ((c_send_x j.1 j.2.2.1 (sr_w j.2.2.2.2.2 (i + 1))).1 q)) (BM_send hi hn) (by decide) (by decide)
theorem C_code (j : JI σ c h D n xs) (hi : 0 ≤ i ∧ i + 5 < n) (hn : n ≤ 3072) : LC σ c h D n xs i 869 := by
  have wk : wr (xs (i + 1) % 65536) = (xs (i + 1) % 65536) := wr_id (by omega) (by omega)
  by_cases q0 : isKind (xs (i + 1) % 65536)
  · by_cases q : isRq σ (xs (i + 1) % 65536) (xs (i + 2)) (xs (i + 3))
    · by_cases q7 : tz σ 7 < 12
      · obtain ⟨pd, p, u, l, pp, cod, du, dl, ov, no⟩ := c_code j.1 j.2.2.2.1 j.2.2.1 wk (sr_w j.2.2.2.2.2 (i + 2)) (sr_w j.2.2.2.2.2 (i + 3)) q q7
        by_cases qo : ovf σ (8 * (ln0 pd (xs (i + 1) % 65536) (tz σ 1) (tz σ 2) + ln1 pd (xs (i + 1) % 65536) (tz σ 1) (tz σ 2)))
        · obtain ⟨h5, e, rc, px, md⟩ := ov qo
          obtain ⟨a1, a2, al⟩ := RC_al rc
          have rc2 := RC_exc al rc
          have F : Fr (SCl D) 1 6 h (hexc h5) := Fr_mono (Fr_tr (U := SCl D) (md_fr md) (Fr_exc h5) (fun a k _ q => SKD_l D a k q) (fun _ _ _ q => q.elim)) (fun _ _ _ q => q) (by decide) (by decide)
          exact LC_exc j F rc2 px w_4 (by decide) w_0 (fun rm hD => (m_code rm j.2.2.1 ⟨hD.2, hD.1⟩ wk (sr_w j.2.2.2.2.2 (i + 2)) (sr_w j.2.2.2.2.2 (i + 3)) q q7 cod pp du dl).1 qo) (BL_code j.2.2.2.2.2 hi hn) (W_code_x3 j.1.1 e) (BM_code hi hn) (by decide) (by decide)
        · obtain ⟨h', D', e, rc, px, hD, F⟩ := no qo
          have pw := code_pw j.2.2.1 q pp cod (u := u) (l := l)
          have nb := nbt_b (B := 8 * ((ln0 pd (xs (i + 1) % 65536) (tz σ 1) (tz σ 2) : Int) + ln1 pd (xs (i + 1) % 65536) (tz σ 1) (tz σ 2))) j.2.2.1 (by omega) qo
          exact LC_int j F (Or.inr hD) rc px (WfS_le (WfS_k j.2.2.1 q7 pw nb (stv_b j.2.2.1)) (by omega)) (fun rm hD => (m_code rm j.2.2.1 ⟨hD.2, hD.1⟩ wk (sr_w j.2.2.2.2.2 (i + 2)) (sr_w j.2.2.2.2.2 (i + 3)) q q7 cod pp du dl).2 qo) (BL_code j.2.2.2.2.2 hi hn) (fun o => W_code j.1.1 o (wr_wr _) (mI_of e)) (BM_code hi hn) (by decide) (hs2 rfl (by decide))
      · exact LC_x j w_3 (by decide) w_0 (fun rm => (m_code_x rm j.2.2.1 wk (sr_w j.2.2.2.2.2 (i + 2)) (sr_w j.2.2.2.2.2 (i + 3))).2.2.1 q q7) (BL_code j.2.2.2.2.2 hi hn) (W_code_x2 j.1.1 (c_code_full j.1 j.2.2.1 wk (sr_w j.2.2.2.2.2 (i + 2)) (sr_w j.2.2.2.2.2 (i + 3)) q q7)) (BM_code hi hn) (by decide) (by decide)
    · exact LC_x j w_2 (by decide) w_0 (fun rm => (m_code_x rm j.2.2.1 wk (sr_w j.2.2.2.2.2 (i + 2)) (sr_w j.2.2.2.2.2 (i + 3))).2.1 q0 q) (BL_code j.2.2.2.2.2 hi hn) (W_code_x1 j.1.1 ((c_code_x j.1 j.2.2.1 wk (sr_w j.2.2.2.2.2 (i + 2)) (sr_w j.2.2.2.2.2 (i + 3))).2.1 q0 q)) (BM_code hi hn) (by decide) (by decide)
  · exact LC_x j w_1 (by decide) w_0 (fun rm => (m_code_x rm j.2.2.1 wk (sr_w j.2.2.2.2.2 (i + 2)) (sr_w j.2.2.2.2.2 (i + 3))).1 q0) (BL_code j.2.2.2.2.2 hi hn) (W_code_x0 j.1.1 ((c_code_x j.1 j.2.2.1 wk (sr_w j.2.2.2.2.2 (i + 2)) (sr_w j.2.2.2.2.2 (i + 3))).1 q0)) (BM_code hi hn) (by decide) (by decide)
end LV
