/-! ===== the law: its instructions, up to levelAt ===== -/
theorem i_L_law_869 : am_i m_L_law 869 = some (869, .aload_n 1, 1, [], 0) := (lk_7 (Nat.le_of_ble_eq_true rfl)).trans rfl
theorem i_L_law_870 : am_i m_L_law 870 = some (870, .aload_n 0, 1, [], 0) := (lk_7 (Nat.le_of_ble_eq_true rfl)).trans rfl
theorem i_L_law_871 : am_i m_L_law 871 = some (871, .iload 5, 2, [], 0) := (lk_7 (Nat.le_of_ble_eq_true rfl)).trans rfl
theorem i_L_law_873 : am_i m_L_law 873 = some (873, .iconst 1, 1, [], 1) := (lk_7 (Nat.le_of_ble_eq_true rfl)).trans rfl
theorem i_L_law_874 : am_i m_L_law 874 = some (874, .iadd, 1, [], 0) := (lk_7 (Nat.le_of_ble_eq_true rfl)).trans rfl
theorem i_L_law_875 : am_i m_L_law 875 = some (875, .iaload, 1, [], 0) := (lk_7 (Nat.le_of_ble_eq_true rfl)).trans rfl
theorem i_L_law_876 : am_i m_L_law 876 = some (876, .i2c, 1, [], 0) := (lk_7 (Nat.le_of_ble_eq_true rfl)).trans rfl
theorem i_L_law_877 : am_i m_L_law 877 = some (877, .aload_n 0, 1, [], 0) := (lk_7 (Nat.le_of_ble_eq_true rfl)).trans rfl
theorem i_L_law_878 : am_i m_L_law 878 = some (878, .iload 5, 2, [], 0) := (lk_7 (Nat.le_of_ble_eq_true rfl)).trans rfl
theorem i_L_law_880 : am_i m_L_law 880 = some (880, .iconst 2, 1, [], 2) := (lk_7 (Nat.le_of_ble_eq_true rfl)).trans rfl
theorem i_L_law_881 : am_i m_L_law 881 = some (881, .iadd, 1, [], 0) := (lk_7 (Nat.le_of_ble_eq_true rfl)).trans rfl
theorem i_L_law_882 : am_i m_L_law 882 = some (882, .iaload, 1, [], 0) := (lk_7 (Nat.le_of_ble_eq_true rfl)).trans rfl
theorem i_L_law_883 : am_i m_L_law 883 = some (883, .aload_n 0, 1, [], 0) := (lk_8 (Nat.le_of_ble_eq_true rfl)).trans rfl
theorem i_L_law_884 : am_i m_L_law 884 = some (884, .iload 5, 2, [], 0) := (lk_8 (Nat.le_of_ble_eq_true rfl)).trans rfl
theorem i_L_law_886 : am_i m_L_law 886 = some (886, .iconst 3, 1, [], 3) := (lk_8 (Nat.le_of_ble_eq_true rfl)).trans rfl
theorem i_L_law_887 : am_i m_L_law 887 = some (887, .iadd, 1, [], 0) := (lk_8 (Nat.le_of_ble_eq_true rfl)).trans rfl
theorem i_L_law_888 : am_i m_L_law 888 = some (888, .iaload, 1, [], 0) := (lk_8 (Nat.le_of_ble_eq_true rfl)).trans rfl
theorem i_L_law_889 : am_i m_L_law 889 = some (889, .aload_n 3, 1, [], 0) := (lk_8 (Nat.le_of_ble_eq_true rfl)).trans rfl
theorem i_L_law_890 : am_i m_L_law 890 = some (890, .invokestatic 174, 3, [261], 0) := (lk_8 (Nat.le_of_ble_eq_true rfl)).trans rfl
theorem b_L_law_869 {a0 a1 a2 a3 a4 n_a0 : Nat} {x5 : Int} {v6 v7 v8 : Value} {h : am_H} (n1 : gn h a0 = n_a0) (s2 : sh h a0 = (1, 7)) (g3 : 0 ≤ wr (x5 + 1) ∧ wr (x5 + 1) < (n_a0 : Int)) (g4 : 0 ≤ wr (x5 + 2) ∧ wr (x5 + 2) < (n_a0 : Int)) (g5 : 0 ≤ wr (x5 + 3) ∧ wr (x5 + 3) < (n_a0 : Int)) : rn m_L_law 869 [.ref a0, .ref a1, .ref a2, .ref a3, .ref a4, .int (mI x5), v6, v7, v8] [] h = cl m_L_law 893 [.ref a0, .ref a1, .ref a2, .ref a3, .ref a4, .int (mI x5), v6, v7, v8] [] (rn m_L_code 0 [.ref a1, .int (mI ((gZ h a0 (wr (x5 + 1))) % 65536)), .int (mI (gZ h a0 (wr (x5 + 2)))), .int (mI (gZ h a0 (wr (x5 + 3)))), .ref a3, am_J] [] h) := by
  refine (tq_aload_n i_L_law_869 rfl (isA_ref _) rfl).trans ?_
  refine (tq_aload_n i_L_law_870 rfl (isA_ref _) rfl).trans ?_
  refine (tq_iload i_L_law_871 rfl rfl).trans ?_
  refine (tq_iconst i_L_law_873 rfl).trans ?_
  refine (tq_iadd i_L_law_874 rfl).trans ?_
  refine (tq_iaload i_L_law_875 s2 (by decide) rfl g3.1 (lt_gn n1 g3.2) rfl).trans ?_
  refine (tq_i2c i_L_law_876 rfl).trans ?_
  refine (tq_aload_n i_L_law_877 rfl (isA_ref _) rfl).trans ?_
  refine (tq_iload i_L_law_878 rfl rfl).trans ?_
  refine (tq_iconst i_L_law_880 rfl).trans ?_
  refine (tq_iadd i_L_law_881 rfl).trans ?_
  refine (tq_iaload i_L_law_882 s2 (by decide) rfl g4.1 (lt_gn n1 g4.2) rfl).trans ?_
  refine (tq_aload_n i_L_law_883 rfl (isA_ref _) rfl).trans ?_
  refine (tq_iload i_L_law_884 rfl rfl).trans ?_
  refine (tq_iconst i_L_law_886 rfl).trans ?_
  refine (tq_iadd i_L_law_887 rfl).trans ?_
  refine (tq_iaload i_L_law_888 s2 (by decide) rfl g5.1 (lt_gn n1 g5.2) rfl).trans ?_
  refine (tq_aload_n i_L_law_889 rfl (isA_ref _) rfl).trans ?_
  exact c_L_code i_L_law_890 (ltd d_L_law (by decide)) (isA_ref _) (isA_ref _) stOk_0 rfl
theorem i_L_law_893 : am_i m_L_law 893 = some (893, .istore 6, 2, [], 0) := (lk_8 (Nat.le_of_ble_eq_true rfl)).trans rfl
theorem i_L_law_895 : am_i m_L_law 895 = some (895, .aload_n 2, 1, [], 0) := (lk_8 (Nat.le_of_ble_eq_true rfl)).trans rfl
theorem i_L_law_896 : am_i m_L_law 896 = some (896, .aload_n 0, 1, [], 0) := (lk_8 (Nat.le_of_ble_eq_true rfl)).trans rfl
theorem i_L_law_897 : am_i m_L_law 897 = some (897, .iload 5, 2, [], 0) := (lk_8 (Nat.le_of_ble_eq_true rfl)).trans rfl
theorem i_L_law_899 : am_i m_L_law 899 = some (899, .iconst 1, 1, [], 1) := (lk_8 (Nat.le_of_ble_eq_true rfl)).trans rfl
theorem i_L_law_900 : am_i m_L_law 900 = some (900, .iadd, 1, [], 0) := (lk_8 (Nat.le_of_ble_eq_true rfl)).trans rfl
theorem i_L_law_901 : am_i m_L_law 901 = some (901, .iaload, 1, [], 0) := (lk_8 (Nat.le_of_ble_eq_true rfl)).trans rfl
theorem i_L_law_902 : am_i m_L_law 902 = some (902, .i2c, 1, [], 0) := (lk_8 (Nat.le_of_ble_eq_true rfl)).trans rfl
theorem i_L_law_903 : am_i m_L_law 903 = some (903, .aload_n 0, 1, [], 0) := (lk_8 (Nat.le_of_ble_eq_true rfl)).trans rfl
theorem i_L_law_904 : am_i m_L_law 904 = some (904, .iload 5, 2, [], 0) := (lk_8 (Nat.le_of_ble_eq_true rfl)).trans rfl
theorem i_L_law_906 : am_i m_L_law 906 = some (906, .iconst 2, 1, [], 2) := (lk_8 (Nat.le_of_ble_eq_true rfl)).trans rfl
theorem i_L_law_907 : am_i m_L_law 907 = some (907, .iadd, 1, [], 0) := (lk_8 (Nat.le_of_ble_eq_true rfl)).trans rfl
theorem i_L_law_908 : am_i m_L_law 908 = some (908, .iaload, 1, [], 0) := (lk_8 (Nat.le_of_ble_eq_true rfl)).trans rfl
theorem i_L_law_909 : am_i m_L_law 909 = some (909, .aload_n 0, 1, [], 0) := (lk_8 (Nat.le_of_ble_eq_true rfl)).trans rfl
theorem i_L_law_910 : am_i m_L_law 910 = some (910, .iload 5, 2, [], 0) := (lk_8 (Nat.le_of_ble_eq_true rfl)).trans rfl
theorem i_L_law_912 : am_i m_L_law 912 = some (912, .iconst 3, 1, [], 3) := (lk_8 (Nat.le_of_ble_eq_true rfl)).trans rfl
theorem i_L_law_913 : am_i m_L_law 913 = some (913, .iadd, 1, [], 0) := (lk_8 (Nat.le_of_ble_eq_true rfl)).trans rfl
theorem i_L_law_914 : am_i m_L_law 914 = some (914, .iaload, 1, [], 0) := (lk_8 (Nat.le_of_ble_eq_true rfl)).trans rfl
theorem i_L_law_915 : am_i m_L_law 915 = some (915, .invokevirtual 177, 3, [263, 10], 0) := (lk_8 (Nat.le_of_ble_eq_true rfl)).trans rfl
theorem b_L_law_893 {a0 a1 a2 a3 a4 n_a0 : Nat} {x5 xs0 : Int} {v6 v7 v8 : Value} {h : am_H} (n1 : gn h a0 = n_a0) (s2 : sh h a0 = (1, 7)) (g3 : 0 ≤ wr (x5 + 1) ∧ wr (x5 + 1) < (n_a0 : Int)) (g4 : 0 ≤ wr (x5 + 2) ∧ wr (x5 + 2) < (n_a0 : Int)) (g5 : 0 ≤ wr (x5 + 3) ∧ wr (x5 + 3) < (n_a0 : Int)) (k6 : K10 h a2) : rn m_L_law 893 [.ref a0, .ref a1, .ref a2, .ref a3, .ref a4, .int (mI x5), v6, v7, v8] [.int (mI xs0)] h = cl m_L_law 918 [.ref a0, .ref a1, .ref a2, .ref a3, .ref a4, .int (mI x5), .int (mI xs0), v7, v8] [] (rn m_X12_code 0 [.ref a2, .int (mI ((gZ h a0 (wr (x5 + 1))) % 65536)), .int (mI (gZ h a0 (wr (x5 + 2)))), .int (mI (gZ h a0 (wr (x5 + 3)))), am_J, am_J, am_J, am_J, am_J, am_J, am_J, am_J] [] h) := by
  refine (tq_istore (L' := [.ref a0, .ref a1, .ref a2, .ref a3, .ref a4, .int (mI x5), .int (mI xs0), v7, v8]) i_L_law_893 rfl rfl).trans ?_
  refine (tq_aload_n i_L_law_895 rfl (isA_ref _) rfl).trans ?_
  refine (tq_aload_n i_L_law_896 rfl (isA_ref _) rfl).trans ?_
  refine (tq_iload i_L_law_897 rfl rfl).trans ?_
  refine (tq_iconst i_L_law_899 rfl).trans ?_
  refine (tq_iadd i_L_law_900 rfl).trans ?_
  refine (tq_iaload i_L_law_901 s2 (by decide) rfl g3.1 (lt_gn n1 g3.2) rfl).trans ?_
  refine (tq_i2c i_L_law_902 rfl).trans ?_
  refine (tq_aload_n i_L_law_903 rfl (isA_ref _) rfl).trans ?_
  refine (tq_iload i_L_law_904 rfl rfl).trans ?_
  refine (tq_iconst i_L_law_906 rfl).trans ?_
  refine (tq_iadd i_L_law_907 rfl).trans ?_
  refine (tq_iaload i_L_law_908 s2 (by decide) rfl g4.1 (lt_gn n1 g4.2) rfl).trans ?_
  refine (tq_aload_n i_L_law_909 rfl (isA_ref _) rfl).trans ?_
  refine (tq_iload i_L_law_910 rfl rfl).trans ?_
  refine (tq_iconst i_L_law_912 rfl).trans ?_
  refine (tq_iadd i_L_law_913 rfl).trans ?_
  refine (tq_iaload i_L_law_914 s2 (by decide) rfl g5.1 (lt_gn n1 g5.2) rfl).trans ?_
  exact c_X12_code i_L_law_915 (K10_s k6) (ltd d_L_law (by decide)) stOk_0 rfl
theorem i_L_law_918 : am_i m_L_law 918 = some (918, .istore 7, 2, [], 0) := (lk_8 (Nat.le_of_ble_eq_true rfl)).trans rfl
theorem i_L_law_920 : am_i m_L_law 920 = some (920, .aload_n 2, 1, [], 0) := (lk_8 (Nat.le_of_ble_eq_true rfl)).trans rfl
theorem i_L_law_921 : am_i m_L_law 921 = some (921, .invokevirtual 139, 3, [39, 10], 0) := (lk_8 (Nat.le_of_ble_eq_true rfl)).trans rfl
theorem i_L_law_924 : am_i m_L_law 924 = some (924, .iload 6, 2, [], 0) := (lk_8 (Nat.le_of_ble_eq_true rfl)).trans rfl
theorem i_L_law_926 : am_i m_L_law 926 = some (926, .if_icmp .eq 5, 3, [], 0) := (lk_8 (Nat.le_of_ble_eq_true rfl)).trans rfl
theorem i_L_law_929 : am_i m_L_law 929 = some (929, .iconst 0, 1, [], 0) := (lk_8 (Nat.le_of_ble_eq_true rfl)).trans rfl
theorem i_L_law_930 : am_i m_L_law 930 = some (930, .ireturn, 1, [], 0) := (lk_8 (Nat.le_of_ble_eq_true rfl)).trans rfl
theorem i_L_law_931 : am_i m_L_law 931 = some (931, .iload 6, 2, [], 0) := (lk_8 (Nat.le_of_ble_eq_true rfl)).trans rfl
theorem i_L_law_933 : am_i m_L_law 933 = some (933, .ifCond .ne 15, 3, [], 0) := (lk_8 (Nat.le_of_ble_eq_true rfl)).trans rfl
theorem i_L_law_936 : am_i m_L_law 936 = some (936, .aload_n 3, 1, [], 0) := (lk_8 (Nat.le_of_ble_eq_true rfl)).trans rfl
theorem i_L_law_937 : am_i m_L_law 937 = some (937, .iconst 0, 1, [], 0) := (lk_8 (Nat.le_of_ble_eq_true rfl)).trans rfl
theorem i_L_law_938 : am_i m_L_law 938 = some (938, .laload, 1, [], 0) := (lk_8 (Nat.le_of_ble_eq_true rfl)).trans rfl
theorem i_L_law_939 : am_i m_L_law 939 = some (939, .iload 7, 2, [], 0) := (lk_8 (Nat.le_of_ble_eq_true rfl)).trans rfl
theorem i_L_law_941 : am_i m_L_law 941 = some (941, .i2l, 1, [], 0) := (lk_8 (Nat.le_of_ble_eq_true rfl)).trans rfl
theorem i_L_law_942 : am_i m_L_law 942 = some (942, .lcmp, 1, [], 0) := (lk_8 (Nat.le_of_ble_eq_true rfl)).trans rfl
theorem i_L_law_943 : am_i m_L_law 943 = some (943, .ifCond .eq 5, 3, [], 0) := (lk_8 (Nat.le_of_ble_eq_true rfl)).trans rfl
theorem i_L_law_946 : am_i m_L_law 946 = some (946, .iconst 0, 1, [], 0) := (lk_8 (Nat.le_of_ble_eq_true rfl)).trans rfl
theorem i_L_law_947 : am_i m_L_law 947 = some (947, .ireturn, 1, [], 0) := (lk_8 (Nat.le_of_ble_eq_true rfl)).trans rfl
theorem i_L_law_948 : am_i m_L_law 948 = some (948, .goto 1435, 3, [], 0) := (lk_8 (Nat.le_of_ble_eq_true rfl)).trans rfl
theorem b_L_law_918 {a0 a1 a2 a3 a4 n_a3 : Nat} {x5 x6 xs0 x6' xs0' : Int} {v7 v8 : Value} {h : am_H} (w6 : wr x6 = x6') (ws0 : wr xs0 = xs0') (k1 : K10 h a2) (n2 : gn h a3 = n_a3) (s3 : sh h a3 = (2, 3)) (g4 : ((fZ h a2 0) = x6') → (¬ (¬ x6' = 0)) → ((0 : Int) ≤ 0 ∧ 0 < (n_a3 : Int))) : rn m_L_law 918 [.ref a0, .ref a1, .ref a2, .ref a3, .ref a4, .int (mI x5), .int (mI x6), v7, v8] [.int (mI xs0)] h = if (fZ h a2 0) = x6' then if ¬ x6' = 0 then rn m_L_law 2383 [.ref a0, .ref a1, .ref a2, .ref a3, .ref a4, .int (mI x5), .int (mI x6), .int (mI xs0), v8] [] h else if (gJ h a3 0) = xs0' then rn m_L_law 2383 [.ref a0, .ref a1, .ref a2, .ref a3, .ref a4, .int (mI x5), .int (mI x6), .int (mI xs0), v8] [] h else some (.inl (some (.int (mI 0))), h) else some (.inl (some (.int (mI 0))), h) := by
  refine (tq_istore (L' := [.ref a0, .ref a1, .ref a2, .ref a3, .ref a4, .int (mI x5), .int (mI x6), .int (mI xs0), v8]) i_L_law_918 rfl rfl).trans ?_
  refine (tq_aload_n i_L_law_920 rfl (isA_ref _) rfl).trans ?_
  refine (c_X12_thrown i_L_law_921 (K10_s k1) (ltd d_L_law (by decide)) stOk_0 rfl).trans ?_
  refine (congrArg (cl _ _ _ _) (b_X12_thrown_0 k1)).trans ?_
  refine (cl_v _ _ _ _ _ _).trans ?_
  refine (tq_iload i_L_law_924 rfl rfl).trans ?_
  refine (tq_icmp_eq (pt := 931) i_L_law_926 (wr_fZ _ _ _) w6 (by decide) rfl).trans ?_
  refine ite_congr rfl (fun c1 => ?_) (fun c1 => ?_)
  · refine (tq_iload i_L_law_931 rfl rfl).trans ?_
    refine (tq_if_ne (pt := 948) i_L_law_933 w6 (by decide) rfl).trans ?_
    refine ite_congr rfl (fun c2 => ?_) (fun c2 => ?_)
    · refine (tq_goto (pc' := 2383) i_L_law_948 (by decide)).trans ?_
      rfl
    · refine (tq_aload_n i_L_law_936 rfl (isA_ref _) rfl).trans ?_
      refine (tq_iconst i_L_law_937 rfl).trans ?_
      refine (tq_laload i_L_law_938 s3 w_0 (g4 c1 c2).1 (lt_gn n2 (g4 c1 c2).2) rfl).trans ?_
      refine (tq_iload i_L_law_939 rfl rfl).trans ?_
      refine (tq_i2l i_L_law_941 ws0 rfl).trans ?_
      refine (tq_lcmp_eq (pt := 948) i_L_law_942 i_L_law_943 rfl (wl_gJ _ _ _) (wl_of_wr ws0) (by decide) rfl).trans ?_
      refine ite_congr rfl (fun c3 => ?_) (fun c3 => ?_)
      · refine (tq_goto (pc' := 2383) i_L_law_948 (by decide)).trans ?_
        rfl
      · refine (tq_iconst i_L_law_946 rfl).trans ?_
        exact tq_ireturn i_L_law_947 r_L_law (okB w_0 (by decide))
  · refine (tq_iconst i_L_law_929 rfl).trans ?_
    exact tq_ireturn i_L_law_930 r_L_law (okB w_0 (by decide))
theorem i_L_law_951 : am_i m_L_law 951 = some (951, .aload_n 1, 1, [], 0) := (lk_8 (Nat.le_of_ble_eq_true rfl)).trans rfl
theorem i_L_law_952 : am_i m_L_law 952 = some (952, .invokevirtual 178, 3, [11, 9], 0) := (lk_8 (Nat.le_of_ble_eq_true rfl)).trans rfl
theorem b_L_law_951 {a0 a1 a2 a3 a4 : Nat} {x5 : Int} {v6 v7 v8 : Value} {h : am_H} (k1 : K9 h a1) : rn m_L_law 951 [.ref a0, .ref a1, .ref a2, .ref a3, .ref a4, .int (mI x5), v6, v7, v8] [] h = cl m_L_law 955 [.ref a0, .ref a1, .ref a2, .ref a3, .ref a4, .int (mI x5), v6, v7, v8] [] (rn m_X11_pictures 0 [.ref a1] [] h) := by
  refine (tq_aload_n i_L_law_951 rfl (isA_ref _) rfl).trans ?_
  exact c_X11_pictures i_L_law_952 (K9_s k1) (ltd d_L_law (by decide)) stOk_0 rfl
theorem i_L_law_955 : am_i m_L_law 955 = some (955, .aload_n 2, 1, [], 0) := (lk_8 (Nat.le_of_ble_eq_true rfl)).trans rfl
theorem i_L_law_956 : am_i m_L_law 956 = some (956, .invokevirtual 181, 3, [32, 10], 0) := (lk_8 (Nat.le_of_ble_eq_true rfl)).trans rfl
theorem b_L_law_955 {a0 a1 a2 a3 a4 : Nat} {x5 xs0 : Int} {v6 v7 v8 : Value} {h : am_H} (k1 : K10 h a2) : rn m_L_law 955 [.ref a0, .ref a1, .ref a2, .ref a3, .ref a4, .int (mI x5), v6, v7, v8] [.int (mI xs0)] h = cl m_L_law 959 [.ref a0, .ref a1, .ref a2, .ref a3, .ref a4, .int (mI x5), v6, v7, v8] [.int (mI xs0)] (rn m_X12_pictures 0 [.ref a2] [] h) := by
  refine (tq_aload_n i_L_law_955 rfl (isA_ref _) rfl).trans ?_
  exact c_X12_pictures i_L_law_956 (K10_s k1) (ltd d_L_law (by decide)) (stOk_1 _) rfl
theorem i_L_law_959 : am_i m_L_law 959 = some (959, .if_icmp .eq 1424, 3, [], 0) := (lk_8 (Nat.le_of_ble_eq_true rfl)).trans rfl
theorem i_L_law_962 : am_i m_L_law 962 = some (962, .iconst 0, 1, [], 0) := (lk_8 (Nat.le_of_ble_eq_true rfl)).trans rfl
theorem i_L_law_963 : am_i m_L_law 963 = some (963, .ireturn, 1, [], 0) := (lk_8 (Nat.le_of_ble_eq_true rfl)).trans rfl
theorem b_L_law_959 {a0 a1 a2 a3 a4 : Nat} {x5 xs0 xs1 xs0' xs1' : Int} {v6 v7 v8 : Value} {h : am_H} (ws0 : wr xs0 = xs0') (ws1 : wr xs1 = xs1') : rn m_L_law 959 [.ref a0, .ref a1, .ref a2, .ref a3, .ref a4, .int (mI x5), v6, v7, v8] [.int (mI xs0), .int (mI xs1)] h = if xs1' = xs0' then rn m_L_law 2383 [.ref a0, .ref a1, .ref a2, .ref a3, .ref a4, .int (mI x5), v6, v7, v8] [] h else some (.inl (some (.int (mI 0))), h) := by
  refine (tq_icmp_eq (pt := 2383) i_L_law_959 ws1 ws0 (by decide) rfl).trans ?_
  refine ite_congr rfl (fun c1 => ?_) (fun c1 => ?_)
  · rfl
  · refine (tq_iconst i_L_law_962 rfl).trans ?_
    exact tq_ireturn i_L_law_963 r_L_law (okB w_0 (by decide))
theorem i_L_law_964 : am_i m_L_law 964 = some (964, .aload_n 1, 1, [], 0) := (lk_8 (Nat.le_of_ble_eq_true rfl)).trans rfl
theorem i_L_law_965 : am_i m_L_law 965 = some (965, .invokevirtual 182, 3, [10, 9], 0) := (lk_8 (Nat.le_of_ble_eq_true rfl)).trans rfl
theorem b_L_law_964 {a0 a1 a2 a3 a4 : Nat} {x5 : Int} {v6 v7 v8 : Value} {h : am_H} (k1 : K9 h a1) : rn m_L_law 964 [.ref a0, .ref a1, .ref a2, .ref a3, .ref a4, .int (mI x5), v6, v7, v8] [] h = cl m_L_law 968 [.ref a0, .ref a1, .ref a2, .ref a3, .ref a4, .int (mI x5), v6, v7, v8] [] (rn m_X11_kept 0 [.ref a1] [] h) := by
  refine (tq_aload_n i_L_law_964 rfl (isA_ref _) rfl).trans ?_
  exact c_X11_kept i_L_law_965 (K9_s k1) (ltd d_L_law (by decide)) stOk_0 rfl
theorem i_L_law_968 : am_i m_L_law 968 = some (968, .aload_n 2, 1, [], 0) := (lk_8 (Nat.le_of_ble_eq_true rfl)).trans rfl
theorem i_L_law_969 : am_i m_L_law 969 = some (969, .invokevirtual 185, 3, [29, 10], 0) := (lk_8 (Nat.le_of_ble_eq_true rfl)).trans rfl
theorem b_L_law_968 {a0 a1 a2 a3 a4 : Nat} {x5 xs0 : Int} {v6 v7 v8 : Value} {h : am_H} (k1 : K10 h a2) : rn m_L_law 968 [.ref a0, .ref a1, .ref a2, .ref a3, .ref a4, .int (mI x5), v6, v7, v8] [.int (mI xs0)] h = cl m_L_law 972 [.ref a0, .ref a1, .ref a2, .ref a3, .ref a4, .int (mI x5), v6, v7, v8] [.int (mI xs0)] (rn m_X12_kept 0 [.ref a2] [] h) := by
  refine (tq_aload_n i_L_law_968 rfl (isA_ref _) rfl).trans ?_
  exact c_X12_kept i_L_law_969 (K10_s k1) (ltd d_L_law (by decide)) (stOk_1 _) rfl
theorem i_L_law_972 : am_i m_L_law 972 = some (972, .if_icmp .eq 1411, 3, [], 0) := (lk_8 (Nat.le_of_ble_eq_true rfl)).trans rfl
theorem i_L_law_975 : am_i m_L_law 975 = some (975, .iconst 0, 1, [], 0) := (lk_8 (Nat.le_of_ble_eq_true rfl)).trans rfl
theorem i_L_law_976 : am_i m_L_law 976 = some (976, .ireturn, 1, [], 0) := (lk_8 (Nat.le_of_ble_eq_true rfl)).trans rfl
theorem b_L_law_972 {a0 a1 a2 a3 a4 : Nat} {x5 xs0 xs1 xs0' xs1' : Int} {v6 v7 v8 : Value} {h : am_H} (ws0 : wr xs0 = xs0') (ws1 : wr xs1 = xs1') : rn m_L_law 972 [.ref a0, .ref a1, .ref a2, .ref a3, .ref a4, .int (mI x5), v6, v7, v8] [.int (mI xs0), .int (mI xs1)] h = if xs1' = xs0' then rn m_L_law 2383 [.ref a0, .ref a1, .ref a2, .ref a3, .ref a4, .int (mI x5), v6, v7, v8] [] h else some (.inl (some (.int (mI 0))), h) := by
  refine (tq_icmp_eq (pt := 2383) i_L_law_972 ws1 ws0 (by decide) rfl).trans ?_
  refine ite_congr rfl (fun c1 => ?_) (fun c1 => ?_)
  · rfl
  · refine (tq_iconst i_L_law_975 rfl).trans ?_
    exact tq_ireturn i_L_law_976 r_L_law (okB w_0 (by decide))
theorem i_L_law_977 : am_i m_L_law 977 = some (977, .aload_n 1, 1, [], 0) := (lk_8 (Nat.le_of_ble_eq_true rfl)).trans rfl
theorem i_L_law_978 : am_i m_L_law 978 = some (978, .aload_n 0, 1, [], 0) := (lk_9 (Nat.le_of_ble_eq_true rfl)).trans rfl
theorem i_L_law_979 : am_i m_L_law 979 = some (979, .iload 5, 2, [], 0) := (lk_9 (Nat.le_of_ble_eq_true rfl)).trans rfl
theorem i_L_law_981 : am_i m_L_law 981 = some (981, .iconst 1, 1, [], 1) := (lk_9 (Nat.le_of_ble_eq_true rfl)).trans rfl
theorem i_L_law_982 : am_i m_L_law 982 = some (982, .iadd, 1, [], 0) := (lk_9 (Nat.le_of_ble_eq_true rfl)).trans rfl
theorem i_L_law_983 : am_i m_L_law 983 = some (983, .iaload, 1, [], 0) := (lk_9 (Nat.le_of_ble_eq_true rfl)).trans rfl
theorem i_L_law_984 : am_i m_L_law 984 = some (984, .aload_n 3, 1, [], 0) := (lk_9 (Nat.le_of_ble_eq_true rfl)).trans rfl
theorem i_L_law_985 : am_i m_L_law 985 = some (985, .invokestatic 186, 3, [210], 0) := (lk_9 (Nat.le_of_ble_eq_true rfl)).trans rfl
theorem b_L_law_977 {a0 a1 a2 a3 a4 n_a0 : Nat} {x5 : Int} {v6 v7 v8 : Value} {h : am_H} (n1 : gn h a0 = n_a0) (s2 : sh h a0 = (1, 7)) (g3 : 0 ≤ wr (x5 + 1) ∧ wr (x5 + 1) < (n_a0 : Int)) : rn m_L_law 977 [.ref a0, .ref a1, .ref a2, .ref a3, .ref a4, .int (mI x5), v6, v7, v8] [] h = cl m_L_law 988 [.ref a0, .ref a1, .ref a2, .ref a3, .ref a4, .int (mI x5), v6, v7, v8] [] (rn m_L_keptAt 0 [.ref a1, .int (mI (gZ h a0 (wr (x5 + 1)))), .ref a3, am_J] [] h) := by
  refine (tq_aload_n i_L_law_977 rfl (isA_ref _) rfl).trans ?_
  refine (tq_aload_n i_L_law_978 rfl (isA_ref _) rfl).trans ?_
  refine (tq_iload i_L_law_979 rfl rfl).trans ?_
  refine (tq_iconst i_L_law_981 rfl).trans ?_
  refine (tq_iadd i_L_law_982 rfl).trans ?_
  refine (tq_iaload i_L_law_983 s2 (by decide) rfl g3.1 (lt_gn n1 g3.2) rfl).trans ?_
  refine (tq_aload_n i_L_law_984 rfl (isA_ref _) rfl).trans ?_
  exact c_L_keptAt i_L_law_985 (ltd d_L_law (by decide)) (isA_ref _) (isA_ref _) stOk_0 rfl
theorem i_L_law_988 : am_i m_L_law 988 = some (988, .istore 6, 2, [], 0) := (lk_9 (Nat.le_of_ble_eq_true rfl)).trans rfl
theorem i_L_law_990 : am_i m_L_law 990 = some (990, .aload_n 2, 1, [], 0) := (lk_9 (Nat.le_of_ble_eq_true rfl)).trans rfl
theorem i_L_law_991 : am_i m_L_law 991 = some (991, .aload_n 0, 1, [], 0) := (lk_9 (Nat.le_of_ble_eq_true rfl)).trans rfl
theorem i_L_law_992 : am_i m_L_law 992 = some (992, .iload 5, 2, [], 0) := (lk_9 (Nat.le_of_ble_eq_true rfl)).trans rfl
theorem i_L_law_994 : am_i m_L_law 994 = some (994, .iconst 1, 1, [], 1) := (lk_9 (Nat.le_of_ble_eq_true rfl)).trans rfl
theorem i_L_law_995 : am_i m_L_law 995 = some (995, .iadd, 1, [], 0) := (lk_9 (Nat.le_of_ble_eq_true rfl)).trans rfl
theorem i_L_law_996 : am_i m_L_law 996 = some (996, .iaload, 1, [], 0) := (lk_9 (Nat.le_of_ble_eq_true rfl)).trans rfl
theorem i_L_law_997 : am_i m_L_law 997 = some (997, .invokevirtual 188, 3, [84, 10], 0) := (lk_9 (Nat.le_of_ble_eq_true rfl)).trans rfl
theorem b_L_law_988 {a0 a1 a2 a3 a4 n_a0 : Nat} {x5 xs0 : Int} {v6 v7 v8 : Value} {h : am_H} (n1 : gn h a0 = n_a0) (s2 : sh h a0 = (1, 7)) (g3 : 0 ≤ wr (x5 + 1) ∧ wr (x5 + 1) < (n_a0 : Int)) (k4 : K10 h a2) : rn m_L_law 988 [.ref a0, .ref a1, .ref a2, .ref a3, .ref a4, .int (mI x5), v6, v7, v8] [.int (mI xs0)] h = cl m_L_law 1000 [.ref a0, .ref a1, .ref a2, .ref a3, .ref a4, .int (mI x5), .int (mI xs0), v7, v8] [] (rn m_X12_keptAt 0 [.ref a2, .int (mI (gZ h a0 (wr (x5 + 1))))] [] h) := by
  refine (tq_istore (L' := [.ref a0, .ref a1, .ref a2, .ref a3, .ref a4, .int (mI x5), .int (mI xs0), v7, v8]) i_L_law_988 rfl rfl).trans ?_
  refine (tq_aload_n i_L_law_990 rfl (isA_ref _) rfl).trans ?_
  refine (tq_aload_n i_L_law_991 rfl (isA_ref _) rfl).trans ?_
  refine (tq_iload i_L_law_992 rfl rfl).trans ?_
  refine (tq_iconst i_L_law_994 rfl).trans ?_
  refine (tq_iadd i_L_law_995 rfl).trans ?_
  refine (tq_iaload i_L_law_996 s2 (by decide) rfl g3.1 (lt_gn n1 g3.2) rfl).trans ?_
  exact c_X12_keptAt i_L_law_997 (K10_s k4) (ltd d_L_law (by decide)) stOk_0 rfl
theorem i_L_law_1000 : am_i m_L_law 1000 = some (1000, .istore 7, 2, [], 0) := (lk_9 (Nat.le_of_ble_eq_true rfl)).trans rfl
theorem i_L_law_1002 : am_i m_L_law 1002 = some (1002, .aload_n 2, 1, [], 0) := (lk_9 (Nat.le_of_ble_eq_true rfl)).trans rfl
theorem i_L_law_1003 : am_i m_L_law 1003 = some (1003, .invokevirtual 139, 3, [39, 10], 0) := (lk_9 (Nat.le_of_ble_eq_true rfl)).trans rfl
theorem i_L_law_1006 : am_i m_L_law 1006 = some (1006, .iload 6, 2, [], 0) := (lk_9 (Nat.le_of_ble_eq_true rfl)).trans rfl
theorem i_L_law_1008 : am_i m_L_law 1008 = some (1008, .if_icmp .eq 5, 3, [], 0) := (lk_9 (Nat.le_of_ble_eq_true rfl)).trans rfl
theorem i_L_law_1011 : am_i m_L_law 1011 = some (1011, .iconst 0, 1, [], 0) := (lk_9 (Nat.le_of_ble_eq_true rfl)).trans rfl
theorem i_L_law_1012 : am_i m_L_law 1012 = some (1012, .ireturn, 1, [], 0) := (lk_9 (Nat.le_of_ble_eq_true rfl)).trans rfl
theorem i_L_law_1013 : am_i m_L_law 1013 = some (1013, .iload 6, 2, [], 0) := (lk_9 (Nat.le_of_ble_eq_true rfl)).trans rfl
theorem i_L_law_1015 : am_i m_L_law 1015 = some (1015, .ifCond .ne 15, 3, [], 0) := (lk_9 (Nat.le_of_ble_eq_true rfl)).trans rfl
theorem i_L_law_1018 : am_i m_L_law 1018 = some (1018, .aload_n 3, 1, [], 0) := (lk_9 (Nat.le_of_ble_eq_true rfl)).trans rfl
theorem i_L_law_1019 : am_i m_L_law 1019 = some (1019, .iconst 0, 1, [], 0) := (lk_9 (Nat.le_of_ble_eq_true rfl)).trans rfl
theorem i_L_law_1020 : am_i m_L_law 1020 = some (1020, .laload, 1, [], 0) := (lk_9 (Nat.le_of_ble_eq_true rfl)).trans rfl
theorem i_L_law_1021 : am_i m_L_law 1021 = some (1021, .iload 7, 2, [], 0) := (lk_9 (Nat.le_of_ble_eq_true rfl)).trans rfl
theorem i_L_law_1023 : am_i m_L_law 1023 = some (1023, .i2l, 1, [], 0) := (lk_9 (Nat.le_of_ble_eq_true rfl)).trans rfl
theorem i_L_law_1024 : am_i m_L_law 1024 = some (1024, .lcmp, 1, [], 0) := (lk_9 (Nat.le_of_ble_eq_true rfl)).trans rfl
theorem i_L_law_1025 : am_i m_L_law 1025 = some (1025, .ifCond .eq 5, 3, [], 0) := (lk_9 (Nat.le_of_ble_eq_true rfl)).trans rfl
theorem i_L_law_1028 : am_i m_L_law 1028 = some (1028, .iconst 0, 1, [], 0) := (lk_9 (Nat.le_of_ble_eq_true rfl)).trans rfl
theorem i_L_law_1029 : am_i m_L_law 1029 = some (1029, .ireturn, 1, [], 0) := (lk_9 (Nat.le_of_ble_eq_true rfl)).trans rfl
theorem i_L_law_1030 : am_i m_L_law 1030 = some (1030, .goto 1353, 3, [], 0) := (lk_9 (Nat.le_of_ble_eq_true rfl)).trans rfl
theorem b_L_law_1000 {a0 a1 a2 a3 a4 n_a3 : Nat} {x5 x6 xs0 x6' xs0' : Int} {v7 v8 : Value} {h : am_H} (w6 : wr x6 = x6') (ws0 : wr xs0 = xs0') (k1 : K10 h a2) (n2 : gn h a3 = n_a3) (s3 : sh h a3 = (2, 3)) (g4 : ((fZ h a2 0) = x6') → (¬ (¬ x6' = 0)) → ((0 : Int) ≤ 0 ∧ 0 < (n_a3 : Int))) : rn m_L_law 1000 [.ref a0, .ref a1, .ref a2, .ref a3, .ref a4, .int (mI x5), .int (mI x6), v7, v8] [.int (mI xs0)] h = if (fZ h a2 0) = x6' then if ¬ x6' = 0 then rn m_L_law 2383 [.ref a0, .ref a1, .ref a2, .ref a3, .ref a4, .int (mI x5), .int (mI x6), .int (mI xs0), v8] [] h else if (gJ h a3 0) = xs0' then rn m_L_law 2383 [.ref a0, .ref a1, .ref a2, .ref a3, .ref a4, .int (mI x5), .int (mI x6), .int (mI xs0), v8] [] h else some (.inl (some (.int (mI 0))), h) else some (.inl (some (.int (mI 0))), h) := by
  refine (tq_istore (L' := [.ref a0, .ref a1, .ref a2, .ref a3, .ref a4, .int (mI x5), .int (mI x6), .int (mI xs0), v8]) i_L_law_1000 rfl rfl).trans ?_
  refine (tq_aload_n i_L_law_1002 rfl (isA_ref _) rfl).trans ?_
  refine (c_X12_thrown i_L_law_1003 (K10_s k1) (ltd d_L_law (by decide)) stOk_0 rfl).trans ?_
  refine (congrArg (cl _ _ _ _) (b_X12_thrown_0 k1)).trans ?_
  refine (cl_v _ _ _ _ _ _).trans ?_
  refine (tq_iload i_L_law_1006 rfl rfl).trans ?_
  refine (tq_icmp_eq (pt := 1013) i_L_law_1008 (wr_fZ _ _ _) w6 (by decide) rfl).trans ?_
  refine ite_congr rfl (fun c1 => ?_) (fun c1 => ?_)
  · refine (tq_iload i_L_law_1013 rfl rfl).trans ?_
    refine (tq_if_ne (pt := 1030) i_L_law_1015 w6 (by decide) rfl).trans ?_
    refine ite_congr rfl (fun c2 => ?_) (fun c2 => ?_)
    · refine (tq_goto (pc' := 2383) i_L_law_1030 (by decide)).trans ?_
      rfl
    · refine (tq_aload_n i_L_law_1018 rfl (isA_ref _) rfl).trans ?_
      refine (tq_iconst i_L_law_1019 rfl).trans ?_
      refine (tq_laload i_L_law_1020 s3 w_0 (g4 c1 c2).1 (lt_gn n2 (g4 c1 c2).2) rfl).trans ?_
      refine (tq_iload i_L_law_1021 rfl rfl).trans ?_
      refine (tq_i2l i_L_law_1023 ws0 rfl).trans ?_
      refine (tq_lcmp_eq (pt := 1030) i_L_law_1024 i_L_law_1025 rfl (wl_gJ _ _ _) (wl_of_wr ws0) (by decide) rfl).trans ?_
      refine ite_congr rfl (fun c3 => ?_) (fun c3 => ?_)
      · refine (tq_goto (pc' := 2383) i_L_law_1030 (by decide)).trans ?_
        rfl
      · refine (tq_iconst i_L_law_1028 rfl).trans ?_
        exact tq_ireturn i_L_law_1029 r_L_law (okB w_0 (by decide))
  · refine (tq_iconst i_L_law_1011 rfl).trans ?_
    exact tq_ireturn i_L_law_1012 r_L_law (okB w_0 (by decide))
theorem i_L_law_1033 : am_i m_L_law 1033 = some (1033, .aload_n 1, 1, [], 0) := (lk_9 (Nat.le_of_ble_eq_true rfl)).trans rfl
theorem i_L_law_1034 : am_i m_L_law 1034 = some (1034, .invokevirtual 189, 3, [4, 9], 0) := (lk_9 (Nat.le_of_ble_eq_true rfl)).trans rfl
theorem b_L_law_1033 {a0 a1 a2 a3 a4 : Nat} {x5 : Int} {v6 v7 v8 : Value} {h : am_H} (k1 : K9 h a1) : rn m_L_law 1033 [.ref a0, .ref a1, .ref a2, .ref a3, .ref a4, .int (mI x5), v6, v7, v8] [] h = cl m_L_law 1037 [.ref a0, .ref a1, .ref a2, .ref a3, .ref a4, .int (mI x5), v6, v7, v8] [] (rn m_X11_coarseness 0 [.ref a1] [] h) := by
  refine (tq_aload_n i_L_law_1033 rfl (isA_ref _) rfl).trans ?_
  exact c_X11_coarseness i_L_law_1034 (K9_s k1) (ltd d_L_law (by decide)) stOk_0 rfl
theorem i_L_law_1037 : am_i m_L_law 1037 = some (1037, .aload_n 2, 1, [], 0) := (lk_9 (Nat.le_of_ble_eq_true rfl)).trans rfl
theorem i_L_law_1038 : am_i m_L_law 1038 = some (1038, .invokevirtual 192, 3, [23, 10], 0) := (lk_9 (Nat.le_of_ble_eq_true rfl)).trans rfl
theorem b_L_law_1037 {a0 a1 a2 a3 a4 : Nat} {x5 xs0 : Int} {v6 v7 v8 : Value} {h : am_H} (k1 : K10 h a2) : rn m_L_law 1037 [.ref a0, .ref a1, .ref a2, .ref a3, .ref a4, .int (mI x5), v6, v7, v8] [.int (mI xs0)] h = cl m_L_law 1041 [.ref a0, .ref a1, .ref a2, .ref a3, .ref a4, .int (mI x5), v6, v7, v8] [.int (mI xs0)] (rn m_X12_coarseness 0 [.ref a2] [] h) := by
  refine (tq_aload_n i_L_law_1037 rfl (isA_ref _) rfl).trans ?_
  exact c_X12_coarseness i_L_law_1038 (K10_s k1) (ltd d_L_law (by decide)) (stOk_1 _) rfl
theorem i_L_law_1041 : am_i m_L_law 1041 = some (1041, .if_icmp .eq 1342, 3, [], 0) := (lk_9 (Nat.le_of_ble_eq_true rfl)).trans rfl
theorem i_L_law_1044 : am_i m_L_law 1044 = some (1044, .iconst 0, 1, [], 0) := (lk_9 (Nat.le_of_ble_eq_true rfl)).trans rfl
theorem i_L_law_1045 : am_i m_L_law 1045 = some (1045, .ireturn, 1, [], 0) := (lk_9 (Nat.le_of_ble_eq_true rfl)).trans rfl
theorem b_L_law_1041 {a0 a1 a2 a3 a4 : Nat} {x5 xs0 xs1 xs0' xs1' : Int} {v6 v7 v8 : Value} {h : am_H} (ws0 : wr xs0 = xs0') (ws1 : wr xs1 = xs1') : rn m_L_law 1041 [.ref a0, .ref a1, .ref a2, .ref a3, .ref a4, .int (mI x5), v6, v7, v8] [.int (mI xs0), .int (mI xs1)] h = if xs1' = xs0' then rn m_L_law 2383 [.ref a0, .ref a1, .ref a2, .ref a3, .ref a4, .int (mI x5), v6, v7, v8] [] h else some (.inl (some (.int (mI 0))), h) := by
  refine (tq_icmp_eq (pt := 2383) i_L_law_1041 ws1 ws0 (by decide) rfl).trans ?_
  refine ite_congr rfl (fun c1 => ?_) (fun c1 => ?_)
  · rfl
  · refine (tq_iconst i_L_law_1044 rfl).trans ?_
    exact tq_ireturn i_L_law_1045 r_L_law (okB w_0 (by decide))
theorem i_L_law_1046 : am_i m_L_law 1046 = some (1046, .aload_n 1, 1, [], 0) := (lk_9 (Nat.le_of_ble_eq_true rfl)).trans rfl
theorem i_L_law_1047 : am_i m_L_law 1047 = some (1047, .aload_n 3, 1, [], 0) := (lk_9 (Nat.le_of_ble_eq_true rfl)).trans rfl
theorem i_L_law_1048 : am_i m_L_law 1048 = some (1048, .invokestatic 193, 3, [205], 0) := (lk_9 (Nat.le_of_ble_eq_true rfl)).trans rfl
theorem b_L_law_1046 {a0 a1 a2 a3 a4 : Nat} {x5 : Int} {v6 v7 v8 : Value} {h : am_H} : rn m_L_law 1046 [.ref a0, .ref a1, .ref a2, .ref a3, .ref a4, .int (mI x5), v6, v7, v8] [] h = cl m_L_law 1051 [.ref a0, .ref a1, .ref a2, .ref a3, .ref a4, .int (mI x5), v6, v7, v8] [] (rn m_L_bucket 0 [.ref a1, .ref a3, am_J] [] h) := by
  refine (tq_aload_n i_L_law_1046 rfl (isA_ref _) rfl).trans ?_
  refine (tq_aload_n i_L_law_1047 rfl (isA_ref _) rfl).trans ?_
  exact c_L_bucket i_L_law_1048 (ltd d_L_law (by decide)) (isA_ref _) (isA_ref _) stOk_0 rfl
theorem i_L_law_1051 : am_i m_L_law 1051 = some (1051, .istore 6, 2, [], 0) := (lk_9 (Nat.le_of_ble_eq_true rfl)).trans rfl
theorem i_L_law_1053 : am_i m_L_law 1053 = some (1053, .aload_n 2, 1, [], 0) := (lk_9 (Nat.le_of_ble_eq_true rfl)).trans rfl
theorem i_L_law_1054 : am_i m_L_law 1054 = some (1054, .invokevirtual 196, 3, [21, 10], 0) := (lk_9 (Nat.le_of_ble_eq_true rfl)).trans rfl
theorem b_L_law_1051 {a0 a1 a2 a3 a4 : Nat} {x5 xs0 : Int} {v6 v7 v8 : Value} {h : am_H} (k1 : K10 h a2) : rn m_L_law 1051 [.ref a0, .ref a1, .ref a2, .ref a3, .ref a4, .int (mI x5), v6, v7, v8] [.int (mI xs0)] h = cl m_L_law 1057 [.ref a0, .ref a1, .ref a2, .ref a3, .ref a4, .int (mI x5), .int (mI xs0), v7, v8] [] (rn m_X12_bucket 0 [.ref a2] [] h) := by
  refine (tq_istore (L' := [.ref a0, .ref a1, .ref a2, .ref a3, .ref a4, .int (mI x5), .int (mI xs0), v7, v8]) i_L_law_1051 rfl rfl).trans ?_
  refine (tq_aload_n i_L_law_1053 rfl (isA_ref _) rfl).trans ?_
  exact c_X12_bucket i_L_law_1054 (K10_s k1) (ltd d_L_law (by decide)) stOk_0 rfl
theorem i_L_law_1057 : am_i m_L_law 1057 = some (1057, .istore 7, 2, [], 0) := (lk_9 (Nat.le_of_ble_eq_true rfl)).trans rfl
theorem i_L_law_1059 : am_i m_L_law 1059 = some (1059, .aload_n 2, 1, [], 0) := (lk_9 (Nat.le_of_ble_eq_true rfl)).trans rfl
theorem i_L_law_1060 : am_i m_L_law 1060 = some (1060, .invokevirtual 139, 3, [39, 10], 0) := (lk_9 (Nat.le_of_ble_eq_true rfl)).trans rfl
theorem i_L_law_1063 : am_i m_L_law 1063 = some (1063, .iload 6, 2, [], 0) := (lk_9 (Nat.le_of_ble_eq_true rfl)).trans rfl
theorem i_L_law_1065 : am_i m_L_law 1065 = some (1065, .if_icmp .eq 5, 3, [], 0) := (lk_9 (Nat.le_of_ble_eq_true rfl)).trans rfl
theorem i_L_law_1068 : am_i m_L_law 1068 = some (1068, .iconst 0, 1, [], 0) := (lk_9 (Nat.le_of_ble_eq_true rfl)).trans rfl
theorem i_L_law_1069 : am_i m_L_law 1069 = some (1069, .ireturn, 1, [], 0) := (lk_9 (Nat.le_of_ble_eq_true rfl)).trans rfl
theorem i_L_law_1070 : am_i m_L_law 1070 = some (1070, .iload 6, 2, [], 0) := (lk_9 (Nat.le_of_ble_eq_true rfl)).trans rfl
theorem i_L_law_1072 : am_i m_L_law 1072 = some (1072, .ifCond .ne 15, 3, [], 0) := (lk_9 (Nat.le_of_ble_eq_true rfl)).trans rfl
theorem i_L_law_1075 : am_i m_L_law 1075 = some (1075, .aload_n 3, 1, [], 0) := (lk_9 (Nat.le_of_ble_eq_true rfl)).trans rfl
theorem i_L_law_1076 : am_i m_L_law 1076 = some (1076, .iconst 0, 1, [], 0) := (lk_9 (Nat.le_of_ble_eq_true rfl)).trans rfl
theorem i_L_law_1077 : am_i m_L_law 1077 = some (1077, .laload, 1, [], 0) := (lk_9 (Nat.le_of_ble_eq_true rfl)).trans rfl
theorem i_L_law_1078 : am_i m_L_law 1078 = some (1078, .iload 7, 2, [], 0) := (lk_9 (Nat.le_of_ble_eq_true rfl)).trans rfl
theorem i_L_law_1080 : am_i m_L_law 1080 = some (1080, .i2l, 1, [], 0) := (lk_10 (Nat.le_of_ble_eq_true rfl)).trans rfl
theorem i_L_law_1081 : am_i m_L_law 1081 = some (1081, .lcmp, 1, [], 0) := (lk_10 (Nat.le_of_ble_eq_true rfl)).trans rfl
theorem i_L_law_1082 : am_i m_L_law 1082 = some (1082, .ifCond .eq 5, 3, [], 0) := (lk_10 (Nat.le_of_ble_eq_true rfl)).trans rfl
theorem i_L_law_1085 : am_i m_L_law 1085 = some (1085, .iconst 0, 1, [], 0) := (lk_10 (Nat.le_of_ble_eq_true rfl)).trans rfl
theorem i_L_law_1086 : am_i m_L_law 1086 = some (1086, .ireturn, 1, [], 0) := (lk_10 (Nat.le_of_ble_eq_true rfl)).trans rfl
theorem i_L_law_1087 : am_i m_L_law 1087 = some (1087, .goto 1296, 3, [], 0) := (lk_10 (Nat.le_of_ble_eq_true rfl)).trans rfl
theorem b_L_law_1057 {a0 a1 a2 a3 a4 n_a3 : Nat} {x5 x6 xs0 x6' xs0' : Int} {v7 v8 : Value} {h : am_H} (w6 : wr x6 = x6') (ws0 : wr xs0 = xs0') (k1 : K10 h a2) (n2 : gn h a3 = n_a3) (s3 : sh h a3 = (2, 3)) (g4 : ((fZ h a2 0) = x6') → (¬ (¬ x6' = 0)) → ((0 : Int) ≤ 0 ∧ 0 < (n_a3 : Int))) : rn m_L_law 1057 [.ref a0, .ref a1, .ref a2, .ref a3, .ref a4, .int (mI x5), .int (mI x6), v7, v8] [.int (mI xs0)] h = if (fZ h a2 0) = x6' then if ¬ x6' = 0 then rn m_L_law 2383 [.ref a0, .ref a1, .ref a2, .ref a3, .ref a4, .int (mI x5), .int (mI x6), .int (mI xs0), v8] [] h else if (gJ h a3 0) = xs0' then rn m_L_law 2383 [.ref a0, .ref a1, .ref a2, .ref a3, .ref a4, .int (mI x5), .int (mI x6), .int (mI xs0), v8] [] h else some (.inl (some (.int (mI 0))), h) else some (.inl (some (.int (mI 0))), h) := by
  refine (tq_istore (L' := [.ref a0, .ref a1, .ref a2, .ref a3, .ref a4, .int (mI x5), .int (mI x6), .int (mI xs0), v8]) i_L_law_1057 rfl rfl).trans ?_
  refine (tq_aload_n i_L_law_1059 rfl (isA_ref _) rfl).trans ?_
  refine (c_X12_thrown i_L_law_1060 (K10_s k1) (ltd d_L_law (by decide)) stOk_0 rfl).trans ?_
  refine (congrArg (cl _ _ _ _) (b_X12_thrown_0 k1)).trans ?_
  refine (cl_v _ _ _ _ _ _).trans ?_
  refine (tq_iload i_L_law_1063 rfl rfl).trans ?_
  refine (tq_icmp_eq (pt := 1070) i_L_law_1065 (wr_fZ _ _ _) w6 (by decide) rfl).trans ?_
  refine ite_congr rfl (fun c1 => ?_) (fun c1 => ?_)
  · refine (tq_iload i_L_law_1070 rfl rfl).trans ?_
    refine (tq_if_ne (pt := 1087) i_L_law_1072 w6 (by decide) rfl).trans ?_
    refine ite_congr rfl (fun c2 => ?_) (fun c2 => ?_)
    · refine (tq_goto (pc' := 2383) i_L_law_1087 (by decide)).trans ?_
      rfl
    · refine (tq_aload_n i_L_law_1075 rfl (isA_ref _) rfl).trans ?_
      refine (tq_iconst i_L_law_1076 rfl).trans ?_
      refine (tq_laload i_L_law_1077 s3 w_0 (g4 c1 c2).1 (lt_gn n2 (g4 c1 c2).2) rfl).trans ?_
      refine (tq_iload i_L_law_1078 rfl rfl).trans ?_
      refine (tq_i2l i_L_law_1080 ws0 rfl).trans ?_
      refine (tq_lcmp_eq (pt := 1087) i_L_law_1081 i_L_law_1082 rfl (wl_gJ _ _ _) (wl_of_wr ws0) (by decide) rfl).trans ?_
      refine ite_congr rfl (fun c3 => ?_) (fun c3 => ?_)
      · refine (tq_goto (pc' := 2383) i_L_law_1087 (by decide)).trans ?_
        rfl
      · refine (tq_iconst i_L_law_1085 rfl).trans ?_
        exact tq_ireturn i_L_law_1086 r_L_law (okB w_0 (by decide))
  · refine (tq_iconst i_L_law_1068 rfl).trans ?_
    exact tq_ireturn i_L_law_1069 r_L_law (okB w_0 (by decide))
theorem i_L_law_1090 : am_i m_L_law 1090 = some (1090, .aload_n 1, 1, [], 0) := (lk_10 (Nat.le_of_ble_eq_true rfl)).trans rfl
theorem i_L_law_1091 : am_i m_L_law 1091 = some (1091, .aload_n 0, 1, [], 0) := (lk_10 (Nat.le_of_ble_eq_true rfl)).trans rfl
theorem i_L_law_1092 : am_i m_L_law 1092 = some (1092, .iload 5, 2, [], 0) := (lk_10 (Nat.le_of_ble_eq_true rfl)).trans rfl
theorem i_L_law_1094 : am_i m_L_law 1094 = some (1094, .iconst 1, 1, [], 1) := (lk_10 (Nat.le_of_ble_eq_true rfl)).trans rfl
theorem i_L_law_1095 : am_i m_L_law 1095 = some (1095, .iadd, 1, [], 0) := (lk_10 (Nat.le_of_ble_eq_true rfl)).trans rfl
theorem i_L_law_1096 : am_i m_L_law 1096 = some (1096, .iaload, 1, [], 0) := (lk_10 (Nat.le_of_ble_eq_true rfl)).trans rfl
theorem i_L_law_1097 : am_i m_L_law 1097 = some (1097, .aload_n 3, 1, [], 0) := (lk_10 (Nat.le_of_ble_eq_true rfl)).trans rfl
theorem i_L_law_1098 : am_i m_L_law 1098 = some (1098, .invokestatic 197, 3, [244], 0) := (lk_10 (Nat.le_of_ble_eq_true rfl)).trans rfl
theorem b_L_law_1090 {a0 a1 a2 a3 a4 n_a0 : Nat} {x5 : Int} {v6 v7 v8 : Value} {h : am_H} (n1 : gn h a0 = n_a0) (s2 : sh h a0 = (1, 7)) (g3 : 0 ≤ wr (x5 + 1) ∧ wr (x5 + 1) < (n_a0 : Int)) : rn m_L_law 1090 [.ref a0, .ref a1, .ref a2, .ref a3, .ref a4, .int (mI x5), v6, v7, v8] [] h = cl m_L_law 1101 [.ref a0, .ref a1, .ref a2, .ref a3, .ref a4, .int (mI x5), v6, v7, v8] [] (rn m_L_kindOf 0 [.ref a1, .int (mI (gZ h a0 (wr (x5 + 1)))), .ref a3, am_J] [] h) := by
  refine (tq_aload_n i_L_law_1090 rfl (isA_ref _) rfl).trans ?_
  refine (tq_aload_n i_L_law_1091 rfl (isA_ref _) rfl).trans ?_
  refine (tq_iload i_L_law_1092 rfl rfl).trans ?_
  refine (tq_iconst i_L_law_1094 rfl).trans ?_
  refine (tq_iadd i_L_law_1095 rfl).trans ?_
  refine (tq_iaload i_L_law_1096 s2 (by decide) rfl g3.1 (lt_gn n1 g3.2) rfl).trans ?_
  refine (tq_aload_n i_L_law_1097 rfl (isA_ref _) rfl).trans ?_
  exact c_L_kindOf i_L_law_1098 (ltd d_L_law (by decide)) (isA_ref _) (isA_ref _) stOk_0 rfl
theorem i_L_law_1101 : am_i m_L_law 1101 = some (1101, .istore 6, 2, [], 0) := (lk_10 (Nat.le_of_ble_eq_true rfl)).trans rfl
theorem i_L_law_1103 : am_i m_L_law 1103 = some (1103, .aload_n 2, 1, [], 0) := (lk_10 (Nat.le_of_ble_eq_true rfl)).trans rfl
theorem i_L_law_1104 : am_i m_L_law 1104 = some (1104, .aload_n 0, 1, [], 0) := (lk_10 (Nat.le_of_ble_eq_true rfl)).trans rfl
theorem i_L_law_1105 : am_i m_L_law 1105 = some (1105, .iload 5, 2, [], 0) := (lk_10 (Nat.le_of_ble_eq_true rfl)).trans rfl
theorem i_L_law_1107 : am_i m_L_law 1107 = some (1107, .iconst 1, 1, [], 1) := (lk_10 (Nat.le_of_ble_eq_true rfl)).trans rfl
theorem i_L_law_1108 : am_i m_L_law 1108 = some (1108, .iadd, 1, [], 0) := (lk_10 (Nat.le_of_ble_eq_true rfl)).trans rfl
theorem i_L_law_1109 : am_i m_L_law 1109 = some (1109, .iaload, 1, [], 0) := (lk_10 (Nat.le_of_ble_eq_true rfl)).trans rfl
theorem i_L_law_1110 : am_i m_L_law 1110 = some (1110, .invokevirtual 199, 3, [135, 10], 0) := (lk_10 (Nat.le_of_ble_eq_true rfl)).trans rfl
theorem b_L_law_1101 {a0 a1 a2 a3 a4 n_a0 : Nat} {x5 xs0 : Int} {v6 v7 v8 : Value} {h : am_H} (n1 : gn h a0 = n_a0) (s2 : sh h a0 = (1, 7)) (g3 : 0 ≤ wr (x5 + 1) ∧ wr (x5 + 1) < (n_a0 : Int)) (k4 : K10 h a2) : rn m_L_law 1101 [.ref a0, .ref a1, .ref a2, .ref a3, .ref a4, .int (mI x5), v6, v7, v8] [.int (mI xs0)] h = cl m_L_law 1113 [.ref a0, .ref a1, .ref a2, .ref a3, .ref a4, .int (mI x5), .int (mI xs0), v7, v8] [] (rn m_X12_kindOf 0 [.ref a2, .int (mI (gZ h a0 (wr (x5 + 1))))] [] h) := by
  refine (tq_istore (L' := [.ref a0, .ref a1, .ref a2, .ref a3, .ref a4, .int (mI x5), .int (mI xs0), v7, v8]) i_L_law_1101 rfl rfl).trans ?_
  refine (tq_aload_n i_L_law_1103 rfl (isA_ref _) rfl).trans ?_
  refine (tq_aload_n i_L_law_1104 rfl (isA_ref _) rfl).trans ?_
  refine (tq_iload i_L_law_1105 rfl rfl).trans ?_
  refine (tq_iconst i_L_law_1107 rfl).trans ?_
  refine (tq_iadd i_L_law_1108 rfl).trans ?_
  refine (tq_iaload i_L_law_1109 s2 (by decide) rfl g3.1 (lt_gn n1 g3.2) rfl).trans ?_
  exact c_X12_kindOf i_L_law_1110 (K10_s k4) (ltd d_L_law (by decide)) stOk_0 rfl
theorem i_L_law_1113 : am_i m_L_law 1113 = some (1113, .istore 7, 2, [], 0) := (lk_10 (Nat.le_of_ble_eq_true rfl)).trans rfl
theorem i_L_law_1115 : am_i m_L_law 1115 = some (1115, .aload_n 2, 1, [], 0) := (lk_10 (Nat.le_of_ble_eq_true rfl)).trans rfl
theorem i_L_law_1116 : am_i m_L_law 1116 = some (1116, .invokevirtual 139, 3, [39, 10], 0) := (lk_10 (Nat.le_of_ble_eq_true rfl)).trans rfl
theorem i_L_law_1119 : am_i m_L_law 1119 = some (1119, .iload 6, 2, [], 0) := (lk_10 (Nat.le_of_ble_eq_true rfl)).trans rfl
theorem i_L_law_1121 : am_i m_L_law 1121 = some (1121, .if_icmp .eq 5, 3, [], 0) := (lk_10 (Nat.le_of_ble_eq_true rfl)).trans rfl
theorem i_L_law_1124 : am_i m_L_law 1124 = some (1124, .iconst 0, 1, [], 0) := (lk_10 (Nat.le_of_ble_eq_true rfl)).trans rfl
theorem i_L_law_1125 : am_i m_L_law 1125 = some (1125, .ireturn, 1, [], 0) := (lk_10 (Nat.le_of_ble_eq_true rfl)).trans rfl
theorem i_L_law_1126 : am_i m_L_law 1126 = some (1126, .iload 6, 2, [], 0) := (lk_10 (Nat.le_of_ble_eq_true rfl)).trans rfl
theorem i_L_law_1128 : am_i m_L_law 1128 = some (1128, .ifCond .ne 15, 3, [], 0) := (lk_10 (Nat.le_of_ble_eq_true rfl)).trans rfl
theorem i_L_law_1131 : am_i m_L_law 1131 = some (1131, .aload_n 3, 1, [], 0) := (lk_10 (Nat.le_of_ble_eq_true rfl)).trans rfl
theorem i_L_law_1132 : am_i m_L_law 1132 = some (1132, .iconst 0, 1, [], 0) := (lk_10 (Nat.le_of_ble_eq_true rfl)).trans rfl
theorem i_L_law_1133 : am_i m_L_law 1133 = some (1133, .laload, 1, [], 0) := (lk_10 (Nat.le_of_ble_eq_true rfl)).trans rfl
theorem i_L_law_1134 : am_i m_L_law 1134 = some (1134, .iload 7, 2, [], 0) := (lk_10 (Nat.le_of_ble_eq_true rfl)).trans rfl
theorem i_L_law_1136 : am_i m_L_law 1136 = some (1136, .i2l, 1, [], 0) := (lk_10 (Nat.le_of_ble_eq_true rfl)).trans rfl
theorem i_L_law_1137 : am_i m_L_law 1137 = some (1137, .lcmp, 1, [], 0) := (lk_10 (Nat.le_of_ble_eq_true rfl)).trans rfl
theorem i_L_law_1138 : am_i m_L_law 1138 = some (1138, .ifCond .eq 5, 3, [], 0) := (lk_10 (Nat.le_of_ble_eq_true rfl)).trans rfl
theorem i_L_law_1141 : am_i m_L_law 1141 = some (1141, .iconst 0, 1, [], 0) := (lk_10 (Nat.le_of_ble_eq_true rfl)).trans rfl
theorem i_L_law_1142 : am_i m_L_law 1142 = some (1142, .ireturn, 1, [], 0) := (lk_10 (Nat.le_of_ble_eq_true rfl)).trans rfl
theorem i_L_law_1143 : am_i m_L_law 1143 = some (1143, .goto 1240, 3, [], 0) := (lk_10 (Nat.le_of_ble_eq_true rfl)).trans rfl
theorem b_L_law_1113 {a0 a1 a2 a3 a4 n_a3 : Nat} {x5 x6 xs0 x6' xs0' : Int} {v7 v8 : Value} {h : am_H} (w6 : wr x6 = x6') (ws0 : wr xs0 = xs0') (k1 : K10 h a2) (n2 : gn h a3 = n_a3) (s3 : sh h a3 = (2, 3)) (g4 : ((fZ h a2 0) = x6') → (¬ (¬ x6' = 0)) → ((0 : Int) ≤ 0 ∧ 0 < (n_a3 : Int))) : rn m_L_law 1113 [.ref a0, .ref a1, .ref a2, .ref a3, .ref a4, .int (mI x5), .int (mI x6), v7, v8] [.int (mI xs0)] h = if (fZ h a2 0) = x6' then if ¬ x6' = 0 then rn m_L_law 2383 [.ref a0, .ref a1, .ref a2, .ref a3, .ref a4, .int (mI x5), .int (mI x6), .int (mI xs0), v8] [] h else if (gJ h a3 0) = xs0' then rn m_L_law 2383 [.ref a0, .ref a1, .ref a2, .ref a3, .ref a4, .int (mI x5), .int (mI x6), .int (mI xs0), v8] [] h else some (.inl (some (.int (mI 0))), h) else some (.inl (some (.int (mI 0))), h) := by
  refine (tq_istore (L' := [.ref a0, .ref a1, .ref a2, .ref a3, .ref a4, .int (mI x5), .int (mI x6), .int (mI xs0), v8]) i_L_law_1113 rfl rfl).trans ?_
  refine (tq_aload_n i_L_law_1115 rfl (isA_ref _) rfl).trans ?_
  refine (c_X12_thrown i_L_law_1116 (K10_s k1) (ltd d_L_law (by decide)) stOk_0 rfl).trans ?_
  refine (congrArg (cl _ _ _ _) (b_X12_thrown_0 k1)).trans ?_
  refine (cl_v _ _ _ _ _ _).trans ?_
  refine (tq_iload i_L_law_1119 rfl rfl).trans ?_
  refine (tq_icmp_eq (pt := 1126) i_L_law_1121 (wr_fZ _ _ _) w6 (by decide) rfl).trans ?_
  refine ite_congr rfl (fun c1 => ?_) (fun c1 => ?_)
  · refine (tq_iload i_L_law_1126 rfl rfl).trans ?_
    refine (tq_if_ne (pt := 1143) i_L_law_1128 w6 (by decide) rfl).trans ?_
    refine ite_congr rfl (fun c2 => ?_) (fun c2 => ?_)
    · refine (tq_goto (pc' := 2383) i_L_law_1143 (by decide)).trans ?_
      rfl
    · refine (tq_aload_n i_L_law_1131 rfl (isA_ref _) rfl).trans ?_
      refine (tq_iconst i_L_law_1132 rfl).trans ?_
      refine (tq_laload i_L_law_1133 s3 w_0 (g4 c1 c2).1 (lt_gn n2 (g4 c1 c2).2) rfl).trans ?_
      refine (tq_iload i_L_law_1134 rfl rfl).trans ?_
      refine (tq_i2l i_L_law_1136 ws0 rfl).trans ?_
      refine (tq_lcmp_eq (pt := 1143) i_L_law_1137 i_L_law_1138 rfl (wl_gJ _ _ _) (wl_of_wr ws0) (by decide) rfl).trans ?_
      refine ite_congr rfl (fun c3 => ?_) (fun c3 => ?_)
      · refine (tq_goto (pc' := 2383) i_L_law_1143 (by decide)).trans ?_
        rfl
      · refine (tq_iconst i_L_law_1141 rfl).trans ?_
        exact tq_ireturn i_L_law_1142 r_L_law (okB w_0 (by decide))
  · refine (tq_iconst i_L_law_1124 rfl).trans ?_
    exact tq_ireturn i_L_law_1125 r_L_law (okB w_0 (by decide))
theorem i_L_law_1146 : am_i m_L_law 1146 = some (1146, .aload_n 1, 1, [], 0) := (lk_10 (Nat.le_of_ble_eq_true rfl)).trans rfl
theorem i_L_law_1147 : am_i m_L_law 1147 = some (1147, .aload_n 0, 1, [], 0) := (lk_10 (Nat.le_of_ble_eq_true rfl)).trans rfl
theorem i_L_law_1148 : am_i m_L_law 1148 = some (1148, .iload 5, 2, [], 0) := (lk_10 (Nat.le_of_ble_eq_true rfl)).trans rfl
theorem i_L_law_1150 : am_i m_L_law 1150 = some (1150, .iconst 1, 1, [], 1) := (lk_10 (Nat.le_of_ble_eq_true rfl)).trans rfl
theorem i_L_law_1151 : am_i m_L_law 1151 = some (1151, .iadd, 1, [], 0) := (lk_10 (Nat.le_of_ble_eq_true rfl)).trans rfl
theorem i_L_law_1152 : am_i m_L_law 1152 = some (1152, .iaload, 1, [], 0) := (lk_10 (Nat.le_of_ble_eq_true rfl)).trans rfl
theorem i_L_law_1153 : am_i m_L_law 1153 = some (1153, .aload_n 3, 1, [], 0) := (lk_10 (Nat.le_of_ble_eq_true rfl)).trans rfl
theorem i_L_law_1154 : am_i m_L_law 1154 = some (1154, .invokestatic 200, 3, [239], 0) := (lk_10 (Nat.le_of_ble_eq_true rfl)).trans rfl
theorem b_L_law_1146 {a0 a1 a2 a3 a4 n_a0 : Nat} {x5 : Int} {v6 v7 v8 : Value} {h : am_H} (n1 : gn h a0 = n_a0) (s2 : sh h a0 = (1, 7)) (g3 : 0 ≤ wr (x5 + 1) ∧ wr (x5 + 1) < (n_a0 : Int)) : rn m_L_law 1146 [.ref a0, .ref a1, .ref a2, .ref a3, .ref a4, .int (mI x5), v6, v7, v8] [] h = cl m_L_law 1157 [.ref a0, .ref a1, .ref a2, .ref a3, .ref a4, .int (mI x5), v6, v7, v8] [] (rn m_L_coarsenessOf 0 [.ref a1, .int (mI (gZ h a0 (wr (x5 + 1)))), .ref a3, am_J] [] h) := by
  refine (tq_aload_n i_L_law_1146 rfl (isA_ref _) rfl).trans ?_
  refine (tq_aload_n i_L_law_1147 rfl (isA_ref _) rfl).trans ?_
  refine (tq_iload i_L_law_1148 rfl rfl).trans ?_
  refine (tq_iconst i_L_law_1150 rfl).trans ?_
  refine (tq_iadd i_L_law_1151 rfl).trans ?_
  refine (tq_iaload i_L_law_1152 s2 (by decide) rfl g3.1 (lt_gn n1 g3.2) rfl).trans ?_
  refine (tq_aload_n i_L_law_1153 rfl (isA_ref _) rfl).trans ?_
  exact c_L_coarsenessOf i_L_law_1154 (ltd d_L_law (by decide)) (isA_ref _) (isA_ref _) stOk_0 rfl
theorem i_L_law_1157 : am_i m_L_law 1157 = some (1157, .istore 6, 2, [], 0) := (lk_10 (Nat.le_of_ble_eq_true rfl)).trans rfl
theorem i_L_law_1159 : am_i m_L_law 1159 = some (1159, .aload_n 2, 1, [], 0) := (lk_10 (Nat.le_of_ble_eq_true rfl)).trans rfl
theorem i_L_law_1160 : am_i m_L_law 1160 = some (1160, .aload_n 0, 1, [], 0) := (lk_10 (Nat.le_of_ble_eq_true rfl)).trans rfl
theorem i_L_law_1161 : am_i m_L_law 1161 = some (1161, .iload 5, 2, [], 0) := (lk_10 (Nat.le_of_ble_eq_true rfl)).trans rfl
theorem i_L_law_1163 : am_i m_L_law 1163 = some (1163, .iconst 1, 1, [], 1) := (lk_10 (Nat.le_of_ble_eq_true rfl)).trans rfl
theorem i_L_law_1164 : am_i m_L_law 1164 = some (1164, .iadd, 1, [], 0) := (lk_10 (Nat.le_of_ble_eq_true rfl)).trans rfl
theorem i_L_law_1165 : am_i m_L_law 1165 = some (1165, .iaload, 1, [], 0) := (lk_10 (Nat.le_of_ble_eq_true rfl)).trans rfl
theorem i_L_law_1166 : am_i m_L_law 1166 = some (1166, .invokevirtual 202, 3, [130, 10], 0) := (lk_10 (Nat.le_of_ble_eq_true rfl)).trans rfl
theorem b_L_law_1157 {a0 a1 a2 a3 a4 n_a0 : Nat} {x5 xs0 : Int} {v6 v7 v8 : Value} {h : am_H} (n1 : gn h a0 = n_a0) (s2 : sh h a0 = (1, 7)) (g3 : 0 ≤ wr (x5 + 1) ∧ wr (x5 + 1) < (n_a0 : Int)) (k4 : K10 h a2) : rn m_L_law 1157 [.ref a0, .ref a1, .ref a2, .ref a3, .ref a4, .int (mI x5), v6, v7, v8] [.int (mI xs0)] h = cl m_L_law 1169 [.ref a0, .ref a1, .ref a2, .ref a3, .ref a4, .int (mI x5), .int (mI xs0), v7, v8] [] (rn m_X12_coarsenessOf 0 [.ref a2, .int (mI (gZ h a0 (wr (x5 + 1))))] [] h) := by
  refine (tq_istore (L' := [.ref a0, .ref a1, .ref a2, .ref a3, .ref a4, .int (mI x5), .int (mI xs0), v7, v8]) i_L_law_1157 rfl rfl).trans ?_
  refine (tq_aload_n i_L_law_1159 rfl (isA_ref _) rfl).trans ?_
  refine (tq_aload_n i_L_law_1160 rfl (isA_ref _) rfl).trans ?_
  refine (tq_iload i_L_law_1161 rfl rfl).trans ?_
  refine (tq_iconst i_L_law_1163 rfl).trans ?_
  refine (tq_iadd i_L_law_1164 rfl).trans ?_
  refine (tq_iaload i_L_law_1165 s2 (by decide) rfl g3.1 (lt_gn n1 g3.2) rfl).trans ?_
  exact c_X12_coarsenessOf i_L_law_1166 (K10_s k4) (ltd d_L_law (by decide)) stOk_0 rfl
theorem i_L_law_1169 : am_i m_L_law 1169 = some (1169, .istore 7, 2, [], 0) := (lk_10 (Nat.le_of_ble_eq_true rfl)).trans rfl
theorem i_L_law_1171 : am_i m_L_law 1171 = some (1171, .aload_n 2, 1, [], 0) := (lk_10 (Nat.le_of_ble_eq_true rfl)).trans rfl
theorem i_L_law_1172 : am_i m_L_law 1172 = some (1172, .invokevirtual 139, 3, [39, 10], 0) := (lk_10 (Nat.le_of_ble_eq_true rfl)).trans rfl
theorem i_L_law_1175 : am_i m_L_law 1175 = some (1175, .iload 6, 2, [], 0) := (lk_11 (Nat.le_of_ble_eq_true rfl)).trans rfl
theorem i_L_law_1177 : am_i m_L_law 1177 = some (1177, .if_icmp .eq 5, 3, [], 0) := (lk_11 (Nat.le_of_ble_eq_true rfl)).trans rfl
theorem i_L_law_1180 : am_i m_L_law 1180 = some (1180, .iconst 0, 1, [], 0) := (lk_11 (Nat.le_of_ble_eq_true rfl)).trans rfl
theorem i_L_law_1181 : am_i m_L_law 1181 = some (1181, .ireturn, 1, [], 0) := (lk_11 (Nat.le_of_ble_eq_true rfl)).trans rfl
theorem i_L_law_1182 : am_i m_L_law 1182 = some (1182, .iload 6, 2, [], 0) := (lk_11 (Nat.le_of_ble_eq_true rfl)).trans rfl
theorem i_L_law_1184 : am_i m_L_law 1184 = some (1184, .ifCond .ne 15, 3, [], 0) := (lk_11 (Nat.le_of_ble_eq_true rfl)).trans rfl
theorem i_L_law_1187 : am_i m_L_law 1187 = some (1187, .aload_n 3, 1, [], 0) := (lk_11 (Nat.le_of_ble_eq_true rfl)).trans rfl
theorem i_L_law_1188 : am_i m_L_law 1188 = some (1188, .iconst 0, 1, [], 0) := (lk_11 (Nat.le_of_ble_eq_true rfl)).trans rfl
theorem i_L_law_1189 : am_i m_L_law 1189 = some (1189, .laload, 1, [], 0) := (lk_11 (Nat.le_of_ble_eq_true rfl)).trans rfl
theorem i_L_law_1190 : am_i m_L_law 1190 = some (1190, .iload 7, 2, [], 0) := (lk_11 (Nat.le_of_ble_eq_true rfl)).trans rfl
theorem i_L_law_1192 : am_i m_L_law 1192 = some (1192, .i2l, 1, [], 0) := (lk_11 (Nat.le_of_ble_eq_true rfl)).trans rfl
theorem i_L_law_1193 : am_i m_L_law 1193 = some (1193, .lcmp, 1, [], 0) := (lk_11 (Nat.le_of_ble_eq_true rfl)).trans rfl
theorem i_L_law_1194 : am_i m_L_law 1194 = some (1194, .ifCond .eq 5, 3, [], 0) := (lk_11 (Nat.le_of_ble_eq_true rfl)).trans rfl
theorem i_L_law_1197 : am_i m_L_law 1197 = some (1197, .iconst 0, 1, [], 0) := (lk_11 (Nat.le_of_ble_eq_true rfl)).trans rfl
theorem i_L_law_1198 : am_i m_L_law 1198 = some (1198, .ireturn, 1, [], 0) := (lk_11 (Nat.le_of_ble_eq_true rfl)).trans rfl
theorem i_L_law_1199 : am_i m_L_law 1199 = some (1199, .goto 1184, 3, [], 0) := (lk_11 (Nat.le_of_ble_eq_true rfl)).trans rfl
theorem b_L_law_1169 {a0 a1 a2 a3 a4 n_a3 : Nat} {x5 x6 xs0 x6' xs0' : Int} {v7 v8 : Value} {h : am_H} (w6 : wr x6 = x6') (ws0 : wr xs0 = xs0') (k1 : K10 h a2) (n2 : gn h a3 = n_a3) (s3 : sh h a3 = (2, 3)) (g4 : ((fZ h a2 0) = x6') → (¬ (¬ x6' = 0)) → ((0 : Int) ≤ 0 ∧ 0 < (n_a3 : Int))) : rn m_L_law 1169 [.ref a0, .ref a1, .ref a2, .ref a3, .ref a4, .int (mI x5), .int (mI x6), v7, v8] [.int (mI xs0)] h = if (fZ h a2 0) = x6' then if ¬ x6' = 0 then rn m_L_law 2383 [.ref a0, .ref a1, .ref a2, .ref a3, .ref a4, .int (mI x5), .int (mI x6), .int (mI xs0), v8] [] h else if (gJ h a3 0) = xs0' then rn m_L_law 2383 [.ref a0, .ref a1, .ref a2, .ref a3, .ref a4, .int (mI x5), .int (mI x6), .int (mI xs0), v8] [] h else some (.inl (some (.int (mI 0))), h) else some (.inl (some (.int (mI 0))), h) := by
  refine (tq_istore (L' := [.ref a0, .ref a1, .ref a2, .ref a3, .ref a4, .int (mI x5), .int (mI x6), .int (mI xs0), v8]) i_L_law_1169 rfl rfl).trans ?_
  refine (tq_aload_n i_L_law_1171 rfl (isA_ref _) rfl).trans ?_
  refine (c_X12_thrown i_L_law_1172 (K10_s k1) (ltd d_L_law (by decide)) stOk_0 rfl).trans ?_
  refine (congrArg (cl _ _ _ _) (b_X12_thrown_0 k1)).trans ?_
  refine (cl_v _ _ _ _ _ _).trans ?_
  refine (tq_iload i_L_law_1175 rfl rfl).trans ?_
  refine (tq_icmp_eq (pt := 1182) i_L_law_1177 (wr_fZ _ _ _) w6 (by decide) rfl).trans ?_
  refine ite_congr rfl (fun c1 => ?_) (fun c1 => ?_)
  · refine (tq_iload i_L_law_1182 rfl rfl).trans ?_
    refine (tq_if_ne (pt := 1199) i_L_law_1184 w6 (by decide) rfl).trans ?_
    refine ite_congr rfl (fun c2 => ?_) (fun c2 => ?_)
    · refine (tq_goto (pc' := 2383) i_L_law_1199 (by decide)).trans ?_
      rfl
    · refine (tq_aload_n i_L_law_1187 rfl (isA_ref _) rfl).trans ?_
      refine (tq_iconst i_L_law_1188 rfl).trans ?_
      refine (tq_laload i_L_law_1189 s3 w_0 (g4 c1 c2).1 (lt_gn n2 (g4 c1 c2).2) rfl).trans ?_
      refine (tq_iload i_L_law_1190 rfl rfl).trans ?_
      refine (tq_i2l i_L_law_1192 ws0 rfl).trans ?_
      refine (tq_lcmp_eq (pt := 1199) i_L_law_1193 i_L_law_1194 rfl (wl_gJ _ _ _) (wl_of_wr ws0) (by decide) rfl).trans ?_
      refine ite_congr rfl (fun c3 => ?_) (fun c3 => ?_)
      · refine (tq_goto (pc' := 2383) i_L_law_1199 (by decide)).trans ?_
        rfl
      · refine (tq_iconst i_L_law_1197 rfl).trans ?_
        exact tq_ireturn i_L_law_1198 r_L_law (okB w_0 (by decide))
  · refine (tq_iconst i_L_law_1180 rfl).trans ?_
    exact tq_ireturn i_L_law_1181 r_L_law (okB w_0 (by decide))
theorem i_L_law_1202 : am_i m_L_law 1202 = some (1202, .aload_n 1, 1, [], 0) := (lk_11 (Nat.le_of_ble_eq_true rfl)).trans rfl
theorem i_L_law_1203 : am_i m_L_law 1203 = some (1203, .aload_n 0, 1, [], 0) := (lk_11 (Nat.le_of_ble_eq_true rfl)).trans rfl
theorem i_L_law_1204 : am_i m_L_law 1204 = some (1204, .iload 5, 2, [], 0) := (lk_11 (Nat.le_of_ble_eq_true rfl)).trans rfl
theorem i_L_law_1206 : am_i m_L_law 1206 = some (1206, .iconst 1, 1, [], 1) := (lk_11 (Nat.le_of_ble_eq_true rfl)).trans rfl
theorem i_L_law_1207 : am_i m_L_law 1207 = some (1207, .iadd, 1, [], 0) := (lk_11 (Nat.le_of_ble_eq_true rfl)).trans rfl
theorem i_L_law_1208 : am_i m_L_law 1208 = some (1208, .iaload, 1, [], 0) := (lk_11 (Nat.le_of_ble_eq_true rfl)).trans rfl
theorem i_L_law_1209 : am_i m_L_law 1209 = some (1209, .aload_n 0, 1, [], 0) := (lk_11 (Nat.le_of_ble_eq_true rfl)).trans rfl
theorem i_L_law_1210 : am_i m_L_law 1210 = some (1210, .iload 5, 2, [], 0) := (lk_11 (Nat.le_of_ble_eq_true rfl)).trans rfl
theorem i_L_law_1212 : am_i m_L_law 1212 = some (1212, .iconst 2, 1, [], 2) := (lk_11 (Nat.le_of_ble_eq_true rfl)).trans rfl
theorem i_L_law_1213 : am_i m_L_law 1213 = some (1213, .iadd, 1, [], 0) := (lk_11 (Nat.le_of_ble_eq_true rfl)).trans rfl
theorem i_L_law_1214 : am_i m_L_law 1214 = some (1214, .iaload, 1, [], 0) := (lk_11 (Nat.le_of_ble_eq_true rfl)).trans rfl
theorem i_L_law_1215 : am_i m_L_law 1215 = some (1215, .aload_n 3, 1, [], 0) := (lk_11 (Nat.le_of_ble_eq_true rfl)).trans rfl
theorem i_L_law_1216 : am_i m_L_law 1216 = some (1216, .invokestatic 203, 3, [260], 0) := (lk_11 (Nat.le_of_ble_eq_true rfl)).trans rfl
theorem b_L_law_1202 {a0 a1 a2 a3 a4 n_a0 : Nat} {x5 : Int} {v6 v7 v8 : Value} {h : am_H} (n1 : gn h a0 = n_a0) (s2 : sh h a0 = (1, 7)) (g3 : 0 ≤ wr (x5 + 1) ∧ wr (x5 + 1) < (n_a0 : Int)) (g4 : 0 ≤ wr (x5 + 2) ∧ wr (x5 + 2) < (n_a0 : Int)) : rn m_L_law 1202 [.ref a0, .ref a1, .ref a2, .ref a3, .ref a4, .int (mI x5), v6, v7, v8] [] h = cl m_L_law 1219 [.ref a0, .ref a1, .ref a2, .ref a3, .ref a4, .int (mI x5), v6, v7, v8] [] (rn m_L_bytes 0 [.ref a1, .int (mI (gZ h a0 (wr (x5 + 1)))), .int (mI (gZ h a0 (wr (x5 + 2)))), .ref a3, am_J] [] h) := by
  refine (tq_aload_n i_L_law_1202 rfl (isA_ref _) rfl).trans ?_
  refine (tq_aload_n i_L_law_1203 rfl (isA_ref _) rfl).trans ?_
  refine (tq_iload i_L_law_1204 rfl rfl).trans ?_
  refine (tq_iconst i_L_law_1206 rfl).trans ?_
  refine (tq_iadd i_L_law_1207 rfl).trans ?_
  refine (tq_iaload i_L_law_1208 s2 (by decide) rfl g3.1 (lt_gn n1 g3.2) rfl).trans ?_
  refine (tq_aload_n i_L_law_1209 rfl (isA_ref _) rfl).trans ?_
  refine (tq_iload i_L_law_1210 rfl rfl).trans ?_
  refine (tq_iconst i_L_law_1212 rfl).trans ?_
  refine (tq_iadd i_L_law_1213 rfl).trans ?_
  refine (tq_iaload i_L_law_1214 s2 (by decide) rfl g4.1 (lt_gn n1 g4.2) rfl).trans ?_
  refine (tq_aload_n i_L_law_1215 rfl (isA_ref _) rfl).trans ?_
  exact c_L_bytes i_L_law_1216 (ltd d_L_law (by decide)) (isA_ref _) (isA_ref _) stOk_0 rfl
theorem i_L_law_1219 : am_i m_L_law 1219 = some (1219, .istore 6, 2, [], 0) := (lk_11 (Nat.le_of_ble_eq_true rfl)).trans rfl
theorem i_L_law_1221 : am_i m_L_law 1221 = some (1221, .aload_n 2, 1, [], 0) := (lk_11 (Nat.le_of_ble_eq_true rfl)).trans rfl
theorem i_L_law_1222 : am_i m_L_law 1222 = some (1222, .aload_n 0, 1, [], 0) := (lk_11 (Nat.le_of_ble_eq_true rfl)).trans rfl
theorem i_L_law_1223 : am_i m_L_law 1223 = some (1223, .iload 5, 2, [], 0) := (lk_11 (Nat.le_of_ble_eq_true rfl)).trans rfl
theorem i_L_law_1225 : am_i m_L_law 1225 = some (1225, .iconst 1, 1, [], 1) := (lk_11 (Nat.le_of_ble_eq_true rfl)).trans rfl
theorem i_L_law_1226 : am_i m_L_law 1226 = some (1226, .iadd, 1, [], 0) := (lk_11 (Nat.le_of_ble_eq_true rfl)).trans rfl
theorem i_L_law_1227 : am_i m_L_law 1227 = some (1227, .iaload, 1, [], 0) := (lk_11 (Nat.le_of_ble_eq_true rfl)).trans rfl
theorem i_L_law_1228 : am_i m_L_law 1228 = some (1228, .aload_n 0, 1, [], 0) := (lk_11 (Nat.le_of_ble_eq_true rfl)).trans rfl
theorem i_L_law_1229 : am_i m_L_law 1229 = some (1229, .iload 5, 2, [], 0) := (lk_11 (Nat.le_of_ble_eq_true rfl)).trans rfl
theorem i_L_law_1231 : am_i m_L_law 1231 = some (1231, .iconst 2, 1, [], 2) := (lk_11 (Nat.le_of_ble_eq_true rfl)).trans rfl
theorem i_L_law_1232 : am_i m_L_law 1232 = some (1232, .iadd, 1, [], 0) := (lk_11 (Nat.le_of_ble_eq_true rfl)).trans rfl
theorem i_L_law_1233 : am_i m_L_law 1233 = some (1233, .iaload, 1, [], 0) := (lk_11 (Nat.le_of_ble_eq_true rfl)).trans rfl
theorem i_L_law_1234 : am_i m_L_law 1234 = some (1234, .invokevirtual 205, 3, [129, 10], 0) := (lk_11 (Nat.le_of_ble_eq_true rfl)).trans rfl
theorem b_L_law_1219 {a0 a1 a2 a3 a4 n_a0 : Nat} {x5 xs0 : Int} {v6 v7 v8 : Value} {h : am_H} (n1 : gn h a0 = n_a0) (s2 : sh h a0 = (1, 7)) (g3 : 0 ≤ wr (x5 + 1) ∧ wr (x5 + 1) < (n_a0 : Int)) (g4 : 0 ≤ wr (x5 + 2) ∧ wr (x5 + 2) < (n_a0 : Int)) (k5 : K10 h a2) : rn m_L_law 1219 [.ref a0, .ref a1, .ref a2, .ref a3, .ref a4, .int (mI x5), v6, v7, v8] [.int (mI xs0)] h = cl m_L_law 1237 [.ref a0, .ref a1, .ref a2, .ref a3, .ref a4, .int (mI x5), .int (mI xs0), v7, v8] [] (rn m_X12_bytes 0 [.ref a2, .int (mI (gZ h a0 (wr (x5 + 1)))), .int (mI (gZ h a0 (wr (x5 + 2))))] [] h) := by
  refine (tq_istore (L' := [.ref a0, .ref a1, .ref a2, .ref a3, .ref a4, .int (mI x5), .int (mI xs0), v7, v8]) i_L_law_1219 rfl rfl).trans ?_
  refine (tq_aload_n i_L_law_1221 rfl (isA_ref _) rfl).trans ?_
  refine (tq_aload_n i_L_law_1222 rfl (isA_ref _) rfl).trans ?_
  refine (tq_iload i_L_law_1223 rfl rfl).trans ?_
  refine (tq_iconst i_L_law_1225 rfl).trans ?_
  refine (tq_iadd i_L_law_1226 rfl).trans ?_
  refine (tq_iaload i_L_law_1227 s2 (by decide) rfl g3.1 (lt_gn n1 g3.2) rfl).trans ?_
  refine (tq_aload_n i_L_law_1228 rfl (isA_ref _) rfl).trans ?_
  refine (tq_iload i_L_law_1229 rfl rfl).trans ?_
  refine (tq_iconst i_L_law_1231 rfl).trans ?_
  refine (tq_iadd i_L_law_1232 rfl).trans ?_
  refine (tq_iaload i_L_law_1233 s2 (by decide) rfl g4.1 (lt_gn n1 g4.2) rfl).trans ?_
  exact c_X12_bytes i_L_law_1234 (K10_s k5) (ltd d_L_law (by decide)) stOk_0 rfl
theorem i_L_law_1237 : am_i m_L_law 1237 = some (1237, .istore 7, 2, [], 0) := (lk_11 (Nat.le_of_ble_eq_true rfl)).trans rfl
theorem i_L_law_1239 : am_i m_L_law 1239 = some (1239, .aload_n 2, 1, [], 0) := (lk_11 (Nat.le_of_ble_eq_true rfl)).trans rfl
theorem i_L_law_1240 : am_i m_L_law 1240 = some (1240, .invokevirtual 139, 3, [39, 10], 0) := (lk_11 (Nat.le_of_ble_eq_true rfl)).trans rfl
theorem i_L_law_1243 : am_i m_L_law 1243 = some (1243, .iload 6, 2, [], 0) := (lk_11 (Nat.le_of_ble_eq_true rfl)).trans rfl
theorem i_L_law_1245 : am_i m_L_law 1245 = some (1245, .if_icmp .eq 5, 3, [], 0) := (lk_11 (Nat.le_of_ble_eq_true rfl)).trans rfl
theorem i_L_law_1248 : am_i m_L_law 1248 = some (1248, .iconst 0, 1, [], 0) := (lk_11 (Nat.le_of_ble_eq_true rfl)).trans rfl
theorem i_L_law_1249 : am_i m_L_law 1249 = some (1249, .ireturn, 1, [], 0) := (lk_11 (Nat.le_of_ble_eq_true rfl)).trans rfl
theorem i_L_law_1250 : am_i m_L_law 1250 = some (1250, .iload 6, 2, [], 0) := (lk_11 (Nat.le_of_ble_eq_true rfl)).trans rfl
theorem i_L_law_1252 : am_i m_L_law 1252 = some (1252, .ifCond .ne 15, 3, [], 0) := (lk_11 (Nat.le_of_ble_eq_true rfl)).trans rfl
theorem i_L_law_1255 : am_i m_L_law 1255 = some (1255, .aload_n 3, 1, [], 0) := (lk_11 (Nat.le_of_ble_eq_true rfl)).trans rfl
theorem i_L_law_1256 : am_i m_L_law 1256 = some (1256, .iconst 0, 1, [], 0) := (lk_11 (Nat.le_of_ble_eq_true rfl)).trans rfl
theorem i_L_law_1257 : am_i m_L_law 1257 = some (1257, .laload, 1, [], 0) := (lk_11 (Nat.le_of_ble_eq_true rfl)).trans rfl
theorem i_L_law_1258 : am_i m_L_law 1258 = some (1258, .iload 7, 2, [], 0) := (lk_11 (Nat.le_of_ble_eq_true rfl)).trans rfl
theorem i_L_law_1260 : am_i m_L_law 1260 = some (1260, .i2l, 1, [], 0) := (lk_11 (Nat.le_of_ble_eq_true rfl)).trans rfl
theorem i_L_law_1261 : am_i m_L_law 1261 = some (1261, .lcmp, 1, [], 0) := (lk_11 (Nat.le_of_ble_eq_true rfl)).trans rfl
theorem i_L_law_1262 : am_i m_L_law 1262 = some (1262, .ifCond .eq 5, 3, [], 0) := (lk_11 (Nat.le_of_ble_eq_true rfl)).trans rfl
theorem i_L_law_1265 : am_i m_L_law 1265 = some (1265, .iconst 0, 1, [], 0) := (lk_11 (Nat.le_of_ble_eq_true rfl)).trans rfl
theorem i_L_law_1266 : am_i m_L_law 1266 = some (1266, .ireturn, 1, [], 0) := (lk_11 (Nat.le_of_ble_eq_true rfl)).trans rfl
theorem i_L_law_1267 : am_i m_L_law 1267 = some (1267, .goto 1116, 3, [], 0) := (lk_12 (Nat.le_of_ble_eq_true rfl)).trans rfl
theorem b_L_law_1237 {a0 a1 a2 a3 a4 n_a3 : Nat} {x5 x6 xs0 x6' xs0' : Int} {v7 v8 : Value} {h : am_H} (w6 : wr x6 = x6') (ws0 : wr xs0 = xs0') (k1 : K10 h a2) (n2 : gn h a3 = n_a3) (s3 : sh h a3 = (2, 3)) (g4 : ((fZ h a2 0) = x6') → (¬ (¬ x6' = 0)) → ((0 : Int) ≤ 0 ∧ 0 < (n_a3 : Int))) : rn m_L_law 1237 [.ref a0, .ref a1, .ref a2, .ref a3, .ref a4, .int (mI x5), .int (mI x6), v7, v8] [.int (mI xs0)] h = if (fZ h a2 0) = x6' then if ¬ x6' = 0 then rn m_L_law 2383 [.ref a0, .ref a1, .ref a2, .ref a3, .ref a4, .int (mI x5), .int (mI x6), .int (mI xs0), v8] [] h else if (gJ h a3 0) = xs0' then rn m_L_law 2383 [.ref a0, .ref a1, .ref a2, .ref a3, .ref a4, .int (mI x5), .int (mI x6), .int (mI xs0), v8] [] h else some (.inl (some (.int (mI 0))), h) else some (.inl (some (.int (mI 0))), h) := by
  refine (tq_istore (L' := [.ref a0, .ref a1, .ref a2, .ref a3, .ref a4, .int (mI x5), .int (mI x6), .int (mI xs0), v8]) i_L_law_1237 rfl rfl).trans ?_
  refine (tq_aload_n i_L_law_1239 rfl (isA_ref _) rfl).trans ?_
  refine (c_X12_thrown i_L_law_1240 (K10_s k1) (ltd d_L_law (by decide)) stOk_0 rfl).trans ?_
  refine (congrArg (cl _ _ _ _) (b_X12_thrown_0 k1)).trans ?_
  refine (cl_v _ _ _ _ _ _).trans ?_
  refine (tq_iload i_L_law_1243 rfl rfl).trans ?_
  refine (tq_icmp_eq (pt := 1250) i_L_law_1245 (wr_fZ _ _ _) w6 (by decide) rfl).trans ?_
  refine ite_congr rfl (fun c1 => ?_) (fun c1 => ?_)
  · refine (tq_iload i_L_law_1250 rfl rfl).trans ?_
    refine (tq_if_ne (pt := 1267) i_L_law_1252 w6 (by decide) rfl).trans ?_
    refine ite_congr rfl (fun c2 => ?_) (fun c2 => ?_)
    · refine (tq_goto (pc' := 2383) i_L_law_1267 (by decide)).trans ?_
      rfl
    · refine (tq_aload_n i_L_law_1255 rfl (isA_ref _) rfl).trans ?_
      refine (tq_iconst i_L_law_1256 rfl).trans ?_
      refine (tq_laload i_L_law_1257 s3 w_0 (g4 c1 c2).1 (lt_gn n2 (g4 c1 c2).2) rfl).trans ?_
      refine (tq_iload i_L_law_1258 rfl rfl).trans ?_
      refine (tq_i2l i_L_law_1260 ws0 rfl).trans ?_
      refine (tq_lcmp_eq (pt := 1267) i_L_law_1261 i_L_law_1262 rfl (wl_gJ _ _ _) (wl_of_wr ws0) (by decide) rfl).trans ?_
      refine ite_congr rfl (fun c3 => ?_) (fun c3 => ?_)
      · refine (tq_goto (pc' := 2383) i_L_law_1267 (by decide)).trans ?_
        rfl
      · refine (tq_iconst i_L_law_1265 rfl).trans ?_
        exact tq_ireturn i_L_law_1266 r_L_law (okB w_0 (by decide))
  · refine (tq_iconst i_L_law_1248 rfl).trans ?_
    exact tq_ireturn i_L_law_1249 r_L_law (okB w_0 (by decide))
theorem i_L_law_1270 : am_i m_L_law 1270 = some (1270, .aload_n 1, 1, [], 0) := (lk_12 (Nat.le_of_ble_eq_true rfl)).trans rfl
theorem i_L_law_1271 : am_i m_L_law 1271 = some (1271, .aload_n 0, 1, [], 0) := (lk_12 (Nat.le_of_ble_eq_true rfl)).trans rfl
theorem i_L_law_1272 : am_i m_L_law 1272 = some (1272, .iload 5, 2, [], 0) := (lk_12 (Nat.le_of_ble_eq_true rfl)).trans rfl
theorem i_L_law_1274 : am_i m_L_law 1274 = some (1274, .iconst 1, 1, [], 1) := (lk_12 (Nat.le_of_ble_eq_true rfl)).trans rfl
theorem i_L_law_1275 : am_i m_L_law 1275 = some (1275, .iadd, 1, [], 0) := (lk_12 (Nat.le_of_ble_eq_true rfl)).trans rfl
theorem i_L_law_1276 : am_i m_L_law 1276 = some (1276, .iaload, 1, [], 0) := (lk_12 (Nat.le_of_ble_eq_true rfl)).trans rfl
theorem i_L_law_1277 : am_i m_L_law 1277 = some (1277, .aload_n 0, 1, [], 0) := (lk_12 (Nat.le_of_ble_eq_true rfl)).trans rfl
theorem i_L_law_1278 : am_i m_L_law 1278 = some (1278, .iload 5, 2, [], 0) := (lk_12 (Nat.le_of_ble_eq_true rfl)).trans rfl
theorem i_L_law_1280 : am_i m_L_law 1280 = some (1280, .iconst 2, 1, [], 2) := (lk_12 (Nat.le_of_ble_eq_true rfl)).trans rfl
theorem i_L_law_1281 : am_i m_L_law 1281 = some (1281, .iadd, 1, [], 0) := (lk_12 (Nat.le_of_ble_eq_true rfl)).trans rfl
theorem i_L_law_1282 : am_i m_L_law 1282 = some (1282, .iaload, 1, [], 0) := (lk_12 (Nat.le_of_ble_eq_true rfl)).trans rfl
theorem i_L_law_1283 : am_i m_L_law 1283 = some (1283, .aload_n 0, 1, [], 0) := (lk_12 (Nat.le_of_ble_eq_true rfl)).trans rfl
theorem i_L_law_1284 : am_i m_L_law 1284 = some (1284, .iload 5, 2, [], 0) := (lk_12 (Nat.le_of_ble_eq_true rfl)).trans rfl
theorem i_L_law_1286 : am_i m_L_law 1286 = some (1286, .iconst 3, 1, [], 3) := (lk_12 (Nat.le_of_ble_eq_true rfl)).trans rfl
theorem i_L_law_1287 : am_i m_L_law 1287 = some (1287, .iadd, 1, [], 0) := (lk_12 (Nat.le_of_ble_eq_true rfl)).trans rfl
theorem i_L_law_1288 : am_i m_L_law 1288 = some (1288, .iaload, 1, [], 0) := (lk_12 (Nat.le_of_ble_eq_true rfl)).trans rfl
theorem i_L_law_1289 : am_i m_L_law 1289 = some (1289, .aload_n 3, 1, [], 0) := (lk_12 (Nat.le_of_ble_eq_true rfl)).trans rfl
theorem i_L_law_1290 : am_i m_L_law 1290 = some (1290, .invokestatic 206, 3, [259], 0) := (lk_12 (Nat.le_of_ble_eq_true rfl)).trans rfl
theorem b_L_law_1270 {a0 a1 a2 a3 a4 n_a0 : Nat} {x5 : Int} {v6 v7 v8 : Value} {h : am_H} (n1 : gn h a0 = n_a0) (s2 : sh h a0 = (1, 7)) (g3 : 0 ≤ wr (x5 + 1) ∧ wr (x5 + 1) < (n_a0 : Int)) (g4 : 0 ≤ wr (x5 + 2) ∧ wr (x5 + 2) < (n_a0 : Int)) (g5 : 0 ≤ wr (x5 + 3) ∧ wr (x5 + 3) < (n_a0 : Int)) : rn m_L_law 1270 [.ref a0, .ref a1, .ref a2, .ref a3, .ref a4, .int (mI x5), v6, v7, v8] [] h = cl m_L_law 1293 [.ref a0, .ref a1, .ref a2, .ref a3, .ref a4, .int (mI x5), v6, v7, v8] [] (rn m_L_byteAt 0 [.ref a1, .int (mI (gZ h a0 (wr (x5 + 1)))), .int (mI (gZ h a0 (wr (x5 + 2)))), .int (mI (gZ h a0 (wr (x5 + 3)))), .ref a3, am_J] [] h) := by
  refine (tq_aload_n i_L_law_1270 rfl (isA_ref _) rfl).trans ?_
  refine (tq_aload_n i_L_law_1271 rfl (isA_ref _) rfl).trans ?_
  refine (tq_iload i_L_law_1272 rfl rfl).trans ?_
  refine (tq_iconst i_L_law_1274 rfl).trans ?_
  refine (tq_iadd i_L_law_1275 rfl).trans ?_
  refine (tq_iaload i_L_law_1276 s2 (by decide) rfl g3.1 (lt_gn n1 g3.2) rfl).trans ?_
  refine (tq_aload_n i_L_law_1277 rfl (isA_ref _) rfl).trans ?_
  refine (tq_iload i_L_law_1278 rfl rfl).trans ?_
  refine (tq_iconst i_L_law_1280 rfl).trans ?_
  refine (tq_iadd i_L_law_1281 rfl).trans ?_
  refine (tq_iaload i_L_law_1282 s2 (by decide) rfl g4.1 (lt_gn n1 g4.2) rfl).trans ?_
  refine (tq_aload_n i_L_law_1283 rfl (isA_ref _) rfl).trans ?_
  refine (tq_iload i_L_law_1284 rfl rfl).trans ?_
  refine (tq_iconst i_L_law_1286 rfl).trans ?_
  refine (tq_iadd i_L_law_1287 rfl).trans ?_
  refine (tq_iaload i_L_law_1288 s2 (by decide) rfl g5.1 (lt_gn n1 g5.2) rfl).trans ?_
  refine (tq_aload_n i_L_law_1289 rfl (isA_ref _) rfl).trans ?_
  exact c_L_byteAt i_L_law_1290 (ltd d_L_law (by decide)) (isA_ref _) (isA_ref _) stOk_0 rfl
theorem i_L_law_1293 : am_i m_L_law 1293 = some (1293, .istore 6, 2, [], 0) := (lk_12 (Nat.le_of_ble_eq_true rfl)).trans rfl
theorem i_L_law_1295 : am_i m_L_law 1295 = some (1295, .aload_n 2, 1, [], 0) := (lk_12 (Nat.le_of_ble_eq_true rfl)).trans rfl
theorem i_L_law_1296 : am_i m_L_law 1296 = some (1296, .aload_n 0, 1, [], 0) := (lk_12 (Nat.le_of_ble_eq_true rfl)).trans rfl
theorem i_L_law_1297 : am_i m_L_law 1297 = some (1297, .iload 5, 2, [], 0) := (lk_12 (Nat.le_of_ble_eq_true rfl)).trans rfl
theorem i_L_law_1299 : am_i m_L_law 1299 = some (1299, .iconst 1, 1, [], 1) := (lk_12 (Nat.le_of_ble_eq_true rfl)).trans rfl
theorem i_L_law_1300 : am_i m_L_law 1300 = some (1300, .iadd, 1, [], 0) := (lk_12 (Nat.le_of_ble_eq_true rfl)).trans rfl
theorem i_L_law_1301 : am_i m_L_law 1301 = some (1301, .iaload, 1, [], 0) := (lk_12 (Nat.le_of_ble_eq_true rfl)).trans rfl
theorem i_L_law_1302 : am_i m_L_law 1302 = some (1302, .aload_n 0, 1, [], 0) := (lk_12 (Nat.le_of_ble_eq_true rfl)).trans rfl
theorem i_L_law_1303 : am_i m_L_law 1303 = some (1303, .iload 5, 2, [], 0) := (lk_12 (Nat.le_of_ble_eq_true rfl)).trans rfl
theorem i_L_law_1305 : am_i m_L_law 1305 = some (1305, .iconst 2, 1, [], 2) := (lk_12 (Nat.le_of_ble_eq_true rfl)).trans rfl
theorem i_L_law_1306 : am_i m_L_law 1306 = some (1306, .iadd, 1, [], 0) := (lk_12 (Nat.le_of_ble_eq_true rfl)).trans rfl
theorem i_L_law_1307 : am_i m_L_law 1307 = some (1307, .iaload, 1, [], 0) := (lk_12 (Nat.le_of_ble_eq_true rfl)).trans rfl
theorem i_L_law_1308 : am_i m_L_law 1308 = some (1308, .aload_n 0, 1, [], 0) := (lk_12 (Nat.le_of_ble_eq_true rfl)).trans rfl
theorem i_L_law_1309 : am_i m_L_law 1309 = some (1309, .iload 5, 2, [], 0) := (lk_12 (Nat.le_of_ble_eq_true rfl)).trans rfl
theorem i_L_law_1311 : am_i m_L_law 1311 = some (1311, .iconst 3, 1, [], 3) := (lk_12 (Nat.le_of_ble_eq_true rfl)).trans rfl
theorem i_L_law_1312 : am_i m_L_law 1312 = some (1312, .iadd, 1, [], 0) := (lk_12 (Nat.le_of_ble_eq_true rfl)).trans rfl
theorem i_L_law_1313 : am_i m_L_law 1313 = some (1313, .iaload, 1, [], 0) := (lk_12 (Nat.le_of_ble_eq_true rfl)).trans rfl
theorem i_L_law_1314 : am_i m_L_law 1314 = some (1314, .invokevirtual 208, 3, [128, 10], 0) := (lk_12 (Nat.le_of_ble_eq_true rfl)).trans rfl
theorem b_L_law_1293 {a0 a1 a2 a3 a4 n_a0 : Nat} {x5 xs0 : Int} {v6 v7 v8 : Value} {h : am_H} (n1 : gn h a0 = n_a0) (s2 : sh h a0 = (1, 7)) (g3 : 0 ≤ wr (x5 + 1) ∧ wr (x5 + 1) < (n_a0 : Int)) (g4 : 0 ≤ wr (x5 + 2) ∧ wr (x5 + 2) < (n_a0 : Int)) (g5 : 0 ≤ wr (x5 + 3) ∧ wr (x5 + 3) < (n_a0 : Int)) (k6 : K10 h a2) : rn m_L_law 1293 [.ref a0, .ref a1, .ref a2, .ref a3, .ref a4, .int (mI x5), v6, v7, v8] [.int (mI xs0)] h = cl m_L_law 1317 [.ref a0, .ref a1, .ref a2, .ref a3, .ref a4, .int (mI x5), .int (mI xs0), v7, v8] [] (rn m_X12_byteAt 0 [.ref a2, .int (mI (gZ h a0 (wr (x5 + 1)))), .int (mI (gZ h a0 (wr (x5 + 2)))), .int (mI (gZ h a0 (wr (x5 + 3)))), am_J] [] h) := by
  refine (tq_istore (L' := [.ref a0, .ref a1, .ref a2, .ref a3, .ref a4, .int (mI x5), .int (mI xs0), v7, v8]) i_L_law_1293 rfl rfl).trans ?_
  refine (tq_aload_n i_L_law_1295 rfl (isA_ref _) rfl).trans ?_
  refine (tq_aload_n i_L_law_1296 rfl (isA_ref _) rfl).trans ?_
  refine (tq_iload i_L_law_1297 rfl rfl).trans ?_
  refine (tq_iconst i_L_law_1299 rfl).trans ?_
  refine (tq_iadd i_L_law_1300 rfl).trans ?_
  refine (tq_iaload i_L_law_1301 s2 (by decide) rfl g3.1 (lt_gn n1 g3.2) rfl).trans ?_
  refine (tq_aload_n i_L_law_1302 rfl (isA_ref _) rfl).trans ?_
  refine (tq_iload i_L_law_1303 rfl rfl).trans ?_
  refine (tq_iconst i_L_law_1305 rfl).trans ?_
  refine (tq_iadd i_L_law_1306 rfl).trans ?_
  refine (tq_iaload i_L_law_1307 s2 (by decide) rfl g4.1 (lt_gn n1 g4.2) rfl).trans ?_
  refine (tq_aload_n i_L_law_1308 rfl (isA_ref _) rfl).trans ?_
  refine (tq_iload i_L_law_1309 rfl rfl).trans ?_
  refine (tq_iconst i_L_law_1311 rfl).trans ?_
  refine (tq_iadd i_L_law_1312 rfl).trans ?_
  refine (tq_iaload i_L_law_1313 s2 (by decide) rfl g5.1 (lt_gn n1 g5.2) rfl).trans ?_
  exact c_X12_byteAt i_L_law_1314 (K10_s k6) (ltd d_L_law (by decide)) stOk_0 rfl
theorem i_L_law_1317 : am_i m_L_law 1317 = some (1317, .istore 7, 2, [], 0) := (lk_12 (Nat.le_of_ble_eq_true rfl)).trans rfl
theorem i_L_law_1319 : am_i m_L_law 1319 = some (1319, .aload_n 2, 1, [], 0) := (lk_12 (Nat.le_of_ble_eq_true rfl)).trans rfl
theorem i_L_law_1320 : am_i m_L_law 1320 = some (1320, .invokevirtual 139, 3, [39, 10], 0) := (lk_12 (Nat.le_of_ble_eq_true rfl)).trans rfl
theorem i_L_law_1323 : am_i m_L_law 1323 = some (1323, .iload 6, 2, [], 0) := (lk_12 (Nat.le_of_ble_eq_true rfl)).trans rfl
theorem i_L_law_1325 : am_i m_L_law 1325 = some (1325, .if_icmp .eq 5, 3, [], 0) := (lk_12 (Nat.le_of_ble_eq_true rfl)).trans rfl
theorem i_L_law_1328 : am_i m_L_law 1328 = some (1328, .iconst 0, 1, [], 0) := (lk_12 (Nat.le_of_ble_eq_true rfl)).trans rfl
theorem i_L_law_1329 : am_i m_L_law 1329 = some (1329, .ireturn, 1, [], 0) := (lk_12 (Nat.le_of_ble_eq_true rfl)).trans rfl
theorem i_L_law_1330 : am_i m_L_law 1330 = some (1330, .iload 6, 2, [], 0) := (lk_12 (Nat.le_of_ble_eq_true rfl)).trans rfl
theorem i_L_law_1332 : am_i m_L_law 1332 = some (1332, .ifCond .ne 15, 3, [], 0) := (lk_12 (Nat.le_of_ble_eq_true rfl)).trans rfl
theorem i_L_law_1335 : am_i m_L_law 1335 = some (1335, .aload_n 3, 1, [], 0) := (lk_12 (Nat.le_of_ble_eq_true rfl)).trans rfl
theorem i_L_law_1336 : am_i m_L_law 1336 = some (1336, .iconst 0, 1, [], 0) := (lk_12 (Nat.le_of_ble_eq_true rfl)).trans rfl
theorem i_L_law_1337 : am_i m_L_law 1337 = some (1337, .laload, 1, [], 0) := (lk_12 (Nat.le_of_ble_eq_true rfl)).trans rfl
theorem i_L_law_1338 : am_i m_L_law 1338 = some (1338, .iload 7, 2, [], 0) := (lk_12 (Nat.le_of_ble_eq_true rfl)).trans rfl
theorem i_L_law_1340 : am_i m_L_law 1340 = some (1340, .i2l, 1, [], 0) := (lk_12 (Nat.le_of_ble_eq_true rfl)).trans rfl
theorem i_L_law_1341 : am_i m_L_law 1341 = some (1341, .lcmp, 1, [], 0) := (lk_12 (Nat.le_of_ble_eq_true rfl)).trans rfl
theorem i_L_law_1342 : am_i m_L_law 1342 = some (1342, .ifCond .eq 5, 3, [], 0) := (lk_12 (Nat.le_of_ble_eq_true rfl)).trans rfl
theorem i_L_law_1345 : am_i m_L_law 1345 = some (1345, .iconst 0, 1, [], 0) := (lk_12 (Nat.le_of_ble_eq_true rfl)).trans rfl
theorem i_L_law_1346 : am_i m_L_law 1346 = some (1346, .ireturn, 1, [], 0) := (lk_12 (Nat.le_of_ble_eq_true rfl)).trans rfl
theorem i_L_law_1347 : am_i m_L_law 1347 = some (1347, .goto 1036, 3, [], 0) := (lk_12 (Nat.le_of_ble_eq_true rfl)).trans rfl
theorem b_L_law_1317 {a0 a1 a2 a3 a4 n_a3 : Nat} {x5 x6 xs0 x6' xs0' : Int} {v7 v8 : Value} {h : am_H} (w6 : wr x6 = x6') (ws0 : wr xs0 = xs0') (k1 : K10 h a2) (n2 : gn h a3 = n_a3) (s3 : sh h a3 = (2, 3)) (g4 : ((fZ h a2 0) = x6') → (¬ (¬ x6' = 0)) → ((0 : Int) ≤ 0 ∧ 0 < (n_a3 : Int))) : rn m_L_law 1317 [.ref a0, .ref a1, .ref a2, .ref a3, .ref a4, .int (mI x5), .int (mI x6), v7, v8] [.int (mI xs0)] h = if (fZ h a2 0) = x6' then if ¬ x6' = 0 then rn m_L_law 2383 [.ref a0, .ref a1, .ref a2, .ref a3, .ref a4, .int (mI x5), .int (mI x6), .int (mI xs0), v8] [] h else if (gJ h a3 0) = xs0' then rn m_L_law 2383 [.ref a0, .ref a1, .ref a2, .ref a3, .ref a4, .int (mI x5), .int (mI x6), .int (mI xs0), v8] [] h else some (.inl (some (.int (mI 0))), h) else some (.inl (some (.int (mI 0))), h) := by
  refine (tq_istore (L' := [.ref a0, .ref a1, .ref a2, .ref a3, .ref a4, .int (mI x5), .int (mI x6), .int (mI xs0), v8]) i_L_law_1317 rfl rfl).trans ?_
  refine (tq_aload_n i_L_law_1319 rfl (isA_ref _) rfl).trans ?_
  refine (c_X12_thrown i_L_law_1320 (K10_s k1) (ltd d_L_law (by decide)) stOk_0 rfl).trans ?_
  refine (congrArg (cl _ _ _ _) (b_X12_thrown_0 k1)).trans ?_
  refine (cl_v _ _ _ _ _ _).trans ?_
  refine (tq_iload i_L_law_1323 rfl rfl).trans ?_
  refine (tq_icmp_eq (pt := 1330) i_L_law_1325 (wr_fZ _ _ _) w6 (by decide) rfl).trans ?_
  refine ite_congr rfl (fun c1 => ?_) (fun c1 => ?_)
  · refine (tq_iload i_L_law_1330 rfl rfl).trans ?_
    refine (tq_if_ne (pt := 1347) i_L_law_1332 w6 (by decide) rfl).trans ?_
    refine ite_congr rfl (fun c2 => ?_) (fun c2 => ?_)
    · refine (tq_goto (pc' := 2383) i_L_law_1347 (by decide)).trans ?_
      rfl
    · refine (tq_aload_n i_L_law_1335 rfl (isA_ref _) rfl).trans ?_
      refine (tq_iconst i_L_law_1336 rfl).trans ?_
      refine (tq_laload i_L_law_1337 s3 w_0 (g4 c1 c2).1 (lt_gn n2 (g4 c1 c2).2) rfl).trans ?_
      refine (tq_iload i_L_law_1338 rfl rfl).trans ?_
      refine (tq_i2l i_L_law_1340 ws0 rfl).trans ?_
      refine (tq_lcmp_eq (pt := 1347) i_L_law_1341 i_L_law_1342 rfl (wl_gJ _ _ _) (wl_of_wr ws0) (by decide) rfl).trans ?_
      refine ite_congr rfl (fun c3 => ?_) (fun c3 => ?_)
      · refine (tq_goto (pc' := 2383) i_L_law_1347 (by decide)).trans ?_
        rfl
      · refine (tq_iconst i_L_law_1345 rfl).trans ?_
        exact tq_ireturn i_L_law_1346 r_L_law (okB w_0 (by decide))
  · refine (tq_iconst i_L_law_1328 rfl).trans ?_
    exact tq_ireturn i_L_law_1329 r_L_law (okB w_0 (by decide))
theorem i_L_law_1350 : am_i m_L_law 1350 = some (1350, .aload_n 1, 1, [], 0) := (lk_12 (Nat.le_of_ble_eq_true rfl)).trans rfl
theorem i_L_law_1351 : am_i m_L_law 1351 = some (1351, .aload_n 0, 1, [], 0) := (lk_12 (Nat.le_of_ble_eq_true rfl)).trans rfl
theorem i_L_law_1352 : am_i m_L_law 1352 = some (1352, .iload 5, 2, [], 0) := (lk_12 (Nat.le_of_ble_eq_true rfl)).trans rfl
theorem i_L_law_1354 : am_i m_L_law 1354 = some (1354, .iconst 1, 1, [], 1) := (lk_12 (Nat.le_of_ble_eq_true rfl)).trans rfl
theorem i_L_law_1355 : am_i m_L_law 1355 = some (1355, .iadd, 1, [], 0) := (lk_13 (Nat.le_of_ble_eq_true rfl)).trans rfl
theorem i_L_law_1356 : am_i m_L_law 1356 = some (1356, .iaload, 1, [], 0) := (lk_13 (Nat.le_of_ble_eq_true rfl)).trans rfl
theorem i_L_law_1357 : am_i m_L_law 1357 = some (1357, .aload_n 0, 1, [], 0) := (lk_13 (Nat.le_of_ble_eq_true rfl)).trans rfl
theorem i_L_law_1358 : am_i m_L_law 1358 = some (1358, .iload 5, 2, [], 0) := (lk_13 (Nat.le_of_ble_eq_true rfl)).trans rfl
theorem i_L_law_1360 : am_i m_L_law 1360 = some (1360, .iconst 2, 1, [], 2) := (lk_13 (Nat.le_of_ble_eq_true rfl)).trans rfl
theorem i_L_law_1361 : am_i m_L_law 1361 = some (1361, .iadd, 1, [], 0) := (lk_13 (Nat.le_of_ble_eq_true rfl)).trans rfl
theorem i_L_law_1362 : am_i m_L_law 1362 = some (1362, .iaload, 1, [], 0) := (lk_13 (Nat.le_of_ble_eq_true rfl)).trans rfl
theorem i_L_law_1363 : am_i m_L_law 1363 = some (1363, .aload_n 0, 1, [], 0) := (lk_13 (Nat.le_of_ble_eq_true rfl)).trans rfl
theorem i_L_law_1364 : am_i m_L_law 1364 = some (1364, .iload 5, 2, [], 0) := (lk_13 (Nat.le_of_ble_eq_true rfl)).trans rfl
theorem i_L_law_1366 : am_i m_L_law 1366 = some (1366, .iconst 3, 1, [], 3) := (lk_13 (Nat.le_of_ble_eq_true rfl)).trans rfl
theorem i_L_law_1367 : am_i m_L_law 1367 = some (1367, .iadd, 1, [], 0) := (lk_13 (Nat.le_of_ble_eq_true rfl)).trans rfl
theorem i_L_law_1368 : am_i m_L_law 1368 = some (1368, .iaload, 1, [], 0) := (lk_13 (Nat.le_of_ble_eq_true rfl)).trans rfl
theorem i_L_law_1369 : am_i m_L_law 1369 = some (1369, .aload_n 3, 1, [], 0) := (lk_13 (Nat.le_of_ble_eq_true rfl)).trans rfl
theorem i_L_law_1370 : am_i m_L_law 1370 = some (1370, .invokestatic 209, 3, [248], 0) := (lk_13 (Nat.le_of_ble_eq_true rfl)).trans rfl
theorem b_L_law_1350 {a0 a1 a2 a3 a4 n_a0 : Nat} {x5 : Int} {v6 v7 v8 : Value} {h : am_H} (n1 : gn h a0 = n_a0) (s2 : sh h a0 = (1, 7)) (g3 : 0 ≤ wr (x5 + 1) ∧ wr (x5 + 1) < (n_a0 : Int)) (g4 : 0 ≤ wr (x5 + 2) ∧ wr (x5 + 2) < (n_a0 : Int)) (g5 : 0 ≤ wr (x5 + 3) ∧ wr (x5 + 3) < (n_a0 : Int)) : rn m_L_law 1350 [.ref a0, .ref a1, .ref a2, .ref a3, .ref a4, .int (mI x5), v6, v7, v8] [] h = cl m_L_law 1373 [.ref a0, .ref a1, .ref a2, .ref a3, .ref a4, .int (mI x5), v6, v7, v8] [] (rn m_L_partAt 0 [.ref a1, .int (mI (gZ h a0 (wr (x5 + 1)))), .int (mI (gZ h a0 (wr (x5 + 2)))), .int (mI (gZ h a0 (wr (x5 + 3)))), .ref a3, am_J] [] h) := by
  refine (tq_aload_n i_L_law_1350 rfl (isA_ref _) rfl).trans ?_
  refine (tq_aload_n i_L_law_1351 rfl (isA_ref _) rfl).trans ?_
  refine (tq_iload i_L_law_1352 rfl rfl).trans ?_
  refine (tq_iconst i_L_law_1354 rfl).trans ?_
  refine (tq_iadd i_L_law_1355 rfl).trans ?_
  refine (tq_iaload i_L_law_1356 s2 (by decide) rfl g3.1 (lt_gn n1 g3.2) rfl).trans ?_
  refine (tq_aload_n i_L_law_1357 rfl (isA_ref _) rfl).trans ?_
  refine (tq_iload i_L_law_1358 rfl rfl).trans ?_
  refine (tq_iconst i_L_law_1360 rfl).trans ?_
  refine (tq_iadd i_L_law_1361 rfl).trans ?_
  refine (tq_iaload i_L_law_1362 s2 (by decide) rfl g4.1 (lt_gn n1 g4.2) rfl).trans ?_
  refine (tq_aload_n i_L_law_1363 rfl (isA_ref _) rfl).trans ?_
  refine (tq_iload i_L_law_1364 rfl rfl).trans ?_
  refine (tq_iconst i_L_law_1366 rfl).trans ?_
  refine (tq_iadd i_L_law_1367 rfl).trans ?_
  refine (tq_iaload i_L_law_1368 s2 (by decide) rfl g5.1 (lt_gn n1 g5.2) rfl).trans ?_
  refine (tq_aload_n i_L_law_1369 rfl (isA_ref _) rfl).trans ?_
  exact c_L_partAt i_L_law_1370 (ltd d_L_law (by decide)) (isA_ref _) (isA_ref _) stOk_0 rfl
theorem i_L_law_1373 : am_i m_L_law 1373 = some (1373, .istore 6, 2, [], 0) := (lk_13 (Nat.le_of_ble_eq_true rfl)).trans rfl
theorem i_L_law_1375 : am_i m_L_law 1375 = some (1375, .aload_n 2, 1, [], 0) := (lk_13 (Nat.le_of_ble_eq_true rfl)).trans rfl
theorem i_L_law_1376 : am_i m_L_law 1376 = some (1376, .aload_n 0, 1, [], 0) := (lk_13 (Nat.le_of_ble_eq_true rfl)).trans rfl
theorem i_L_law_1377 : am_i m_L_law 1377 = some (1377, .iload 5, 2, [], 0) := (lk_13 (Nat.le_of_ble_eq_true rfl)).trans rfl
theorem i_L_law_1379 : am_i m_L_law 1379 = some (1379, .iconst 1, 1, [], 1) := (lk_13 (Nat.le_of_ble_eq_true rfl)).trans rfl
theorem i_L_law_1380 : am_i m_L_law 1380 = some (1380, .iadd, 1, [], 0) := (lk_13 (Nat.le_of_ble_eq_true rfl)).trans rfl
theorem i_L_law_1381 : am_i m_L_law 1381 = some (1381, .iaload, 1, [], 0) := (lk_13 (Nat.le_of_ble_eq_true rfl)).trans rfl
theorem i_L_law_1382 : am_i m_L_law 1382 = some (1382, .aload_n 0, 1, [], 0) := (lk_13 (Nat.le_of_ble_eq_true rfl)).trans rfl
theorem i_L_law_1383 : am_i m_L_law 1383 = some (1383, .iload 5, 2, [], 0) := (lk_13 (Nat.le_of_ble_eq_true rfl)).trans rfl
theorem i_L_law_1385 : am_i m_L_law 1385 = some (1385, .iconst 2, 1, [], 2) := (lk_13 (Nat.le_of_ble_eq_true rfl)).trans rfl
theorem i_L_law_1386 : am_i m_L_law 1386 = some (1386, .iadd, 1, [], 0) := (lk_13 (Nat.le_of_ble_eq_true rfl)).trans rfl
theorem i_L_law_1387 : am_i m_L_law 1387 = some (1387, .iaload, 1, [], 0) := (lk_13 (Nat.le_of_ble_eq_true rfl)).trans rfl
theorem i_L_law_1388 : am_i m_L_law 1388 = some (1388, .aload_n 0, 1, [], 0) := (lk_13 (Nat.le_of_ble_eq_true rfl)).trans rfl
theorem i_L_law_1389 : am_i m_L_law 1389 = some (1389, .iload 5, 2, [], 0) := (lk_13 (Nat.le_of_ble_eq_true rfl)).trans rfl
theorem i_L_law_1391 : am_i m_L_law 1391 = some (1391, .iconst 3, 1, [], 3) := (lk_13 (Nat.le_of_ble_eq_true rfl)).trans rfl
theorem i_L_law_1392 : am_i m_L_law 1392 = some (1392, .iadd, 1, [], 0) := (lk_13 (Nat.le_of_ble_eq_true rfl)).trans rfl
theorem i_L_law_1393 : am_i m_L_law 1393 = some (1393, .iaload, 1, [], 0) := (lk_13 (Nat.le_of_ble_eq_true rfl)).trans rfl
theorem i_L_law_1394 : am_i m_L_law 1394 = some (1394, .invokevirtual 211, 3, [158, 10], 0) := (lk_13 (Nat.le_of_ble_eq_true rfl)).trans rfl
theorem b_L_law_1373 {a0 a1 a2 a3 a4 n_a0 : Nat} {x5 xs0 : Int} {v6 v7 v8 : Value} {h : am_H} (n1 : gn h a0 = n_a0) (s2 : sh h a0 = (1, 7)) (g3 : 0 ≤ wr (x5 + 1) ∧ wr (x5 + 1) < (n_a0 : Int)) (g4 : 0 ≤ wr (x5 + 2) ∧ wr (x5 + 2) < (n_a0 : Int)) (g5 : 0 ≤ wr (x5 + 3) ∧ wr (x5 + 3) < (n_a0 : Int)) (k6 : K10 h a2) : rn m_L_law 1373 [.ref a0, .ref a1, .ref a2, .ref a3, .ref a4, .int (mI x5), v6, v7, v8] [.int (mI xs0)] h = cl m_L_law 1397 [.ref a0, .ref a1, .ref a2, .ref a3, .ref a4, .int (mI x5), .int (mI xs0), v7, v8] [] (rn m_X12_partAt 0 [.ref a2, .int (mI (gZ h a0 (wr (x5 + 1)))), .int (mI (gZ h a0 (wr (x5 + 2)))), .int (mI (gZ h a0 (wr (x5 + 3))))] [] h) := by
  refine (tq_istore (L' := [.ref a0, .ref a1, .ref a2, .ref a3, .ref a4, .int (mI x5), .int (mI xs0), v7, v8]) i_L_law_1373 rfl rfl).trans ?_
  refine (tq_aload_n i_L_law_1375 rfl (isA_ref _) rfl).trans ?_
  refine (tq_aload_n i_L_law_1376 rfl (isA_ref _) rfl).trans ?_
  refine (tq_iload i_L_law_1377 rfl rfl).trans ?_
  refine (tq_iconst i_L_law_1379 rfl).trans ?_
  refine (tq_iadd i_L_law_1380 rfl).trans ?_
  refine (tq_iaload i_L_law_1381 s2 (by decide) rfl g3.1 (lt_gn n1 g3.2) rfl).trans ?_
  refine (tq_aload_n i_L_law_1382 rfl (isA_ref _) rfl).trans ?_
  refine (tq_iload i_L_law_1383 rfl rfl).trans ?_
  refine (tq_iconst i_L_law_1385 rfl).trans ?_
  refine (tq_iadd i_L_law_1386 rfl).trans ?_
  refine (tq_iaload i_L_law_1387 s2 (by decide) rfl g4.1 (lt_gn n1 g4.2) rfl).trans ?_
  refine (tq_aload_n i_L_law_1388 rfl (isA_ref _) rfl).trans ?_
  refine (tq_iload i_L_law_1389 rfl rfl).trans ?_
  refine (tq_iconst i_L_law_1391 rfl).trans ?_
  refine (tq_iadd i_L_law_1392 rfl).trans ?_
  refine (tq_iaload i_L_law_1393 s2 (by decide) rfl g5.1 (lt_gn n1 g5.2) rfl).trans ?_
  exact c_X12_partAt i_L_law_1394 (K10_s k6) (ltd d_L_law (by decide)) stOk_0 rfl
theorem i_L_law_1397 : am_i m_L_law 1397 = some (1397, .istore 7, 2, [], 0) := (lk_13 (Nat.le_of_ble_eq_true rfl)).trans rfl
theorem i_L_law_1399 : am_i m_L_law 1399 = some (1399, .aload_n 2, 1, [], 0) := (lk_13 (Nat.le_of_ble_eq_true rfl)).trans rfl
theorem i_L_law_1400 : am_i m_L_law 1400 = some (1400, .invokevirtual 139, 3, [39, 10], 0) := (lk_13 (Nat.le_of_ble_eq_true rfl)).trans rfl
theorem i_L_law_1403 : am_i m_L_law 1403 = some (1403, .iload 6, 2, [], 0) := (lk_13 (Nat.le_of_ble_eq_true rfl)).trans rfl
theorem i_L_law_1405 : am_i m_L_law 1405 = some (1405, .if_icmp .eq 5, 3, [], 0) := (lk_13 (Nat.le_of_ble_eq_true rfl)).trans rfl
theorem i_L_law_1408 : am_i m_L_law 1408 = some (1408, .iconst 0, 1, [], 0) := (lk_13 (Nat.le_of_ble_eq_true rfl)).trans rfl
theorem i_L_law_1409 : am_i m_L_law 1409 = some (1409, .ireturn, 1, [], 0) := (lk_13 (Nat.le_of_ble_eq_true rfl)).trans rfl
theorem i_L_law_1410 : am_i m_L_law 1410 = some (1410, .iload 6, 2, [], 0) := (lk_13 (Nat.le_of_ble_eq_true rfl)).trans rfl
theorem i_L_law_1412 : am_i m_L_law 1412 = some (1412, .ifCond .ne 15, 3, [], 0) := (lk_13 (Nat.le_of_ble_eq_true rfl)).trans rfl
theorem i_L_law_1415 : am_i m_L_law 1415 = some (1415, .aload_n 3, 1, [], 0) := (lk_13 (Nat.le_of_ble_eq_true rfl)).trans rfl
theorem i_L_law_1416 : am_i m_L_law 1416 = some (1416, .iconst 0, 1, [], 0) := (lk_13 (Nat.le_of_ble_eq_true rfl)).trans rfl
theorem i_L_law_1417 : am_i m_L_law 1417 = some (1417, .laload, 1, [], 0) := (lk_13 (Nat.le_of_ble_eq_true rfl)).trans rfl
theorem i_L_law_1418 : am_i m_L_law 1418 = some (1418, .iload 7, 2, [], 0) := (lk_13 (Nat.le_of_ble_eq_true rfl)).trans rfl
theorem i_L_law_1420 : am_i m_L_law 1420 = some (1420, .i2l, 1, [], 0) := (lk_13 (Nat.le_of_ble_eq_true rfl)).trans rfl
theorem i_L_law_1421 : am_i m_L_law 1421 = some (1421, .lcmp, 1, [], 0) := (lk_13 (Nat.le_of_ble_eq_true rfl)).trans rfl
theorem i_L_law_1422 : am_i m_L_law 1422 = some (1422, .ifCond .eq 5, 3, [], 0) := (lk_13 (Nat.le_of_ble_eq_true rfl)).trans rfl
theorem i_L_law_1425 : am_i m_L_law 1425 = some (1425, .iconst 0, 1, [], 0) := (lk_13 (Nat.le_of_ble_eq_true rfl)).trans rfl
theorem i_L_law_1426 : am_i m_L_law 1426 = some (1426, .ireturn, 1, [], 0) := (lk_13 (Nat.le_of_ble_eq_true rfl)).trans rfl
theorem i_L_law_1427 : am_i m_L_law 1427 = some (1427, .goto 956, 3, [], 0) := (lk_13 (Nat.le_of_ble_eq_true rfl)).trans rfl
theorem b_L_law_1397 {a0 a1 a2 a3 a4 n_a3 : Nat} {x5 x6 xs0 x6' xs0' : Int} {v7 v8 : Value} {h : am_H} (w6 : wr x6 = x6') (ws0 : wr xs0 = xs0') (k1 : K10 h a2) (n2 : gn h a3 = n_a3) (s3 : sh h a3 = (2, 3)) (g4 : ((fZ h a2 0) = x6') → (¬ (¬ x6' = 0)) → ((0 : Int) ≤ 0 ∧ 0 < (n_a3 : Int))) : rn m_L_law 1397 [.ref a0, .ref a1, .ref a2, .ref a3, .ref a4, .int (mI x5), .int (mI x6), v7, v8] [.int (mI xs0)] h = if (fZ h a2 0) = x6' then if ¬ x6' = 0 then rn m_L_law 2383 [.ref a0, .ref a1, .ref a2, .ref a3, .ref a4, .int (mI x5), .int (mI x6), .int (mI xs0), v8] [] h else if (gJ h a3 0) = xs0' then rn m_L_law 2383 [.ref a0, .ref a1, .ref a2, .ref a3, .ref a4, .int (mI x5), .int (mI x6), .int (mI xs0), v8] [] h else some (.inl (some (.int (mI 0))), h) else some (.inl (some (.int (mI 0))), h) := by
  refine (tq_istore (L' := [.ref a0, .ref a1, .ref a2, .ref a3, .ref a4, .int (mI x5), .int (mI x6), .int (mI xs0), v8]) i_L_law_1397 rfl rfl).trans ?_
  refine (tq_aload_n i_L_law_1399 rfl (isA_ref _) rfl).trans ?_
  refine (c_X12_thrown i_L_law_1400 (K10_s k1) (ltd d_L_law (by decide)) stOk_0 rfl).trans ?_
  refine (congrArg (cl _ _ _ _) (b_X12_thrown_0 k1)).trans ?_
  refine (cl_v _ _ _ _ _ _).trans ?_
  refine (tq_iload i_L_law_1403 rfl rfl).trans ?_
  refine (tq_icmp_eq (pt := 1410) i_L_law_1405 (wr_fZ _ _ _) w6 (by decide) rfl).trans ?_
  refine ite_congr rfl (fun c1 => ?_) (fun c1 => ?_)
  · refine (tq_iload i_L_law_1410 rfl rfl).trans ?_
    refine (tq_if_ne (pt := 1427) i_L_law_1412 w6 (by decide) rfl).trans ?_
    refine ite_congr rfl (fun c2 => ?_) (fun c2 => ?_)
    · refine (tq_goto (pc' := 2383) i_L_law_1427 (by decide)).trans ?_
      rfl
    · refine (tq_aload_n i_L_law_1415 rfl (isA_ref _) rfl).trans ?_
      refine (tq_iconst i_L_law_1416 rfl).trans ?_
      refine (tq_laload i_L_law_1417 s3 w_0 (g4 c1 c2).1 (lt_gn n2 (g4 c1 c2).2) rfl).trans ?_
      refine (tq_iload i_L_law_1418 rfl rfl).trans ?_
      refine (tq_i2l i_L_law_1420 ws0 rfl).trans ?_
      refine (tq_lcmp_eq (pt := 1427) i_L_law_1421 i_L_law_1422 rfl (wl_gJ _ _ _) (wl_of_wr ws0) (by decide) rfl).trans ?_
      refine ite_congr rfl (fun c3 => ?_) (fun c3 => ?_)
      · refine (tq_goto (pc' := 2383) i_L_law_1427 (by decide)).trans ?_
        rfl
      · refine (tq_iconst i_L_law_1425 rfl).trans ?_
        exact tq_ireturn i_L_law_1426 r_L_law (okB w_0 (by decide))
  · refine (tq_iconst i_L_law_1408 rfl).trans ?_
    exact tq_ireturn i_L_law_1409 r_L_law (okB w_0 (by decide))
theorem i_L_law_1430 : am_i m_L_law 1430 = some (1430, .aload_n 1, 1, [], 0) := (lk_13 (Nat.le_of_ble_eq_true rfl)).trans rfl
theorem i_L_law_1431 : am_i m_L_law 1431 = some (1431, .aload_n 0, 1, [], 0) := (lk_13 (Nat.le_of_ble_eq_true rfl)).trans rfl
theorem i_L_law_1432 : am_i m_L_law 1432 = some (1432, .iload 5, 2, [], 0) := (lk_13 (Nat.le_of_ble_eq_true rfl)).trans rfl
theorem i_L_law_1434 : am_i m_L_law 1434 = some (1434, .iconst 1, 1, [], 1) := (lk_13 (Nat.le_of_ble_eq_true rfl)).trans rfl
theorem i_L_law_1435 : am_i m_L_law 1435 = some (1435, .iadd, 1, [], 0) := (lk_13 (Nat.le_of_ble_eq_true rfl)).trans rfl
theorem i_L_law_1436 : am_i m_L_law 1436 = some (1436, .iaload, 1, [], 0) := (lk_13 (Nat.le_of_ble_eq_true rfl)).trans rfl
theorem i_L_law_1437 : am_i m_L_law 1437 = some (1437, .aload_n 0, 1, [], 0) := (lk_13 (Nat.le_of_ble_eq_true rfl)).trans rfl
theorem i_L_law_1438 : am_i m_L_law 1438 = some (1438, .iload 5, 2, [], 0) := (lk_13 (Nat.le_of_ble_eq_true rfl)).trans rfl
theorem i_L_law_1440 : am_i m_L_law 1440 = some (1440, .iconst 2, 1, [], 2) := (lk_13 (Nat.le_of_ble_eq_true rfl)).trans rfl
theorem i_L_law_1441 : am_i m_L_law 1441 = some (1441, .iadd, 1, [], 0) := (lk_14 (Nat.le_of_ble_eq_true rfl)).trans rfl
theorem i_L_law_1442 : am_i m_L_law 1442 = some (1442, .iaload, 1, [], 0) := (lk_14 (Nat.le_of_ble_eq_true rfl)).trans rfl
theorem i_L_law_1443 : am_i m_L_law 1443 = some (1443, .aload_n 0, 1, [], 0) := (lk_14 (Nat.le_of_ble_eq_true rfl)).trans rfl
theorem i_L_law_1444 : am_i m_L_law 1444 = some (1444, .iload 5, 2, [], 0) := (lk_14 (Nat.le_of_ble_eq_true rfl)).trans rfl
theorem i_L_law_1446 : am_i m_L_law 1446 = some (1446, .iconst 3, 1, [], 3) := (lk_14 (Nat.le_of_ble_eq_true rfl)).trans rfl
theorem i_L_law_1447 : am_i m_L_law 1447 = some (1447, .iadd, 1, [], 0) := (lk_14 (Nat.le_of_ble_eq_true rfl)).trans rfl
theorem i_L_law_1448 : am_i m_L_law 1448 = some (1448, .iaload, 1, [], 0) := (lk_14 (Nat.le_of_ble_eq_true rfl)).trans rfl
theorem i_L_law_1449 : am_i m_L_law 1449 = some (1449, .aload_n 3, 1, [], 0) := (lk_14 (Nat.le_of_ble_eq_true rfl)).trans rfl
theorem i_L_law_1450 : am_i m_L_law 1450 = some (1450, .invokestatic 212, 3, [247], 0) := (lk_14 (Nat.le_of_ble_eq_true rfl)).trans rfl
theorem b_L_law_1430 {a0 a1 a2 a3 a4 n_a0 : Nat} {x5 : Int} {v6 v7 v8 : Value} {h : am_H} (n1 : gn h a0 = n_a0) (s2 : sh h a0 = (1, 7)) (g3 : 0 ≤ wr (x5 + 1) ∧ wr (x5 + 1) < (n_a0 : Int)) (g4 : 0 ≤ wr (x5 + 2) ∧ wr (x5 + 2) < (n_a0 : Int)) (g5 : 0 ≤ wr (x5 + 3) ∧ wr (x5 + 3) < (n_a0 : Int)) : rn m_L_law 1430 [.ref a0, .ref a1, .ref a2, .ref a3, .ref a4, .int (mI x5), v6, v7, v8] [] h = cl m_L_law 1453 [.ref a0, .ref a1, .ref a2, .ref a3, .ref a4, .int (mI x5), v6, v7, v8] [] (rn m_L_modeAt 0 [.ref a1, .int (mI (gZ h a0 (wr (x5 + 1)))), .int (mI (gZ h a0 (wr (x5 + 2)))), .int (mI (gZ h a0 (wr (x5 + 3)))), .ref a3, am_J] [] h) := by
  refine (tq_aload_n i_L_law_1430 rfl (isA_ref _) rfl).trans ?_
  refine (tq_aload_n i_L_law_1431 rfl (isA_ref _) rfl).trans ?_
  refine (tq_iload i_L_law_1432 rfl rfl).trans ?_
  refine (tq_iconst i_L_law_1434 rfl).trans ?_
  refine (tq_iadd i_L_law_1435 rfl).trans ?_
  refine (tq_iaload i_L_law_1436 s2 (by decide) rfl g3.1 (lt_gn n1 g3.2) rfl).trans ?_
  refine (tq_aload_n i_L_law_1437 rfl (isA_ref _) rfl).trans ?_
  refine (tq_iload i_L_law_1438 rfl rfl).trans ?_
  refine (tq_iconst i_L_law_1440 rfl).trans ?_
  refine (tq_iadd i_L_law_1441 rfl).trans ?_
  refine (tq_iaload i_L_law_1442 s2 (by decide) rfl g4.1 (lt_gn n1 g4.2) rfl).trans ?_
  refine (tq_aload_n i_L_law_1443 rfl (isA_ref _) rfl).trans ?_
  refine (tq_iload i_L_law_1444 rfl rfl).trans ?_
  refine (tq_iconst i_L_law_1446 rfl).trans ?_
  refine (tq_iadd i_L_law_1447 rfl).trans ?_
  refine (tq_iaload i_L_law_1448 s2 (by decide) rfl g5.1 (lt_gn n1 g5.2) rfl).trans ?_
  refine (tq_aload_n i_L_law_1449 rfl (isA_ref _) rfl).trans ?_
  exact c_L_modeAt i_L_law_1450 (ltd d_L_law (by decide)) (isA_ref _) (isA_ref _) stOk_0 rfl
theorem i_L_law_1453 : am_i m_L_law 1453 = some (1453, .istore 6, 2, [], 0) := (lk_14 (Nat.le_of_ble_eq_true rfl)).trans rfl
theorem i_L_law_1455 : am_i m_L_law 1455 = some (1455, .aload_n 2, 1, [], 0) := (lk_14 (Nat.le_of_ble_eq_true rfl)).trans rfl
theorem i_L_law_1456 : am_i m_L_law 1456 = some (1456, .aload_n 0, 1, [], 0) := (lk_14 (Nat.le_of_ble_eq_true rfl)).trans rfl
theorem i_L_law_1457 : am_i m_L_law 1457 = some (1457, .iload 5, 2, [], 0) := (lk_14 (Nat.le_of_ble_eq_true rfl)).trans rfl
theorem i_L_law_1459 : am_i m_L_law 1459 = some (1459, .iconst 1, 1, [], 1) := (lk_14 (Nat.le_of_ble_eq_true rfl)).trans rfl
theorem i_L_law_1460 : am_i m_L_law 1460 = some (1460, .iadd, 1, [], 0) := (lk_14 (Nat.le_of_ble_eq_true rfl)).trans rfl
theorem i_L_law_1461 : am_i m_L_law 1461 = some (1461, .iaload, 1, [], 0) := (lk_14 (Nat.le_of_ble_eq_true rfl)).trans rfl
theorem i_L_law_1462 : am_i m_L_law 1462 = some (1462, .aload_n 0, 1, [], 0) := (lk_14 (Nat.le_of_ble_eq_true rfl)).trans rfl
theorem i_L_law_1463 : am_i m_L_law 1463 = some (1463, .iload 5, 2, [], 0) := (lk_14 (Nat.le_of_ble_eq_true rfl)).trans rfl
theorem i_L_law_1465 : am_i m_L_law 1465 = some (1465, .iconst 2, 1, [], 2) := (lk_14 (Nat.le_of_ble_eq_true rfl)).trans rfl
theorem i_L_law_1466 : am_i m_L_law 1466 = some (1466, .iadd, 1, [], 0) := (lk_14 (Nat.le_of_ble_eq_true rfl)).trans rfl
theorem i_L_law_1467 : am_i m_L_law 1467 = some (1467, .iaload, 1, [], 0) := (lk_14 (Nat.le_of_ble_eq_true rfl)).trans rfl
theorem i_L_law_1468 : am_i m_L_law 1468 = some (1468, .aload_n 0, 1, [], 0) := (lk_14 (Nat.le_of_ble_eq_true rfl)).trans rfl
theorem i_L_law_1469 : am_i m_L_law 1469 = some (1469, .iload 5, 2, [], 0) := (lk_14 (Nat.le_of_ble_eq_true rfl)).trans rfl
theorem i_L_law_1471 : am_i m_L_law 1471 = some (1471, .iconst 3, 1, [], 3) := (lk_14 (Nat.le_of_ble_eq_true rfl)).trans rfl
theorem i_L_law_1472 : am_i m_L_law 1472 = some (1472, .iadd, 1, [], 0) := (lk_14 (Nat.le_of_ble_eq_true rfl)).trans rfl
theorem i_L_law_1473 : am_i m_L_law 1473 = some (1473, .iaload, 1, [], 0) := (lk_14 (Nat.le_of_ble_eq_true rfl)).trans rfl
theorem i_L_law_1474 : am_i m_L_law 1474 = some (1474, .invokevirtual 214, 3, [157, 10], 0) := (lk_14 (Nat.le_of_ble_eq_true rfl)).trans rfl
theorem b_L_law_1453 {a0 a1 a2 a3 a4 n_a0 : Nat} {x5 xs0 : Int} {v6 v7 v8 : Value} {h : am_H} (n1 : gn h a0 = n_a0) (s2 : sh h a0 = (1, 7)) (g3 : 0 ≤ wr (x5 + 1) ∧ wr (x5 + 1) < (n_a0 : Int)) (g4 : 0 ≤ wr (x5 + 2) ∧ wr (x5 + 2) < (n_a0 : Int)) (g5 : 0 ≤ wr (x5 + 3) ∧ wr (x5 + 3) < (n_a0 : Int)) (k6 : K10 h a2) : rn m_L_law 1453 [.ref a0, .ref a1, .ref a2, .ref a3, .ref a4, .int (mI x5), v6, v7, v8] [.int (mI xs0)] h = cl m_L_law 1477 [.ref a0, .ref a1, .ref a2, .ref a3, .ref a4, .int (mI x5), .int (mI xs0), v7, v8] [] (rn m_X12_modeAt 0 [.ref a2, .int (mI (gZ h a0 (wr (x5 + 1)))), .int (mI (gZ h a0 (wr (x5 + 2)))), .int (mI (gZ h a0 (wr (x5 + 3))))] [] h) := by
  refine (tq_istore (L' := [.ref a0, .ref a1, .ref a2, .ref a3, .ref a4, .int (mI x5), .int (mI xs0), v7, v8]) i_L_law_1453 rfl rfl).trans ?_
  refine (tq_aload_n i_L_law_1455 rfl (isA_ref _) rfl).trans ?_
  refine (tq_aload_n i_L_law_1456 rfl (isA_ref _) rfl).trans ?_
  refine (tq_iload i_L_law_1457 rfl rfl).trans ?_
  refine (tq_iconst i_L_law_1459 rfl).trans ?_
  refine (tq_iadd i_L_law_1460 rfl).trans ?_
  refine (tq_iaload i_L_law_1461 s2 (by decide) rfl g3.1 (lt_gn n1 g3.2) rfl).trans ?_
  refine (tq_aload_n i_L_law_1462 rfl (isA_ref _) rfl).trans ?_
  refine (tq_iload i_L_law_1463 rfl rfl).trans ?_
  refine (tq_iconst i_L_law_1465 rfl).trans ?_
  refine (tq_iadd i_L_law_1466 rfl).trans ?_
  refine (tq_iaload i_L_law_1467 s2 (by decide) rfl g4.1 (lt_gn n1 g4.2) rfl).trans ?_
  refine (tq_aload_n i_L_law_1468 rfl (isA_ref _) rfl).trans ?_
  refine (tq_iload i_L_law_1469 rfl rfl).trans ?_
  refine (tq_iconst i_L_law_1471 rfl).trans ?_
  refine (tq_iadd i_L_law_1472 rfl).trans ?_
  refine (tq_iaload i_L_law_1473 s2 (by decide) rfl g5.1 (lt_gn n1 g5.2) rfl).trans ?_
  exact c_X12_modeAt i_L_law_1474 (K10_s k6) (ltd d_L_law (by decide)) stOk_0 rfl
theorem i_L_law_1477 : am_i m_L_law 1477 = some (1477, .istore 7, 2, [], 0) := (lk_14 (Nat.le_of_ble_eq_true rfl)).trans rfl
theorem i_L_law_1479 : am_i m_L_law 1479 = some (1479, .aload_n 2, 1, [], 0) := (lk_14 (Nat.le_of_ble_eq_true rfl)).trans rfl
theorem i_L_law_1480 : am_i m_L_law 1480 = some (1480, .invokevirtual 139, 3, [39, 10], 0) := (lk_14 (Nat.le_of_ble_eq_true rfl)).trans rfl
theorem i_L_law_1483 : am_i m_L_law 1483 = some (1483, .iload 6, 2, [], 0) := (lk_14 (Nat.le_of_ble_eq_true rfl)).trans rfl
theorem i_L_law_1485 : am_i m_L_law 1485 = some (1485, .if_icmp .eq 5, 3, [], 0) := (lk_14 (Nat.le_of_ble_eq_true rfl)).trans rfl
theorem i_L_law_1488 : am_i m_L_law 1488 = some (1488, .iconst 0, 1, [], 0) := (lk_14 (Nat.le_of_ble_eq_true rfl)).trans rfl
theorem i_L_law_1489 : am_i m_L_law 1489 = some (1489, .ireturn, 1, [], 0) := (lk_14 (Nat.le_of_ble_eq_true rfl)).trans rfl
theorem i_L_law_1490 : am_i m_L_law 1490 = some (1490, .iload 6, 2, [], 0) := (lk_14 (Nat.le_of_ble_eq_true rfl)).trans rfl
theorem i_L_law_1492 : am_i m_L_law 1492 = some (1492, .ifCond .ne 15, 3, [], 0) := (lk_14 (Nat.le_of_ble_eq_true rfl)).trans rfl
theorem i_L_law_1495 : am_i m_L_law 1495 = some (1495, .aload_n 3, 1, [], 0) := (lk_14 (Nat.le_of_ble_eq_true rfl)).trans rfl
theorem i_L_law_1496 : am_i m_L_law 1496 = some (1496, .iconst 0, 1, [], 0) := (lk_14 (Nat.le_of_ble_eq_true rfl)).trans rfl
theorem i_L_law_1497 : am_i m_L_law 1497 = some (1497, .laload, 1, [], 0) := (lk_14 (Nat.le_of_ble_eq_true rfl)).trans rfl
theorem i_L_law_1498 : am_i m_L_law 1498 = some (1498, .iload 7, 2, [], 0) := (lk_14 (Nat.le_of_ble_eq_true rfl)).trans rfl
theorem i_L_law_1500 : am_i m_L_law 1500 = some (1500, .i2l, 1, [], 0) := (lk_14 (Nat.le_of_ble_eq_true rfl)).trans rfl
theorem i_L_law_1501 : am_i m_L_law 1501 = some (1501, .lcmp, 1, [], 0) := (lk_14 (Nat.le_of_ble_eq_true rfl)).trans rfl
theorem i_L_law_1502 : am_i m_L_law 1502 = some (1502, .ifCond .eq 5, 3, [], 0) := (lk_14 (Nat.le_of_ble_eq_true rfl)).trans rfl
theorem i_L_law_1505 : am_i m_L_law 1505 = some (1505, .iconst 0, 1, [], 0) := (lk_14 (Nat.le_of_ble_eq_true rfl)).trans rfl
theorem i_L_law_1506 : am_i m_L_law 1506 = some (1506, .ireturn, 1, [], 0) := (lk_14 (Nat.le_of_ble_eq_true rfl)).trans rfl
theorem i_L_law_1507 : am_i m_L_law 1507 = some (1507, .goto 876, 3, [], 0) := (lk_14 (Nat.le_of_ble_eq_true rfl)).trans rfl
theorem b_L_law_1477 {a0 a1 a2 a3 a4 n_a3 : Nat} {x5 x6 xs0 x6' xs0' : Int} {v7 v8 : Value} {h : am_H} (w6 : wr x6 = x6') (ws0 : wr xs0 = xs0') (k1 : K10 h a2) (n2 : gn h a3 = n_a3) (s3 : sh h a3 = (2, 3)) (g4 : ((fZ h a2 0) = x6') → (¬ (¬ x6' = 0)) → ((0 : Int) ≤ 0 ∧ 0 < (n_a3 : Int))) : rn m_L_law 1477 [.ref a0, .ref a1, .ref a2, .ref a3, .ref a4, .int (mI x5), .int (mI x6), v7, v8] [.int (mI xs0)] h = if (fZ h a2 0) = x6' then if ¬ x6' = 0 then rn m_L_law 2383 [.ref a0, .ref a1, .ref a2, .ref a3, .ref a4, .int (mI x5), .int (mI x6), .int (mI xs0), v8] [] h else if (gJ h a3 0) = xs0' then rn m_L_law 2383 [.ref a0, .ref a1, .ref a2, .ref a3, .ref a4, .int (mI x5), .int (mI x6), .int (mI xs0), v8] [] h else some (.inl (some (.int (mI 0))), h) else some (.inl (some (.int (mI 0))), h) := by
  refine (tq_istore (L' := [.ref a0, .ref a1, .ref a2, .ref a3, .ref a4, .int (mI x5), .int (mI x6), .int (mI xs0), v8]) i_L_law_1477 rfl rfl).trans ?_
  refine (tq_aload_n i_L_law_1479 rfl (isA_ref _) rfl).trans ?_
  refine (c_X12_thrown i_L_law_1480 (K10_s k1) (ltd d_L_law (by decide)) stOk_0 rfl).trans ?_
  refine (congrArg (cl _ _ _ _) (b_X12_thrown_0 k1)).trans ?_
  refine (cl_v _ _ _ _ _ _).trans ?_
  refine (tq_iload i_L_law_1483 rfl rfl).trans ?_
  refine (tq_icmp_eq (pt := 1490) i_L_law_1485 (wr_fZ _ _ _) w6 (by decide) rfl).trans ?_
  refine ite_congr rfl (fun c1 => ?_) (fun c1 => ?_)
  · refine (tq_iload i_L_law_1490 rfl rfl).trans ?_
    refine (tq_if_ne (pt := 1507) i_L_law_1492 w6 (by decide) rfl).trans ?_
    refine ite_congr rfl (fun c2 => ?_) (fun c2 => ?_)
    · refine (tq_goto (pc' := 2383) i_L_law_1507 (by decide)).trans ?_
      rfl
    · refine (tq_aload_n i_L_law_1495 rfl (isA_ref _) rfl).trans ?_
      refine (tq_iconst i_L_law_1496 rfl).trans ?_
      refine (tq_laload i_L_law_1497 s3 w_0 (g4 c1 c2).1 (lt_gn n2 (g4 c1 c2).2) rfl).trans ?_
      refine (tq_iload i_L_law_1498 rfl rfl).trans ?_
      refine (tq_i2l i_L_law_1500 ws0 rfl).trans ?_
      refine (tq_lcmp_eq (pt := 1507) i_L_law_1501 i_L_law_1502 rfl (wl_gJ _ _ _) (wl_of_wr ws0) (by decide) rfl).trans ?_
      refine ite_congr rfl (fun c3 => ?_) (fun c3 => ?_)
      · refine (tq_goto (pc' := 2383) i_L_law_1507 (by decide)).trans ?_
        rfl
      · refine (tq_iconst i_L_law_1505 rfl).trans ?_
        exact tq_ireturn i_L_law_1506 r_L_law (okB w_0 (by decide))
  · refine (tq_iconst i_L_law_1488 rfl).trans ?_
    exact tq_ireturn i_L_law_1489 r_L_law (okB w_0 (by decide))
theorem i_L_law_1510 : am_i m_L_law 1510 = some (1510, .aload_n 1, 1, [], 0) := (lk_14 (Nat.le_of_ble_eq_true rfl)).trans rfl
theorem i_L_law_1511 : am_i m_L_law 1511 = some (1511, .aload_n 0, 1, [], 0) := (lk_14 (Nat.le_of_ble_eq_true rfl)).trans rfl
theorem i_L_law_1512 : am_i m_L_law 1512 = some (1512, .iload 5, 2, [], 0) := (lk_14 (Nat.le_of_ble_eq_true rfl)).trans rfl
theorem i_L_law_1514 : am_i m_L_law 1514 = some (1514, .iconst 1, 1, [], 1) := (lk_14 (Nat.le_of_ble_eq_true rfl)).trans rfl
theorem i_L_law_1515 : am_i m_L_law 1515 = some (1515, .iadd, 1, [], 0) := (lk_14 (Nat.le_of_ble_eq_true rfl)).trans rfl
theorem i_L_law_1516 : am_i m_L_law 1516 = some (1516, .iaload, 1, [], 0) := (lk_14 (Nat.le_of_ble_eq_true rfl)).trans rfl
theorem i_L_law_1517 : am_i m_L_law 1517 = some (1517, .aload_n 0, 1, [], 0) := (lk_14 (Nat.le_of_ble_eq_true rfl)).trans rfl
theorem i_L_law_1518 : am_i m_L_law 1518 = some (1518, .iload 5, 2, [], 0) := (lk_14 (Nat.le_of_ble_eq_true rfl)).trans rfl
theorem i_L_law_1520 : am_i m_L_law 1520 = some (1520, .iconst 2, 1, [], 2) := (lk_14 (Nat.le_of_ble_eq_true rfl)).trans rfl
theorem i_L_law_1521 : am_i m_L_law 1521 = some (1521, .iadd, 1, [], 0) := (lk_14 (Nat.le_of_ble_eq_true rfl)).trans rfl
theorem i_L_law_1522 : am_i m_L_law 1522 = some (1522, .iaload, 1, [], 0) := (lk_14 (Nat.le_of_ble_eq_true rfl)).trans rfl
theorem i_L_law_1523 : am_i m_L_law 1523 = some (1523, .aload_n 0, 1, [], 0) := (lk_14 (Nat.le_of_ble_eq_true rfl)).trans rfl
theorem i_L_law_1524 : am_i m_L_law 1524 = some (1524, .iload 5, 2, [], 0) := (lk_14 (Nat.le_of_ble_eq_true rfl)).trans rfl
theorem i_L_law_1526 : am_i m_L_law 1526 = some (1526, .iconst 3, 1, [], 3) := (lk_14 (Nat.le_of_ble_eq_true rfl)).trans rfl
theorem i_L_law_1527 : am_i m_L_law 1527 = some (1527, .iadd, 1, [], 0) := (lk_15 (Nat.le_of_ble_eq_true rfl)).trans rfl
theorem i_L_law_1528 : am_i m_L_law 1528 = some (1528, .iaload, 1, [], 0) := (lk_15 (Nat.le_of_ble_eq_true rfl)).trans rfl
theorem i_L_law_1529 : am_i m_L_law 1529 = some (1529, .aload_n 0, 1, [], 0) := (lk_15 (Nat.le_of_ble_eq_true rfl)).trans rfl
theorem i_L_law_1530 : am_i m_L_law 1530 = some (1530, .iload 5, 2, [], 0) := (lk_15 (Nat.le_of_ble_eq_true rfl)).trans rfl
theorem i_L_law_1532 : am_i m_L_law 1532 = some (1532, .iconst 4, 1, [], 4) := (lk_15 (Nat.le_of_ble_eq_true rfl)).trans rfl
theorem i_L_law_1533 : am_i m_L_law 1533 = some (1533, .iadd, 1, [], 0) := (lk_15 (Nat.le_of_ble_eq_true rfl)).trans rfl
theorem i_L_law_1534 : am_i m_L_law 1534 = some (1534, .iaload, 1, [], 0) := (lk_15 (Nat.le_of_ble_eq_true rfl)).trans rfl
theorem i_L_law_1535 : am_i m_L_law 1535 = some (1535, .ifCond .eq 7, 3, [], 0) := (lk_15 (Nat.le_of_ble_eq_true rfl)).trans rfl
theorem i_L_law_1538 : am_i m_L_law 1538 = some (1538, .iconst 1, 1, [], 1) := (lk_15 (Nat.le_of_ble_eq_true rfl)).trans rfl
theorem i_L_law_1539 : am_i m_L_law 1539 = some (1539, .goto 4, 3, [], 0) := (lk_15 (Nat.le_of_ble_eq_true rfl)).trans rfl
theorem i_L_law_1542 : am_i m_L_law 1542 = some (1542, .iconst 0, 1, [], 0) := (lk_15 (Nat.le_of_ble_eq_true rfl)).trans rfl
theorem i_L_law_1543 : am_i m_L_law 1543 = some (1543, .aload_n 3, 1, [], 0) := (lk_15 (Nat.le_of_ble_eq_true rfl)).trans rfl
theorem i_L_law_1544 : am_i m_L_law 1544 = some (1544, .invokestatic 215, 3, [253], 0) := (lk_15 (Nat.le_of_ble_eq_true rfl)).trans rfl
theorem b_L_law_1510 {a0 a1 a2 a3 a4 n_a0 : Nat} {x5 : Int} {v6 v7 v8 : Value} {h : am_H} (n1 : gn h a0 = n_a0) (s2 : sh h a0 = (1, 7)) (g3 : 0 ≤ wr (x5 + 1) ∧ wr (x5 + 1) < (n_a0 : Int)) (g4 : 0 ≤ wr (x5 + 2) ∧ wr (x5 + 2) < (n_a0 : Int)) (g5 : 0 ≤ wr (x5 + 3) ∧ wr (x5 + 3) < (n_a0 : Int)) (g6 : 0 ≤ wr (x5 + 4) ∧ wr (x5 + 4) < (n_a0 : Int)) : rn m_L_law 1510 [.ref a0, .ref a1, .ref a2, .ref a3, .ref a4, .int (mI x5), v6, v7, v8] [] h = cl m_L_law 1547 [.ref a0, .ref a1, .ref a2, .ref a3, .ref a4, .int (mI x5), v6, v7, v8] [] (rn m_L_vectorAt 0 [.ref a1, .int (mI (gZ h a0 (wr (x5 + 1)))), .int (mI (gZ h a0 (wr (x5 + 2)))), .int (mI (gZ h a0 (wr (x5 + 3)))), .int (mI (bZ (¬ ((gZ h a0 (wr (x5 + 4))) = 0)))), .ref a3, am_J] [] h) := by
  refine (tq_aload_n i_L_law_1510 rfl (isA_ref _) rfl).trans ?_
  refine (tq_aload_n i_L_law_1511 rfl (isA_ref _) rfl).trans ?_
  refine (tq_iload i_L_law_1512 rfl rfl).trans ?_
  refine (tq_iconst i_L_law_1514 rfl).trans ?_
  refine (tq_iadd i_L_law_1515 rfl).trans ?_
  refine (tq_iaload i_L_law_1516 s2 (by decide) rfl g3.1 (lt_gn n1 g3.2) rfl).trans ?_
  refine (tq_aload_n i_L_law_1517 rfl (isA_ref _) rfl).trans ?_
  refine (tq_iload i_L_law_1518 rfl rfl).trans ?_
  refine (tq_iconst i_L_law_1520 rfl).trans ?_
  refine (tq_iadd i_L_law_1521 rfl).trans ?_
  refine (tq_iaload i_L_law_1522 s2 (by decide) rfl g4.1 (lt_gn n1 g4.2) rfl).trans ?_
  refine (tq_aload_n i_L_law_1523 rfl (isA_ref _) rfl).trans ?_
  refine (tq_iload i_L_law_1524 rfl rfl).trans ?_
  refine (tq_iconst i_L_law_1526 rfl).trans ?_
  refine (tq_iadd i_L_law_1527 rfl).trans ?_
  refine (tq_iaload i_L_law_1528 s2 (by decide) rfl g5.1 (lt_gn n1 g5.2) rfl).trans ?_
  refine (tq_aload_n i_L_law_1529 rfl (isA_ref _) rfl).trans ?_
  refine (tq_iload i_L_law_1530 rfl rfl).trans ?_
  refine (tq_iconst i_L_law_1532 rfl).trans ?_
  refine (tq_iadd i_L_law_1533 rfl).trans ?_
  refine (tq_iaload i_L_law_1534 s2 (by decide) rfl g6.1 (lt_gn n1 g6.2) rfl).trans ?_
  refine (tq_if_eq (pt := 1542) i_L_law_1535 (wr_gZ _ _ _) (by decide) rfl).trans ?_
  refine Eq.trans (b := if (gZ h a0 (wr (x5 + 4))) = 0 then rn m_L_law 1543 [.ref a0, .ref a1, .ref a2, .ref a3, .ref a4, .int (mI x5), v6, v7, v8] [.int (mI 0), .int (mI (gZ h a0 (wr (x5 + 3)))), .int (mI (gZ h a0 (wr (x5 + 2)))), .int (mI (gZ h a0 (wr (x5 + 1)))), .ref a1] h else rn m_L_law 1543 [.ref a0, .ref a1, .ref a2, .ref a3, .ref a4, .int (mI x5), v6, v7, v8] [.int (mI 1), .int (mI (gZ h a0 (wr (x5 + 3)))), .int (mI (gZ h a0 (wr (x5 + 2)))), .int (mI (gZ h a0 (wr (x5 + 1)))), .ref a1] h) (ite_congr rfl (fun c1 => ?_) (fun c1 => ?_)) ?_
  · refine (tq_iconst i_L_law_1542 rfl).trans ?_
    rfl
  · refine (tq_iconst i_L_law_1538 rfl).trans ?_
    refine (tq_goto (pc' := 1543) i_L_law_1539 (by decide)).trans ?_
    rfl
  refine Eq.trans ite_b01 ?_
  refine (tq_aload_n i_L_law_1543 rfl (isA_ref _) rfl).trans ?_
  exact c_L_vectorAt i_L_law_1544 (ltd d_L_law (by decide)) (isA_ref _) (isA_ref _) stOk_0 rfl
theorem i_L_law_1547 : am_i m_L_law 1547 = some (1547, .istore 6, 2, [], 0) := (lk_15 (Nat.le_of_ble_eq_true rfl)).trans rfl
theorem i_L_law_1549 : am_i m_L_law 1549 = some (1549, .aload_n 2, 1, [], 0) := (lk_15 (Nat.le_of_ble_eq_true rfl)).trans rfl
theorem i_L_law_1550 : am_i m_L_law 1550 = some (1550, .aload_n 0, 1, [], 0) := (lk_15 (Nat.le_of_ble_eq_true rfl)).trans rfl
theorem i_L_law_1551 : am_i m_L_law 1551 = some (1551, .iload 5, 2, [], 0) := (lk_15 (Nat.le_of_ble_eq_true rfl)).trans rfl
theorem i_L_law_1553 : am_i m_L_law 1553 = some (1553, .iconst 1, 1, [], 1) := (lk_15 (Nat.le_of_ble_eq_true rfl)).trans rfl
theorem i_L_law_1554 : am_i m_L_law 1554 = some (1554, .iadd, 1, [], 0) := (lk_15 (Nat.le_of_ble_eq_true rfl)).trans rfl
theorem i_L_law_1555 : am_i m_L_law 1555 = some (1555, .iaload, 1, [], 0) := (lk_15 (Nat.le_of_ble_eq_true rfl)).trans rfl
theorem i_L_law_1556 : am_i m_L_law 1556 = some (1556, .aload_n 0, 1, [], 0) := (lk_15 (Nat.le_of_ble_eq_true rfl)).trans rfl
theorem i_L_law_1557 : am_i m_L_law 1557 = some (1557, .iload 5, 2, [], 0) := (lk_15 (Nat.le_of_ble_eq_true rfl)).trans rfl
theorem i_L_law_1559 : am_i m_L_law 1559 = some (1559, .iconst 2, 1, [], 2) := (lk_15 (Nat.le_of_ble_eq_true rfl)).trans rfl
theorem i_L_law_1560 : am_i m_L_law 1560 = some (1560, .iadd, 1, [], 0) := (lk_15 (Nat.le_of_ble_eq_true rfl)).trans rfl
theorem i_L_law_1561 : am_i m_L_law 1561 = some (1561, .iaload, 1, [], 0) := (lk_15 (Nat.le_of_ble_eq_true rfl)).trans rfl
theorem i_L_law_1562 : am_i m_L_law 1562 = some (1562, .aload_n 0, 1, [], 0) := (lk_15 (Nat.le_of_ble_eq_true rfl)).trans rfl
theorem i_L_law_1563 : am_i m_L_law 1563 = some (1563, .iload 5, 2, [], 0) := (lk_15 (Nat.le_of_ble_eq_true rfl)).trans rfl
theorem i_L_law_1565 : am_i m_L_law 1565 = some (1565, .iconst 3, 1, [], 3) := (lk_15 (Nat.le_of_ble_eq_true rfl)).trans rfl
theorem i_L_law_1566 : am_i m_L_law 1566 = some (1566, .iadd, 1, [], 0) := (lk_15 (Nat.le_of_ble_eq_true rfl)).trans rfl
theorem i_L_law_1567 : am_i m_L_law 1567 = some (1567, .iaload, 1, [], 0) := (lk_15 (Nat.le_of_ble_eq_true rfl)).trans rfl
theorem i_L_law_1568 : am_i m_L_law 1568 = some (1568, .aload_n 0, 1, [], 0) := (lk_15 (Nat.le_of_ble_eq_true rfl)).trans rfl
theorem i_L_law_1569 : am_i m_L_law 1569 = some (1569, .iload 5, 2, [], 0) := (lk_15 (Nat.le_of_ble_eq_true rfl)).trans rfl
theorem i_L_law_1571 : am_i m_L_law 1571 = some (1571, .iconst 4, 1, [], 4) := (lk_15 (Nat.le_of_ble_eq_true rfl)).trans rfl
theorem i_L_law_1572 : am_i m_L_law 1572 = some (1572, .iadd, 1, [], 0) := (lk_15 (Nat.le_of_ble_eq_true rfl)).trans rfl
theorem i_L_law_1573 : am_i m_L_law 1573 = some (1573, .iaload, 1, [], 0) := (lk_15 (Nat.le_of_ble_eq_true rfl)).trans rfl
theorem i_L_law_1574 : am_i m_L_law 1574 = some (1574, .ifCond .eq 7, 3, [], 0) := (lk_15 (Nat.le_of_ble_eq_true rfl)).trans rfl
theorem i_L_law_1577 : am_i m_L_law 1577 = some (1577, .iconst 1, 1, [], 1) := (lk_15 (Nat.le_of_ble_eq_true rfl)).trans rfl
theorem i_L_law_1578 : am_i m_L_law 1578 = some (1578, .goto 4, 3, [], 0) := (lk_15 (Nat.le_of_ble_eq_true rfl)).trans rfl
theorem i_L_law_1581 : am_i m_L_law 1581 = some (1581, .iconst 0, 1, [], 0) := (lk_15 (Nat.le_of_ble_eq_true rfl)).trans rfl
theorem i_L_law_1582 : am_i m_L_law 1582 = some (1582, .invokevirtual 218, 3, [161, 10], 0) := (lk_15 (Nat.le_of_ble_eq_true rfl)).trans rfl
theorem b_L_law_1547 {a0 a1 a2 a3 a4 n_a0 : Nat} {x5 xs0 : Int} {v6 v7 v8 : Value} {h : am_H} (n1 : gn h a0 = n_a0) (s2 : sh h a0 = (1, 7)) (g3 : 0 ≤ wr (x5 + 1) ∧ wr (x5 + 1) < (n_a0 : Int)) (g4 : 0 ≤ wr (x5 + 2) ∧ wr (x5 + 2) < (n_a0 : Int)) (g5 : 0 ≤ wr (x5 + 3) ∧ wr (x5 + 3) < (n_a0 : Int)) (g6 : 0 ≤ wr (x5 + 4) ∧ wr (x5 + 4) < (n_a0 : Int)) (k7 : K10 h a2) : rn m_L_law 1547 [.ref a0, .ref a1, .ref a2, .ref a3, .ref a4, .int (mI x5), v6, v7, v8] [.int (mI xs0)] h = cl m_L_law 1585 [.ref a0, .ref a1, .ref a2, .ref a3, .ref a4, .int (mI x5), .int (mI xs0), v7, v8] [] (rn m_X12_vectorAt 0 [.ref a2, .int (mI (gZ h a0 (wr (x5 + 1)))), .int (mI (gZ h a0 (wr (x5 + 2)))), .int (mI (gZ h a0 (wr (x5 + 3)))), .int (mI (bZ (¬ ((gZ h a0 (wr (x5 + 4))) = 0)))), am_J, am_J] [] h) := by
  refine (tq_istore (L' := [.ref a0, .ref a1, .ref a2, .ref a3, .ref a4, .int (mI x5), .int (mI xs0), v7, v8]) i_L_law_1547 rfl rfl).trans ?_
  refine (tq_aload_n i_L_law_1549 rfl (isA_ref _) rfl).trans ?_
  refine (tq_aload_n i_L_law_1550 rfl (isA_ref _) rfl).trans ?_
  refine (tq_iload i_L_law_1551 rfl rfl).trans ?_
  refine (tq_iconst i_L_law_1553 rfl).trans ?_
  refine (tq_iadd i_L_law_1554 rfl).trans ?_
  refine (tq_iaload i_L_law_1555 s2 (by decide) rfl g3.1 (lt_gn n1 g3.2) rfl).trans ?_
  refine (tq_aload_n i_L_law_1556 rfl (isA_ref _) rfl).trans ?_
  refine (tq_iload i_L_law_1557 rfl rfl).trans ?_
  refine (tq_iconst i_L_law_1559 rfl).trans ?_
  refine (tq_iadd i_L_law_1560 rfl).trans ?_
  refine (tq_iaload i_L_law_1561 s2 (by decide) rfl g4.1 (lt_gn n1 g4.2) rfl).trans ?_
  refine (tq_aload_n i_L_law_1562 rfl (isA_ref _) rfl).trans ?_
  refine (tq_iload i_L_law_1563 rfl rfl).trans ?_
  refine (tq_iconst i_L_law_1565 rfl).trans ?_
  refine (tq_iadd i_L_law_1566 rfl).trans ?_
  refine (tq_iaload i_L_law_1567 s2 (by decide) rfl g5.1 (lt_gn n1 g5.2) rfl).trans ?_
  refine (tq_aload_n i_L_law_1568 rfl (isA_ref _) rfl).trans ?_
  refine (tq_iload i_L_law_1569 rfl rfl).trans ?_
  refine (tq_iconst i_L_law_1571 rfl).trans ?_
  refine (tq_iadd i_L_law_1572 rfl).trans ?_
  refine (tq_iaload i_L_law_1573 s2 (by decide) rfl g6.1 (lt_gn n1 g6.2) rfl).trans ?_
  refine (tq_if_eq (pt := 1581) i_L_law_1574 (wr_gZ _ _ _) (by decide) rfl).trans ?_
  refine Eq.trans (b := if (gZ h a0 (wr (x5 + 4))) = 0 then rn m_L_law 1582 [.ref a0, .ref a1, .ref a2, .ref a3, .ref a4, .int (mI x5), .int (mI xs0), v7, v8] [.int (mI 0), .int (mI (gZ h a0 (wr (x5 + 3)))), .int (mI (gZ h a0 (wr (x5 + 2)))), .int (mI (gZ h a0 (wr (x5 + 1)))), .ref a2] h else rn m_L_law 1582 [.ref a0, .ref a1, .ref a2, .ref a3, .ref a4, .int (mI x5), .int (mI xs0), v7, v8] [.int (mI 1), .int (mI (gZ h a0 (wr (x5 + 3)))), .int (mI (gZ h a0 (wr (x5 + 2)))), .int (mI (gZ h a0 (wr (x5 + 1)))), .ref a2] h) (ite_congr rfl (fun c1 => ?_) (fun c1 => ?_)) ?_
  · refine (tq_iconst i_L_law_1581 rfl).trans ?_
    rfl
  · refine (tq_iconst i_L_law_1577 rfl).trans ?_
    refine (tq_goto (pc' := 1582) i_L_law_1578 (by decide)).trans ?_
    rfl
  refine Eq.trans ite_b01 ?_
  exact c_X12_vectorAt i_L_law_1582 (K10_s k7) (ltd d_L_law (by decide)) stOk_0 rfl
theorem i_L_law_1585 : am_i m_L_law 1585 = some (1585, .istore 7, 2, [], 0) := (lk_15 (Nat.le_of_ble_eq_true rfl)).trans rfl
theorem i_L_law_1587 : am_i m_L_law 1587 = some (1587, .aload_n 2, 1, [], 0) := (lk_15 (Nat.le_of_ble_eq_true rfl)).trans rfl
theorem i_L_law_1588 : am_i m_L_law 1588 = some (1588, .invokevirtual 139, 3, [39, 10], 0) := (lk_15 (Nat.le_of_ble_eq_true rfl)).trans rfl
theorem i_L_law_1591 : am_i m_L_law 1591 = some (1591, .iload 6, 2, [], 0) := (lk_15 (Nat.le_of_ble_eq_true rfl)).trans rfl
theorem i_L_law_1593 : am_i m_L_law 1593 = some (1593, .if_icmp .eq 5, 3, [], 0) := (lk_15 (Nat.le_of_ble_eq_true rfl)).trans rfl
theorem i_L_law_1596 : am_i m_L_law 1596 = some (1596, .iconst 0, 1, [], 0) := (lk_15 (Nat.le_of_ble_eq_true rfl)).trans rfl
theorem i_L_law_1597 : am_i m_L_law 1597 = some (1597, .ireturn, 1, [], 0) := (lk_15 (Nat.le_of_ble_eq_true rfl)).trans rfl
theorem i_L_law_1598 : am_i m_L_law 1598 = some (1598, .iload 6, 2, [], 0) := (lk_15 (Nat.le_of_ble_eq_true rfl)).trans rfl
theorem i_L_law_1600 : am_i m_L_law 1600 = some (1600, .ifCond .ne 15, 3, [], 0) := (lk_15 (Nat.le_of_ble_eq_true rfl)).trans rfl
theorem i_L_law_1603 : am_i m_L_law 1603 = some (1603, .aload_n 3, 1, [], 0) := (lk_15 (Nat.le_of_ble_eq_true rfl)).trans rfl
theorem i_L_law_1604 : am_i m_L_law 1604 = some (1604, .iconst 0, 1, [], 0) := (lk_15 (Nat.le_of_ble_eq_true rfl)).trans rfl
theorem i_L_law_1605 : am_i m_L_law 1605 = some (1605, .laload, 1, [], 0) := (lk_15 (Nat.le_of_ble_eq_true rfl)).trans rfl
theorem i_L_law_1606 : am_i m_L_law 1606 = some (1606, .iload 7, 2, [], 0) := (lk_15 (Nat.le_of_ble_eq_true rfl)).trans rfl
theorem i_L_law_1608 : am_i m_L_law 1608 = some (1608, .i2l, 1, [], 0) := (lk_15 (Nat.le_of_ble_eq_true rfl)).trans rfl
theorem i_L_law_1609 : am_i m_L_law 1609 = some (1609, .lcmp, 1, [], 0) := (lk_15 (Nat.le_of_ble_eq_true rfl)).trans rfl
theorem i_L_law_1610 : am_i m_L_law 1610 = some (1610, .ifCond .eq 5, 3, [], 0) := (lk_15 (Nat.le_of_ble_eq_true rfl)).trans rfl
theorem i_L_law_1613 : am_i m_L_law 1613 = some (1613, .iconst 0, 1, [], 0) := (lk_15 (Nat.le_of_ble_eq_true rfl)).trans rfl
theorem i_L_law_1614 : am_i m_L_law 1614 = some (1614, .ireturn, 1, [], 0) := (lk_15 (Nat.le_of_ble_eq_true rfl)).trans rfl
theorem i_L_law_1615 : am_i m_L_law 1615 = some (1615, .goto 768, 3, [], 0) := (lk_15 (Nat.le_of_ble_eq_true rfl)).trans rfl
theorem b_L_law_1585 {a0 a1 a2 a3 a4 n_a3 : Nat} {x5 x6 xs0 x6' xs0' : Int} {v7 v8 : Value} {h : am_H} (w6 : wr x6 = x6') (ws0 : wr xs0 = xs0') (k1 : K10 h a2) (n2 : gn h a3 = n_a3) (s3 : sh h a3 = (2, 3)) (g4 : ((fZ h a2 0) = x6') → (¬ (¬ x6' = 0)) → ((0 : Int) ≤ 0 ∧ 0 < (n_a3 : Int))) : rn m_L_law 1585 [.ref a0, .ref a1, .ref a2, .ref a3, .ref a4, .int (mI x5), .int (mI x6), v7, v8] [.int (mI xs0)] h = if (fZ h a2 0) = x6' then if ¬ x6' = 0 then rn m_L_law 2383 [.ref a0, .ref a1, .ref a2, .ref a3, .ref a4, .int (mI x5), .int (mI x6), .int (mI xs0), v8] [] h else if (gJ h a3 0) = xs0' then rn m_L_law 2383 [.ref a0, .ref a1, .ref a2, .ref a3, .ref a4, .int (mI x5), .int (mI x6), .int (mI xs0), v8] [] h else some (.inl (some (.int (mI 0))), h) else some (.inl (some (.int (mI 0))), h) := by
  refine (tq_istore (L' := [.ref a0, .ref a1, .ref a2, .ref a3, .ref a4, .int (mI x5), .int (mI x6), .int (mI xs0), v8]) i_L_law_1585 rfl rfl).trans ?_
  refine (tq_aload_n i_L_law_1587 rfl (isA_ref _) rfl).trans ?_
  refine (c_X12_thrown i_L_law_1588 (K10_s k1) (ltd d_L_law (by decide)) stOk_0 rfl).trans ?_
  refine (congrArg (cl _ _ _ _) (b_X12_thrown_0 k1)).trans ?_
  refine (cl_v _ _ _ _ _ _).trans ?_
  refine (tq_iload i_L_law_1591 rfl rfl).trans ?_
  refine (tq_icmp_eq (pt := 1598) i_L_law_1593 (wr_fZ _ _ _) w6 (by decide) rfl).trans ?_
  refine ite_congr rfl (fun c1 => ?_) (fun c1 => ?_)
  · refine (tq_iload i_L_law_1598 rfl rfl).trans ?_
    refine (tq_if_ne (pt := 1615) i_L_law_1600 w6 (by decide) rfl).trans ?_
    refine ite_congr rfl (fun c2 => ?_) (fun c2 => ?_)
    · refine (tq_goto (pc' := 2383) i_L_law_1615 (by decide)).trans ?_
      rfl
    · refine (tq_aload_n i_L_law_1603 rfl (isA_ref _) rfl).trans ?_
      refine (tq_iconst i_L_law_1604 rfl).trans ?_
      refine (tq_laload i_L_law_1605 s3 w_0 (g4 c1 c2).1 (lt_gn n2 (g4 c1 c2).2) rfl).trans ?_
      refine (tq_iload i_L_law_1606 rfl rfl).trans ?_
      refine (tq_i2l i_L_law_1608 ws0 rfl).trans ?_
      refine (tq_lcmp_eq (pt := 1615) i_L_law_1609 i_L_law_1610 rfl (wl_gJ _ _ _) (wl_of_wr ws0) (by decide) rfl).trans ?_
      refine ite_congr rfl (fun c3 => ?_) (fun c3 => ?_)
      · refine (tq_goto (pc' := 2383) i_L_law_1615 (by decide)).trans ?_
        rfl
      · refine (tq_iconst i_L_law_1613 rfl).trans ?_
        exact tq_ireturn i_L_law_1614 r_L_law (okB w_0 (by decide))
  · refine (tq_iconst i_L_law_1596 rfl).trans ?_
    exact tq_ireturn i_L_law_1597 r_L_law (okB w_0 (by decide))
theorem i_L_law_1618 : am_i m_L_law 1618 = some (1618, .aload_n 1, 1, [], 0) := (lk_15 (Nat.le_of_ble_eq_true rfl)).trans rfl
theorem i_L_law_1619 : am_i m_L_law 1619 = some (1619, .aload_n 0, 1, [], 0) := (lk_16 (Nat.le_of_ble_eq_true rfl)).trans rfl
theorem i_L_law_1620 : am_i m_L_law 1620 = some (1620, .iload 5, 2, [], 0) := (lk_16 (Nat.le_of_ble_eq_true rfl)).trans rfl
theorem i_L_law_1622 : am_i m_L_law 1622 = some (1622, .iconst 1, 1, [], 1) := (lk_16 (Nat.le_of_ble_eq_true rfl)).trans rfl
theorem i_L_law_1623 : am_i m_L_law 1623 = some (1623, .iadd, 1, [], 0) := (lk_16 (Nat.le_of_ble_eq_true rfl)).trans rfl
theorem i_L_law_1624 : am_i m_L_law 1624 = some (1624, .iaload, 1, [], 0) := (lk_16 (Nat.le_of_ble_eq_true rfl)).trans rfl
theorem i_L_law_1625 : am_i m_L_law 1625 = some (1625, .aload_n 0, 1, [], 0) := (lk_16 (Nat.le_of_ble_eq_true rfl)).trans rfl
theorem i_L_law_1626 : am_i m_L_law 1626 = some (1626, .iload 5, 2, [], 0) := (lk_16 (Nat.le_of_ble_eq_true rfl)).trans rfl
theorem i_L_law_1628 : am_i m_L_law 1628 = some (1628, .iconst 2, 1, [], 2) := (lk_16 (Nat.le_of_ble_eq_true rfl)).trans rfl
theorem i_L_law_1629 : am_i m_L_law 1629 = some (1629, .iadd, 1, [], 0) := (lk_16 (Nat.le_of_ble_eq_true rfl)).trans rfl
theorem i_L_law_1630 : am_i m_L_law 1630 = some (1630, .iaload, 1, [], 0) := (lk_16 (Nat.le_of_ble_eq_true rfl)).trans rfl
theorem i_L_law_1631 : am_i m_L_law 1631 = some (1631, .aload_n 0, 1, [], 0) := (lk_16 (Nat.le_of_ble_eq_true rfl)).trans rfl
theorem i_L_law_1632 : am_i m_L_law 1632 = some (1632, .iload 5, 2, [], 0) := (lk_16 (Nat.le_of_ble_eq_true rfl)).trans rfl
theorem i_L_law_1634 : am_i m_L_law 1634 = some (1634, .iconst 3, 1, [], 3) := (lk_16 (Nat.le_of_ble_eq_true rfl)).trans rfl
theorem i_L_law_1635 : am_i m_L_law 1635 = some (1635, .iadd, 1, [], 0) := (lk_16 (Nat.le_of_ble_eq_true rfl)).trans rfl
theorem i_L_law_1636 : am_i m_L_law 1636 = some (1636, .iaload, 1, [], 0) := (lk_16 (Nat.le_of_ble_eq_true rfl)).trans rfl
theorem i_L_law_1637 : am_i m_L_law 1637 = some (1637, .aload_n 3, 1, [], 0) := (lk_16 (Nat.le_of_ble_eq_true rfl)).trans rfl
theorem i_L_law_1638 : am_i m_L_law 1638 = some (1638, .invokestatic 219, 3, [245], 0) := (lk_16 (Nat.le_of_ble_eq_true rfl)).trans rfl
theorem b_L_law_1618 {a0 a1 a2 a3 a4 n_a0 : Nat} {x5 : Int} {v6 v7 v8 : Value} {h : am_H} (n1 : gn h a0 = n_a0) (s2 : sh h a0 = (1, 7)) (g3 : 0 ≤ wr (x5 + 1) ∧ wr (x5 + 1) < (n_a0 : Int)) (g4 : 0 ≤ wr (x5 + 2) ∧ wr (x5 + 2) < (n_a0 : Int)) (g5 : 0 ≤ wr (x5 + 3) ∧ wr (x5 + 3) < (n_a0 : Int)) : rn m_L_law 1618 [.ref a0, .ref a1, .ref a2, .ref a3, .ref a4, .int (mI x5), v6, v7, v8] [] h = cl m_L_law 1641 [.ref a0, .ref a1, .ref a2, .ref a3, .ref a4, .int (mI x5), v6, v7, v8] [] (rn m_L_levelAt 0 [.ref a1, .int (mI (gZ h a0 (wr (x5 + 1)))), .int (mI (gZ h a0 (wr (x5 + 2)))), .int (mI (gZ h a0 (wr (x5 + 3)))), .ref a3, am_J] [] h) := by
  refine (tq_aload_n i_L_law_1618 rfl (isA_ref _) rfl).trans ?_
  refine (tq_aload_n i_L_law_1619 rfl (isA_ref _) rfl).trans ?_
  refine (tq_iload i_L_law_1620 rfl rfl).trans ?_
  refine (tq_iconst i_L_law_1622 rfl).trans ?_
  refine (tq_iadd i_L_law_1623 rfl).trans ?_
  refine (tq_iaload i_L_law_1624 s2 (by decide) rfl g3.1 (lt_gn n1 g3.2) rfl).trans ?_
  refine (tq_aload_n i_L_law_1625 rfl (isA_ref _) rfl).trans ?_
  refine (tq_iload i_L_law_1626 rfl rfl).trans ?_
  refine (tq_iconst i_L_law_1628 rfl).trans ?_
  refine (tq_iadd i_L_law_1629 rfl).trans ?_
  refine (tq_iaload i_L_law_1630 s2 (by decide) rfl g4.1 (lt_gn n1 g4.2) rfl).trans ?_
  refine (tq_aload_n i_L_law_1631 rfl (isA_ref _) rfl).trans ?_
  refine (tq_iload i_L_law_1632 rfl rfl).trans ?_
  refine (tq_iconst i_L_law_1634 rfl).trans ?_
  refine (tq_iadd i_L_law_1635 rfl).trans ?_
  refine (tq_iaload i_L_law_1636 s2 (by decide) rfl g5.1 (lt_gn n1 g5.2) rfl).trans ?_
  refine (tq_aload_n i_L_law_1637 rfl (isA_ref _) rfl).trans ?_
  exact c_L_levelAt i_L_law_1638 (ltd d_L_law (by decide)) (isA_ref _) (isA_ref _) stOk_0 rfl
theorem i_L_law_1641 : am_i m_L_law 1641 = some (1641, .istore 6, 2, [], 0) := (lk_16 (Nat.le_of_ble_eq_true rfl)).trans rfl
theorem i_L_law_1643 : am_i m_L_law 1643 = some (1643, .aload_n 2, 1, [], 0) := (lk_16 (Nat.le_of_ble_eq_true rfl)).trans rfl
theorem i_L_law_1644 : am_i m_L_law 1644 = some (1644, .aload_n 0, 1, [], 0) := (lk_16 (Nat.le_of_ble_eq_true rfl)).trans rfl
theorem i_L_law_1645 : am_i m_L_law 1645 = some (1645, .iload 5, 2, [], 0) := (lk_16 (Nat.le_of_ble_eq_true rfl)).trans rfl
theorem i_L_law_1647 : am_i m_L_law 1647 = some (1647, .iconst 1, 1, [], 1) := (lk_16 (Nat.le_of_ble_eq_true rfl)).trans rfl
theorem i_L_law_1648 : am_i m_L_law 1648 = some (1648, .iadd, 1, [], 0) := (lk_16 (Nat.le_of_ble_eq_true rfl)).trans rfl
theorem i_L_law_1649 : am_i m_L_law 1649 = some (1649, .iaload, 1, [], 0) := (lk_16 (Nat.le_of_ble_eq_true rfl)).trans rfl
theorem i_L_law_1650 : am_i m_L_law 1650 = some (1650, .aload_n 0, 1, [], 0) := (lk_16 (Nat.le_of_ble_eq_true rfl)).trans rfl
theorem i_L_law_1651 : am_i m_L_law 1651 = some (1651, .iload 5, 2, [], 0) := (lk_16 (Nat.le_of_ble_eq_true rfl)).trans rfl
theorem i_L_law_1653 : am_i m_L_law 1653 = some (1653, .iconst 2, 1, [], 2) := (lk_16 (Nat.le_of_ble_eq_true rfl)).trans rfl
theorem i_L_law_1654 : am_i m_L_law 1654 = some (1654, .iadd, 1, [], 0) := (lk_16 (Nat.le_of_ble_eq_true rfl)).trans rfl
theorem i_L_law_1655 : am_i m_L_law 1655 = some (1655, .iaload, 1, [], 0) := (lk_16 (Nat.le_of_ble_eq_true rfl)).trans rfl
theorem i_L_law_1656 : am_i m_L_law 1656 = some (1656, .aload_n 0, 1, [], 0) := (lk_16 (Nat.le_of_ble_eq_true rfl)).trans rfl
theorem i_L_law_1657 : am_i m_L_law 1657 = some (1657, .iload 5, 2, [], 0) := (lk_16 (Nat.le_of_ble_eq_true rfl)).trans rfl
theorem i_L_law_1659 : am_i m_L_law 1659 = some (1659, .iconst 3, 1, [], 3) := (lk_16 (Nat.le_of_ble_eq_true rfl)).trans rfl
theorem i_L_law_1660 : am_i m_L_law 1660 = some (1660, .iadd, 1, [], 0) := (lk_16 (Nat.le_of_ble_eq_true rfl)).trans rfl
theorem i_L_law_1661 : am_i m_L_law 1661 = some (1661, .iaload, 1, [], 0) := (lk_16 (Nat.le_of_ble_eq_true rfl)).trans rfl
theorem i_L_law_1662 : am_i m_L_law 1662 = some (1662, .invokevirtual 221, 3, [156, 10], 0) := (lk_16 (Nat.le_of_ble_eq_true rfl)).trans rfl
theorem b_L_law_1641 {a0 a1 a2 a3 a4 n_a0 : Nat} {x5 xs0 : Int} {v6 v7 v8 : Value} {h : am_H} (n1 : gn h a0 = n_a0) (s2 : sh h a0 = (1, 7)) (g3 : 0 ≤ wr (x5 + 1) ∧ wr (x5 + 1) < (n_a0 : Int)) (g4 : 0 ≤ wr (x5 + 2) ∧ wr (x5 + 2) < (n_a0 : Int)) (g5 : 0 ≤ wr (x5 + 3) ∧ wr (x5 + 3) < (n_a0 : Int)) (k6 : K10 h a2) : rn m_L_law 1641 [.ref a0, .ref a1, .ref a2, .ref a3, .ref a4, .int (mI x5), v6, v7, v8] [.int (mI xs0)] h = cl m_L_law 1665 [.ref a0, .ref a1, .ref a2, .ref a3, .ref a4, .int (mI x5), .int (mI xs0), v7, v8] [] (rn m_X12_levelAt 0 [.ref a2, .int (mI (gZ h a0 (wr (x5 + 1)))), .int (mI (gZ h a0 (wr (x5 + 2)))), .int (mI (gZ h a0 (wr (x5 + 3))))] [] h) := by
  refine (tq_istore (L' := [.ref a0, .ref a1, .ref a2, .ref a3, .ref a4, .int (mI x5), .int (mI xs0), v7, v8]) i_L_law_1641 rfl rfl).trans ?_
  refine (tq_aload_n i_L_law_1643 rfl (isA_ref _) rfl).trans ?_
  refine (tq_aload_n i_L_law_1644 rfl (isA_ref _) rfl).trans ?_
  refine (tq_iload i_L_law_1645 rfl rfl).trans ?_
  refine (tq_iconst i_L_law_1647 rfl).trans ?_
  refine (tq_iadd i_L_law_1648 rfl).trans ?_
  refine (tq_iaload i_L_law_1649 s2 (by decide) rfl g3.1 (lt_gn n1 g3.2) rfl).trans ?_
  refine (tq_aload_n i_L_law_1650 rfl (isA_ref _) rfl).trans ?_
  refine (tq_iload i_L_law_1651 rfl rfl).trans ?_
  refine (tq_iconst i_L_law_1653 rfl).trans ?_
  refine (tq_iadd i_L_law_1654 rfl).trans ?_
  refine (tq_iaload i_L_law_1655 s2 (by decide) rfl g4.1 (lt_gn n1 g4.2) rfl).trans ?_
  refine (tq_aload_n i_L_law_1656 rfl (isA_ref _) rfl).trans ?_
  refine (tq_iload i_L_law_1657 rfl rfl).trans ?_
  refine (tq_iconst i_L_law_1659 rfl).trans ?_
  refine (tq_iadd i_L_law_1660 rfl).trans ?_
  refine (tq_iaload i_L_law_1661 s2 (by decide) rfl g5.1 (lt_gn n1 g5.2) rfl).trans ?_
  exact c_X12_levelAt i_L_law_1662 (K10_s k6) (ltd d_L_law (by decide)) stOk_0 rfl
theorem i_L_law_1665 : am_i m_L_law 1665 = some (1665, .istore 7, 2, [], 0) := (lk_16 (Nat.le_of_ble_eq_true rfl)).trans rfl
theorem i_L_law_1667 : am_i m_L_law 1667 = some (1667, .aload_n 2, 1, [], 0) := (lk_16 (Nat.le_of_ble_eq_true rfl)).trans rfl
theorem i_L_law_1668 : am_i m_L_law 1668 = some (1668, .invokevirtual 139, 3, [39, 10], 0) := (lk_16 (Nat.le_of_ble_eq_true rfl)).trans rfl
theorem i_L_law_1671 : am_i m_L_law 1671 = some (1671, .iload 6, 2, [], 0) := (lk_16 (Nat.le_of_ble_eq_true rfl)).trans rfl
theorem i_L_law_1673 : am_i m_L_law 1673 = some (1673, .if_icmp .eq 5, 3, [], 0) := (lk_16 (Nat.le_of_ble_eq_true rfl)).trans rfl
theorem i_L_law_1676 : am_i m_L_law 1676 = some (1676, .iconst 0, 1, [], 0) := (lk_16 (Nat.le_of_ble_eq_true rfl)).trans rfl
theorem i_L_law_1677 : am_i m_L_law 1677 = some (1677, .ireturn, 1, [], 0) := (lk_16 (Nat.le_of_ble_eq_true rfl)).trans rfl
theorem i_L_law_1678 : am_i m_L_law 1678 = some (1678, .iload 6, 2, [], 0) := (lk_16 (Nat.le_of_ble_eq_true rfl)).trans rfl
theorem i_L_law_1680 : am_i m_L_law 1680 = some (1680, .ifCond .ne 15, 3, [], 0) := (lk_16 (Nat.le_of_ble_eq_true rfl)).trans rfl
theorem i_L_law_1683 : am_i m_L_law 1683 = some (1683, .aload_n 3, 1, [], 0) := (lk_16 (Nat.le_of_ble_eq_true rfl)).trans rfl
theorem i_L_law_1684 : am_i m_L_law 1684 = some (1684, .iconst 0, 1, [], 0) := (lk_16 (Nat.le_of_ble_eq_true rfl)).trans rfl
theorem i_L_law_1685 : am_i m_L_law 1685 = some (1685, .laload, 1, [], 0) := (lk_16 (Nat.le_of_ble_eq_true rfl)).trans rfl
theorem i_L_law_1686 : am_i m_L_law 1686 = some (1686, .iload 7, 2, [], 0) := (lk_16 (Nat.le_of_ble_eq_true rfl)).trans rfl
theorem i_L_law_1688 : am_i m_L_law 1688 = some (1688, .i2l, 1, [], 0) := (lk_16 (Nat.le_of_ble_eq_true rfl)).trans rfl
theorem i_L_law_1689 : am_i m_L_law 1689 = some (1689, .lcmp, 1, [], 0) := (lk_16 (Nat.le_of_ble_eq_true rfl)).trans rfl
theorem i_L_law_1690 : am_i m_L_law 1690 = some (1690, .ifCond .eq 5, 3, [], 0) := (lk_16 (Nat.le_of_ble_eq_true rfl)).trans rfl
theorem i_L_law_1693 : am_i m_L_law 1693 = some (1693, .iconst 0, 1, [], 0) := (lk_16 (Nat.le_of_ble_eq_true rfl)).trans rfl
theorem i_L_law_1694 : am_i m_L_law 1694 = some (1694, .ireturn, 1, [], 0) := (lk_16 (Nat.le_of_ble_eq_true rfl)).trans rfl
theorem i_L_law_1695 : am_i m_L_law 1695 = some (1695, .goto 688, 3, [], 0) := (lk_16 (Nat.le_of_ble_eq_true rfl)).trans rfl
theorem b_L_law_1665 {a0 a1 a2 a3 a4 n_a3 : Nat} {x5 x6 xs0 x6' xs0' : Int} {v7 v8 : Value} {h : am_H} (w6 : wr x6 = x6') (ws0 : wr xs0 = xs0') (k1 : K10 h a2) (n2 : gn h a3 = n_a3) (s3 : sh h a3 = (2, 3)) (g4 : ((fZ h a2 0) = x6') → (¬ (¬ x6' = 0)) → ((0 : Int) ≤ 0 ∧ 0 < (n_a3 : Int))) : rn m_L_law 1665 [.ref a0, .ref a1, .ref a2, .ref a3, .ref a4, .int (mI x5), .int (mI x6), v7, v8] [.int (mI xs0)] h = if (fZ h a2 0) = x6' then if ¬ x6' = 0 then rn m_L_law 2383 [.ref a0, .ref a1, .ref a2, .ref a3, .ref a4, .int (mI x5), .int (mI x6), .int (mI xs0), v8] [] h else if (gJ h a3 0) = xs0' then rn m_L_law 2383 [.ref a0, .ref a1, .ref a2, .ref a3, .ref a4, .int (mI x5), .int (mI x6), .int (mI xs0), v8] [] h else some (.inl (some (.int (mI 0))), h) else some (.inl (some (.int (mI 0))), h) := by
  refine (tq_istore (L' := [.ref a0, .ref a1, .ref a2, .ref a3, .ref a4, .int (mI x5), .int (mI x6), .int (mI xs0), v8]) i_L_law_1665 rfl rfl).trans ?_
  refine (tq_aload_n i_L_law_1667 rfl (isA_ref _) rfl).trans ?_
  refine (c_X12_thrown i_L_law_1668 (K10_s k1) (ltd d_L_law (by decide)) stOk_0 rfl).trans ?_
  refine (congrArg (cl _ _ _ _) (b_X12_thrown_0 k1)).trans ?_
  refine (cl_v _ _ _ _ _ _).trans ?_
  refine (tq_iload i_L_law_1671 rfl rfl).trans ?_
  refine (tq_icmp_eq (pt := 1678) i_L_law_1673 (wr_fZ _ _ _) w6 (by decide) rfl).trans ?_
  refine ite_congr rfl (fun c1 => ?_) (fun c1 => ?_)
  · refine (tq_iload i_L_law_1678 rfl rfl).trans ?_
    refine (tq_if_ne (pt := 1695) i_L_law_1680 w6 (by decide) rfl).trans ?_
    refine ite_congr rfl (fun c2 => ?_) (fun c2 => ?_)
    · refine (tq_goto (pc' := 2383) i_L_law_1695 (by decide)).trans ?_
      rfl
    · refine (tq_aload_n i_L_law_1683 rfl (isA_ref _) rfl).trans ?_
      refine (tq_iconst i_L_law_1684 rfl).trans ?_
      refine (tq_laload i_L_law_1685 s3 w_0 (g4 c1 c2).1 (lt_gn n2 (g4 c1 c2).2) rfl).trans ?_
      refine (tq_iload i_L_law_1686 rfl rfl).trans ?_
      refine (tq_i2l i_L_law_1688 ws0 rfl).trans ?_
      refine (tq_lcmp_eq (pt := 1695) i_L_law_1689 i_L_law_1690 rfl (wl_gJ _ _ _) (wl_of_wr ws0) (by decide) rfl).trans ?_
      refine ite_congr rfl (fun c3 => ?_) (fun c3 => ?_)
      · refine (tq_goto (pc' := 2383) i_L_law_1695 (by decide)).trans ?_
        rfl
      · refine (tq_iconst i_L_law_1693 rfl).trans ?_
        exact tq_ireturn i_L_law_1694 r_L_law (okB w_0 (by decide))
  · refine (tq_iconst i_L_law_1676 rfl).trans ?_
    exact tq_ireturn i_L_law_1677 r_L_law (okB w_0 (by decide))
