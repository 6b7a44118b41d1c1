theorem dX11_pictureAt_9 : decode cX11_pictureAt 9 = .ok (.if_icmp .ge 12, 3) := by decide +kernel
theorem dX11_pictureAt_12 : decode cX11_pictureAt 12 = .ok (.iload_n 1, 1) := by decide +kernel
theorem dX11_pictureAt_13 : decode cX11_pictureAt 13 = .ok (.aload_n 0, 1) := by decide +kernel
theorem dX11_pictureAt_14 : decode cX11_pictureAt 14 = .ok (.getfield 39, 3) := by decide +kernel
theorem dX11_pictureAt_17 : decode cX11_pictureAt 17 = .ok (.arraylength, 1) := by decide +kernel
theorem dX11_pictureAt_18 : decode cX11_pictureAt 18 = .ok (.if_icmp .lt 14, 3) := by decide +kernel
theorem dX11_pictureAt_21 : decode cX11_pictureAt 21 = .ok (.new 155, 3) := by decide +kernel
theorem dX11_pictureAt_24 : decode cX11_pictureAt 24 = .ok (.dup, 1) := by decide +kernel
theorem dX11_pictureAt_25 : decode cX11_pictureAt 25 = .ok (.ldc_w 293, 3) := by decide +kernel
theorem dX11_pictureAt_28 : decode cX11_pictureAt 28 = .ok (.invokespecial 159, 3) := by decide +kernel
theorem dX11_pictureAt_31 : decode cX11_pictureAt 31 = .ok (.athrow, 1) := by decide +kernel
theorem dX11_pictureAt_32 : decode cX11_pictureAt 32 = .ok (.aload_n 0, 1) := by decide +kernel
theorem dX11_pictureAt_33 : decode cX11_pictureAt 33 = .ok (.getfield 39, 3) := by decide +kernel
theorem dX11_pictureAt_36 : decode cX11_pictureAt 36 = .ok (.iload_n 1, 1) := by decide +kernel
theorem dX11_pictureAt_37 : decode cX11_pictureAt 37 = .ok (.aaload, 1) := by decide +kernel
theorem dX11_pictureAt_38 : decode cX11_pictureAt 38 = .ok (.astore_n 2, 1) := by decide +kernel
theorem dX11_pictureAt_39 : decode cX11_pictureAt 39 = .ok (.aload_n 2, 1) := by decide +kernel
theorem dX11_pictureAt_40 : decode cX11_pictureAt 40 = .ok (.ifnonnull 14, 3) := by decide +kernel
theorem dX11_pictureAt_43 : decode cX11_pictureAt 43 = .ok (.new 155, 3) := by decide +kernel
theorem dX11_pictureAt_46 : decode cX11_pictureAt 46 = .ok (.dup, 1) := by decide +kernel
theorem dX11_pictureAt_47 : decode cX11_pictureAt 47 = .ok (.ldc_w 293, 3) := by decide +kernel
theorem dX11_pictureAt_50 : decode cX11_pictureAt 50 = .ok (.invokespecial 159, 3) := by decide +kernel
theorem dX11_pictureAt_53 : decode cX11_pictureAt 53 = .ok (.athrow, 1) := by decide +kernel
theorem dX11_pictureAt_54 : decode cX11_pictureAt 54 = .ok (.aload_n 2, 1) := by decide +kernel
theorem dX11_pictureAt_55 : decode cX11_pictureAt 55 = .ok (.areturn, 1) := by decide +kernel
theorem dX11_isKeptPlace_0 : decode cX11_isKeptPlace 0 = .ok (.iload_n 1, 1) := by decide +kernel
theorem dX11_isKeptPlace_1 : decode cX11_isKeptPlace 1 = .ok (.ifCond .lt 15, 3) := by decide +kernel
theorem dX11_isKeptPlace_4 : decode cX11_isKeptPlace 4 = .ok (.iload_n 1, 1) := by decide +kernel
theorem dX11_isKeptPlace_5 : decode cX11_isKeptPlace 5 = .ok (.aload_n 0, 1) := by decide +kernel
theorem dX11_isKeptPlace_6 : decode cX11_isKeptPlace 6 = .ok (.getfield 54, 3) := by decide +kernel
theorem dX11_isKeptPlace_9 : decode cX11_isKeptPlace 9 = .ok (.if_icmp .ge 7, 3) := by decide +kernel
theorem dX11_isKeptPlace_12 : decode cX11_isKeptPlace 12 = .ok (.iconst 1, 1) := by decide +kernel
theorem dX11_isKeptPlace_13 : decode cX11_isKeptPlace 13 = .ok (.goto 4, 3) := by decide +kernel
theorem dX11_isKeptPlace_16 : decode cX11_isKeptPlace 16 = .ok (.iconst 0, 1) := by decide +kernel
theorem dX11_isKeptPlace_17 : decode cX11_isKeptPlace 17 = .ok (.ireturn, 1) := by decide +kernel
theorem dX11_keptPixels_0 : decode cX11_keptPixels 0 = .ok (.aload_n 0, 1) := by decide +kernel
theorem dX11_keptPixels_1 : decode cX11_keptPixels 1 = .ok (.iload_n 1, 1) := by decide +kernel
theorem dX11_keptPixels_2 : decode cX11_keptPixels 2 = .ok (.invokevirtual 152, 3) := by decide +kernel
theorem dX11_keptPixels_5 : decode cX11_keptPixels 5 = .ok (.ifCond .eq 21, 3) := by decide +kernel
theorem dX11_keptPixels_8 : decode cX11_keptPixels 8 = .ok (.aload_n 0, 1) := by decide +kernel
theorem dX11_keptPixels_9 : decode cX11_keptPixels 9 = .ok (.aload_n 0, 1) := by decide +kernel
theorem dX11_keptPixels_10 : decode cX11_keptPixels 10 = .ok (.getfield 51, 3) := by decide +kernel
theorem dX11_keptPixels_13 : decode cX11_keptPixels 13 = .ok (.iload_n 1, 1) := by decide +kernel
theorem dX11_keptPixels_14 : decode cX11_keptPixels 14 = .ok (.invokestatic 103, 3) := by decide +kernel
theorem dX11_keptPixels_17 : decode cX11_keptPixels 17 = .ok (.invokevirtual 223, 3) := by decide +kernel
theorem dX11_keptPixels_20 : decode cX11_keptPixels 20 = .ok (.getfield 260, 3) := by decide +kernel
theorem dX11_keptPixels_23 : decode cX11_keptPixels 23 = .ok (.goto 4, 3) := by decide +kernel
theorem dX11_keptPixels_26 : decode cX11_keptPixels 26 = .ok (.aconst_null, 1) := by decide +kernel
theorem dX11_keptPixels_27 : decode cX11_keptPixels 27 = .ok (.areturn, 1) := by decide +kernel
theorem dX11_heavierThan_0 : decode cX11_heavierThan 0 = .ok (.aload_n 0, 1) := by decide +kernel
theorem dX11_heavierThan_1 : decode cX11_heavierThan 1 = .ok (.iload_n 1, 1) := by decide +kernel
theorem dX11_heavierThan_2 : decode cX11_heavierThan 2 = .ok (.invokevirtual 223, 3) := by decide +kernel
theorem dX11_heavierThan_5 : decode cX11_heavierThan 5 = .ok (.invokevirtual 308, 3) := by decide +kernel
theorem dX11_heavierThan_8 : decode cX11_heavierThan 8 = .ok (.istore_n 2, 1) := by decide +kernel
theorem dX11_heavierThan_9 : decode cX11_heavierThan 9 = .ok (.iconst 0, 1) := by decide +kernel
theorem dX11_heavierThan_10 : decode cX11_heavierThan 10 = .ok (.istore_n 3, 1) := by decide +kernel
theorem dX11_heavierThan_11 : decode cX11_heavierThan 11 = .ok (.iconst 0, 1) := by decide +kernel
theorem dX11_heavierThan_12 : decode cX11_heavierThan 12 = .ok (.istore 4, 2) := by decide +kernel
theorem dX11_heavierThan_14 : decode cX11_heavierThan 14 = .ok (.iload 4, 2) := by decide +kernel
theorem dX11_heavierThan_16 : decode cX11_heavierThan 16 = .ok (.aload_n 0, 1) := by decide +kernel
theorem dX11_heavierThan_17 : decode cX11_heavierThan 17 = .ok (.getfield 43, 3) := by decide +kernel
theorem dX11_heavierThan_20 : decode cX11_heavierThan 20 = .ok (.if_icmp .ge 41, 3) := by decide +kernel
theorem dX11_heavierThan_23 : decode cX11_heavierThan 23 = .ok (.aload_n 0, 1) := by decide +kernel
theorem dX11_heavierThan_24 : decode cX11_heavierThan 24 = .ok (.iload 4, 2) := by decide +kernel
theorem dX11_heavierThan_26 : decode cX11_heavierThan 26 = .ok (.invokevirtual 223, 3) := by decide +kernel
theorem dX11_heavierThan_29 : decode cX11_heavierThan 29 = .ok (.invokevirtual 308, 3) := by decide +kernel
theorem dX11_heavierThan_32 : decode cX11_heavierThan 32 = .ok (.istore 5, 2) := by decide +kernel
theorem dX11_heavierThan_34 : decode cX11_heavierThan 34 = .ok (.iload 5, 2) := by decide +kernel
theorem dX11_heavierThan_36 : decode cX11_heavierThan 36 = .ok (.iload_n 2, 1) := by decide +kernel
theorem dX11_heavierThan_37 : decode cX11_heavierThan 37 = .ok (.if_icmp .gt 15, 3) := by decide +kernel
theorem dX11_heavierThan_40 : decode cX11_heavierThan 40 = .ok (.iload 5, 2) := by decide +kernel
theorem dX11_heavierThan_42 : decode cX11_heavierThan 42 = .ok (.iload_n 2, 1) := by decide +kernel
theorem dX11_heavierThan_43 : decode cX11_heavierThan 43 = .ok (.if_icmp .ne 12, 3) := by decide +kernel
theorem dX11_heavierThan_46 : decode cX11_heavierThan 46 = .ok (.iload 4, 2) := by decide +kernel
theorem dX11_heavierThan_48 : decode cX11_heavierThan 48 = .ok (.iload_n 1, 1) := by decide +kernel
theorem dX11_heavierThan_49 : decode cX11_heavierThan 49 = .ok (.if_icmp .ge 6, 3) := by decide +kernel
theorem dX11_heavierThan_52 : decode cX11_heavierThan 52 = .ok (.iinc 3 1, 3) := by decide +kernel
theorem dX11_heavierThan_55 : decode cX11_heavierThan 55 = .ok (.iinc 4 1, 3) := by decide +kernel
theorem dX11_heavierThan_58 : decode cX11_heavierThan 58 = .ok (.goto (-44), 3) := by decide +kernel
theorem dX11_heavierThan_61 : decode cX11_heavierThan 61 = .ok (.iload_n 3, 1) := by decide +kernel
theorem dX11_heavierThan_62 : decode cX11_heavierThan 62 = .ok (.ireturn, 1) := by decide +kernel
theorem dX11_takeDraft_0 : decode cX11_takeDraft 0 = .ok (.aload_n 0, 1) := by decide +kernel
theorem dX11_takeDraft_1 : decode cX11_takeDraft 1 = .ok (.getfield 43, 3) := by decide +kernel
theorem dX11_takeDraft_4 : decode cX11_takeDraft 4 = .ok (.ifCond .lt 15, 3) := by decide +kernel
theorem dX11_takeDraft_7 : decode cX11_takeDraft 7 = .ok (.aload_n 0, 1) := by decide +kernel
theorem dX11_takeDraft_8 : decode cX11_takeDraft 8 = .ok (.getfield 43, 3) := by decide +kernel
theorem dX11_takeDraft_11 : decode cX11_takeDraft 11 = .ok (.aload_n 0, 1) := by decide +kernel
theorem dX11_takeDraft_12 : decode cX11_takeDraft 12 = .ok (.getfield 39, 3) := by decide +kernel
theorem dX11_takeDraft_15 : decode cX11_takeDraft 15 = .ok (.arraylength, 1) := by decide +kernel
theorem dX11_takeDraft_16 : decode cX11_takeDraft 16 = .ok (.if_icmp .lt 4, 3) := by decide +kernel
theorem dX11_takeDraft_19 : decode cX11_takeDraft 19 = .ok (.return_, 1) := by decide +kernel
theorem dX11_takeDraft_20 : decode cX11_takeDraft 20 = .ok (.aload_n 0, 1) := by decide +kernel
theorem dX11_takeDraft_21 : decode cX11_takeDraft 21 = .ok (.getfield 39, 3) := by decide +kernel
theorem dX11_takeDraft_24 : decode cX11_takeDraft 24 = .ok (.aload_n 0, 1) := by decide +kernel
theorem dX11_takeDraft_25 : decode cX11_takeDraft 25 = .ok (.getfield 43, 3) := by decide +kernel
theorem dX11_takeDraft_28 : decode cX11_takeDraft 28 = .ok (.aload_n 0, 1) := by decide +kernel
theorem dX11_takeDraft_29 : decode cX11_takeDraft 29 = .ok (.getfield 47, 3) := by decide +kernel
theorem dX11_takeDraft_32 : decode cX11_takeDraft 32 = .ok (.aastore, 1) := by decide +kernel
theorem dX11_takeDraft_33 : decode cX11_takeDraft 33 = .ok (.aload_n 0, 1) := by decide +kernel
theorem dX11_takeDraft_34 : decode cX11_takeDraft 34 = .ok (.getfield 47, 3) := by decide +kernel
theorem dX11_takeDraft_37 : decode cX11_takeDraft 37 = .ok (.getfield 329, 3) := by decide +kernel
theorem dX11_takeDraft_40 : decode cX11_takeDraft 40 = .ok (.ifCond .eq 37, 3) := by decide +kernel
theorem dX11_takeDraft_43 : decode cX11_takeDraft 43 = .ok (.aload_n 0, 1) := by decide +kernel
theorem dX11_takeDraft_44 : decode cX11_takeDraft 44 = .ok (.getfield 51, 3) := by decide +kernel
theorem dX11_takeDraft_47 : decode cX11_takeDraft 47 = .ok (.iconst 1, 1) := by decide +kernel
theorem dX11_takeDraft_48 : decode cX11_takeDraft 48 = .ok (.invokestatic 332, 3) := by decide +kernel
theorem dX11_takeDraft_51 : decode cX11_takeDraft 51 = .ok (.aload_n 0, 1) := by decide +kernel
theorem dX11_takeDraft_52 : decode cX11_takeDraft 52 = .ok (.getfield 51, 3) := by decide +kernel
theorem dX11_takeDraft_55 : decode cX11_takeDraft 55 = .ok (.iconst 0, 1) := by decide +kernel
theorem dX11_takeDraft_56 : decode cX11_takeDraft 56 = .ok (.aload_n 0, 1) := by decide +kernel
theorem dX11_takeDraft_57 : decode cX11_takeDraft 57 = .ok (.getfield 43, 3) := by decide +kernel
theorem dX11_takeDraft_60 : decode cX11_takeDraft 60 = .ok (.invokestatic 109, 3) := by decide +kernel
theorem dX11_takeDraft_63 : decode cX11_takeDraft 63 = .ok (.aload_n 0, 1) := by decide +kernel
theorem dX11_takeDraft_64 : decode cX11_takeDraft 64 = .ok (.aload_n 0, 1) := by decide +kernel
theorem dX11_takeDraft_65 : decode cX11_takeDraft 65 = .ok (.getfield 54, 3) := by decide +kernel
theorem dX11_takeDraft_68 : decode cX11_takeDraft 68 = .ok (.iconst 1, 1) := by decide +kernel
theorem dX11_takeDraft_69 : decode cX11_takeDraft 69 = .ok (.iadd, 1) := by decide +kernel
theorem dX11_takeDraft_70 : decode cX11_takeDraft 70 = .ok (.iconst 3, 1) := by decide +kernel
theorem dX11_takeDraft_71 : decode cX11_takeDraft 71 = .ok (.invokestatic 336, 3) := by decide +kernel
theorem dX11_takeDraft_74 : decode cX11_takeDraft 74 = .ok (.putfield 54, 3) := by decide +kernel
theorem dX11_takeDraft_77 : decode cX11_takeDraft 77 = .ok (.aload_n 0, 1) := by decide +kernel
theorem dX11_takeDraft_78 : decode cX11_takeDraft 78 = .ok (.dup, 1) := by decide +kernel
theorem dX11_takeDraft_79 : decode cX11_takeDraft 79 = .ok (.getfield 43, 3) := by decide +kernel
theorem dX11_takeDraft_82 : decode cX11_takeDraft 82 = .ok (.iconst 1, 1) := by decide +kernel
theorem dX11_takeDraft_83 : decode cX11_takeDraft 83 = .ok (.iadd, 1) := by decide +kernel
theorem dX11_takeDraft_84 : decode cX11_takeDraft 84 = .ok (.putfield 43, 3) := by decide +kernel
theorem dX11_takeDraft_87 : decode cX11_takeDraft 87 = .ok (.aload_n 0, 1) := by decide +kernel
theorem dX11_takeDraft_88 : decode cX11_takeDraft 88 = .ok (.new 37, 3) := by decide +kernel
theorem dX11_takeDraft_91 : decode cX11_takeDraft 91 = .ok (.dup, 1) := by decide +kernel
theorem dX11_takeDraft_92 : decode cX11_takeDraft 92 = .ok (.invokespecial 46, 3) := by decide +kernel
theorem dX11_takeDraft_95 : decode cX11_takeDraft 95 = .ok (.putfield 47, 3) := by decide +kernel
theorem dX11_takeDraft_98 : decode cX11_takeDraft 98 = .ok (.return_, 1) := by decide +kernel
theorem dL_at_0 : decode cL_at 0 = .ok (.iload_n 1, 1) := by decide +kernel
theorem dL_at_1 : decode cL_at 1 = .ok (.aload_n 0, 1) := by decide +kernel
theorem dL_at_2 : decode cL_at 2 = .ok (.arraylength, 1) := by decide +kernel
theorem dL_at_3 : decode cL_at 3 = .ok (.if_icmp .ge 9, 3) := by decide +kernel
theorem dL_at_6 : decode cL_at 6 = .ok (.aload_n 0, 1) := by decide +kernel
theorem dL_at_7 : decode cL_at 7 = .ok (.iload_n 1, 1) := by decide +kernel
theorem dL_at_8 : decode cL_at 8 = .ok (.iaload, 1) := by decide +kernel
theorem dL_at_9 : decode cL_at 9 = .ok (.goto 4, 3) := by decide +kernel
theorem dL_at_12 : decode cL_at 12 = .ok (.iconst 0, 1) := by decide +kernel
theorem dL_at_13 : decode cL_at 13 = .ok (.ireturn, 1) := by decide +kernel
theorem dL_some_0 : decode cL_some 0 = .ok (.iload_n 0, 1) := by decide +kernel
theorem dL_some_1 : decode cL_some 1 = .ok (.iload_n 1, 1) := by decide +kernel
theorem dL_some_2 : decode cL_some 2 = .ok (.irem, 1) := by decide +kernel
theorem dL_some_3 : decode cL_some 3 = .ok (.istore_n 2, 1) := by decide +kernel
theorem dL_some_4 : decode cL_some 4 = .ok (.iload_n 2, 1) := by decide +kernel
theorem dL_some_5 : decode cL_some 5 = .ok (.ifCond .ge 9, 3) := by decide +kernel
theorem dL_some_8 : decode cL_some 8 = .ok (.iload_n 2, 1) := by decide +kernel
theorem dL_some_9 : decode cL_some 9 = .ok (.iload_n 1, 1) := by decide +kernel
theorem dL_some_10 : decode cL_some 10 = .ok (.iadd, 1) := by decide +kernel
theorem dL_some_11 : decode cL_some 11 = .ok (.goto 4, 3) := by decide +kernel
theorem dL_some_14 : decode cL_some 14 = .ok (.iload_n 2, 1) := by decide +kernel
theorem dL_some_15 : decode cL_some 15 = .ok (.ireturn, 1) := by decide +kernel
theorem dL_ask_0 : decode cL_ask 0 = .ok (.iload_n 1, 1) := by decide +kernel
theorem dL_ask_1 : decode cL_ask 1 = .ok (.tableswitch 181 99 119 #[141, 123, 181, 163, 181, 147, 135, 117, 129, 168, 153, 181, 181, 181, 99, 181, 111, 105, 181, 181, 158], 99) := by decide +kernel
theorem dL_ask_100 : decode cL_ask 100 = .ok (.aload_n 0, 1) := by decide +kernel
theorem dL_ask_101 : decode cL_ask 101 = .ok (.iload_n 2, 1) := by decide +kernel
theorem dL_ask_102 : decode cL_ask 102 = .ok (.invokevirtual 7, 3) := by decide +kernel
theorem dL_ask_105 : decode cL_ask 105 = .ok (.ireturn, 1) := by decide +kernel
theorem dL_ask_106 : decode cL_ask 106 = .ok (.aload_n 0, 1) := by decide +kernel
theorem dL_ask_107 : decode cL_ask 107 = .ok (.iload_n 2, 1) := by decide +kernel
theorem dL_ask_108 : decode cL_ask 108 = .ok (.invokevirtual 13, 3) := by decide +kernel
theorem dL_ask_111 : decode cL_ask 111 = .ok (.ireturn, 1) := by decide +kernel
theorem dL_ask_112 : decode cL_ask 112 = .ok (.aload_n 0, 1) := by decide +kernel
theorem dL_ask_113 : decode cL_ask 113 = .ok (.iload_n 2, 1) := by decide +kernel
theorem dL_ask_114 : decode cL_ask 114 = .ok (.invokevirtual 16, 3) := by decide +kernel
theorem dL_ask_117 : decode cL_ask 117 = .ok (.ireturn, 1) := by decide +kernel
theorem dL_ask_118 : decode cL_ask 118 = .ok (.aload_n 0, 1) := by decide +kernel
theorem dL_ask_119 : decode cL_ask 119 = .ok (.iload_n 2, 1) := by decide +kernel
theorem dL_ask_120 : decode cL_ask 120 = .ok (.invokevirtual 19, 3) := by decide +kernel
theorem dL_ask_123 : decode cL_ask 123 = .ok (.ireturn, 1) := by decide +kernel
theorem dL_ask_124 : decode cL_ask 124 = .ok (.aload_n 0, 1) := by decide +kernel
theorem dL_ask_125 : decode cL_ask 125 = .ok (.iload_n 2, 1) := by decide +kernel
theorem dL_ask_126 : decode cL_ask 126 = .ok (.invokevirtual 22, 3) := by decide +kernel
theorem dL_ask_129 : decode cL_ask 129 = .ok (.ireturn, 1) := by decide +kernel
theorem dL_ask_130 : decode cL_ask 130 = .ok (.aload_n 0, 1) := by decide +kernel
theorem dL_ask_131 : decode cL_ask 131 = .ok (.iload_n 2, 1) := by decide +kernel
theorem dL_ask_132 : decode cL_ask 132 = .ok (.invokevirtual 26, 3) := by decide +kernel
theorem dL_ask_135 : decode cL_ask 135 = .ok (.ireturn, 1) := by decide +kernel
theorem dL_ask_136 : decode cL_ask 136 = .ok (.aload_n 0, 1) := by decide +kernel
theorem dL_ask_137 : decode cL_ask 137 = .ok (.iload_n 2, 1) := by decide +kernel
theorem dL_ask_138 : decode cL_ask 138 = .ok (.invokevirtual 29, 3) := by decide +kernel
theorem dL_ask_141 : decode cL_ask 141 = .ok (.ireturn, 1) := by decide +kernel
theorem dL_ask_142 : decode cL_ask 142 = .ok (.aload_n 0, 1) := by decide +kernel
theorem dL_ask_143 : decode cL_ask 143 = .ok (.iload_n 2, 1) := by decide +kernel
theorem dL_ask_144 : decode cL_ask 144 = .ok (.invokevirtual 32, 3) := by decide +kernel
theorem dL_ask_147 : decode cL_ask 147 = .ok (.ireturn, 1) := by decide +kernel
theorem dL_ask_148 : decode cL_ask 148 = .ok (.aload_n 0, 1) := by decide +kernel
theorem dL_ask_149 : decode cL_ask 149 = .ok (.iload_n 2, 1) := by decide +kernel
theorem dL_ask_150 : decode cL_ask 150 = .ok (.invokevirtual 35, 3) := by decide +kernel
theorem dL_ask_153 : decode cL_ask 153 = .ok (.ireturn, 1) := by decide +kernel
theorem dL_ask_154 : decode cL_ask 154 = .ok (.aload_n 0, 1) := by decide +kernel
theorem dL_ask_155 : decode cL_ask 155 = .ok (.invokevirtual 38, 3) := by decide +kernel
theorem dL_ask_158 : decode cL_ask 158 = .ok (.ireturn, 1) := by decide +kernel
theorem dL_ask_159 : decode cL_ask 159 = .ok (.aload_n 0, 1) := by decide +kernel
theorem dL_ask_160 : decode cL_ask 160 = .ok (.invokevirtual 42, 3) := by decide +kernel
theorem dL_ask_163 : decode cL_ask 163 = .ok (.ireturn, 1) := by decide +kernel
theorem dL_ask_164 : decode cL_ask 164 = .ok (.aload_n 0, 1) := by decide +kernel
theorem dL_ask_165 : decode cL_ask 165 = .ok (.invokevirtual 45, 3) := by decide +kernel
theorem dL_ask_168 : decode cL_ask 168 = .ok (.ireturn, 1) := by decide +kernel
theorem dL_ask_169 : decode cL_ask 169 = .ok (.aload_n 0, 1) := by decide +kernel
theorem dL_ask_170 : decode cL_ask 170 = .ok (.invokevirtual 48, 3) := by decide +kernel
theorem dL_ask_173 : decode cL_ask 173 = .ok (.ifCond .eq 7, 3) := by decide +kernel
theorem dL_ask_176 : decode cL_ask 176 = .ok (.iconst 1, 1) := by decide +kernel
theorem dL_ask_177 : decode cL_ask 177 = .ok (.goto 4, 3) := by decide +kernel
theorem dL_ask_180 : decode cL_ask 180 = .ok (.iconst 0, 1) := by decide +kernel
theorem dL_ask_181 : decode cL_ask 181 = .ok (.ireturn, 1) := by decide +kernel
theorem dL_ask_182 : decode cL_ask 182 = .ok (.aload_n 0, 1) := by decide +kernel
theorem dL_ask_183 : decode cL_ask 183 = .ok (.invokevirtual 52, 3) := by decide +kernel
theorem dL_ask_186 : decode cL_ask 186 = .ok (.ireturn, 1) := by decide +kernel
theorem dL_ask_187 : decode cL_ask 187 = .ok (.astore_n 3, 1) := by decide +kernel
theorem dL_ask_188 : decode cL_ask 188 = .ok (.sipush (-1001), 3) := by decide +kernel
theorem dL_ask_191 : decode cL_ask 191 = .ok (.ireturn, 1) := by decide +kernel
theorem dL_ask_192 : decode cL_ask 192 = .ok (.astore_n 3, 1) := by decide +kernel
theorem dL_ask_193 : decode cL_ask 193 = .ok (.sipush (-1002), 3) := by decide +kernel
theorem dL_ask_196 : decode cL_ask 196 = .ok (.ireturn, 1) := by decide +kernel
theorem dL_ask_197 : decode cL_ask 197 = .ok (.astore_n 3, 1) := by decide +kernel
theorem dL_ask_198 : decode cL_ask 198 = .ok (.sipush (-1005), 3) := by decide +kernel
theorem dL_ask_201 : decode cL_ask 201 = .ok (.ireturn, 1) := by decide +kernel
theorem dL_code_0 : decode cL_code 0 = .ok (.aload_n 0, 1) := by decide +kernel
theorem dL_code_1 : decode cL_code 1 = .ok (.iload_n 1, 1) := by decide +kernel
theorem dL_code_2 : decode cL_code 2 = .ok (.iload_n 2, 1) := by decide +kernel
theorem dL_code_3 : decode cL_code 3 = .ok (.iload_n 3, 1) := by decide +kernel
theorem dL_code_4 : decode cL_code 4 = .ok (.invokevirtual 61, 3) := by decide +kernel
theorem dL_code_7 : decode cL_code 7 = .ok (.ireturn, 1) := by decide +kernel
theorem dL_code_8 : decode cL_code 8 = .ok (.astore 4, 2) := by decide +kernel
theorem dL_code_10 : decode cL_code 10 = .ok (.sipush (-1001), 3) := by decide +kernel
theorem dL_code_13 : decode cL_code 13 = .ok (.ireturn, 1) := by decide +kernel
theorem dL_code_14 : decode cL_code 14 = .ok (.astore 4, 2) := by decide +kernel
theorem dL_code_16 : decode cL_code 16 = .ok (.sipush (-1002), 3) := by decide +kernel
theorem dL_code_19 : decode cL_code 19 = .ok (.ireturn, 1) := by decide +kernel
theorem dL_code_20 : decode cL_code 20 = .ok (.astore 4, 2) := by decide +kernel
theorem dL_code_22 : decode cL_code 22 = .ok (.sipush (-1003), 3) := by decide +kernel
theorem dL_code_25 : decode cL_code 25 = .ok (.ireturn, 1) := by decide +kernel
theorem dL_code_26 : decode cL_code 26 = .ok (.astore 4, 2) := by decide +kernel
theorem dL_code_28 : decode cL_code 28 = .ok (.sipush (-1004), 3) := by decide +kernel
theorem dL_code_31 : decode cL_code 31 = .ok (.ireturn, 1) := by decide +kernel
theorem dL_bucket_0 : decode cL_bucket 0 = .ok (.aload_n 0, 1) := by decide +kernel
theorem dL_bucket_1 : decode cL_bucket 1 = .ok (.iload_n 1, 1) := by decide +kernel
theorem dL_bucket_2 : decode cL_bucket 2 = .ok (.iload_n 2, 1) := by decide +kernel
theorem dL_bucket_3 : decode cL_bucket 3 = .ok (.invokevirtual 69, 3) := by decide +kernel
theorem dL_bucket_6 : decode cL_bucket 6 = .ok (.ireturn, 1) := by decide +kernel
theorem dL_bucket_7 : decode cL_bucket 7 = .ok (.astore_n 3, 1) := by decide +kernel
theorem dL_bucket_8 : decode cL_bucket 8 = .ok (.sipush (-1002), 3) := by decide +kernel
theorem dL_bucket_11 : decode cL_bucket 11 = .ok (.ireturn, 1) := by decide +kernel
theorem dL_pixel_0 : decode cL_pixel 0 = .ok (.iload_n 1, 1) := by decide +kernel
theorem dL_pixel_1 : decode cL_pixel 1 = .ok (.tableswitch 165 98 119 #[119, 103, 165, 165, 155, 165, 165, 165, 165, 165, 128, 146, 165, 165, 137, 165, 165, 165, 165, 165, 165, 111], 103) := by decide +kernel
theorem dL_pixel_104 : decode cL_pixel 104 = .ok (.aload_n 0, 1) := by decide +kernel
theorem dL_pixel_105 : decode cL_pixel 105 = .ok (.iload_n 3, 1) := by decide +kernel
theorem dL_pixel_106 : decode cL_pixel 106 = .ok (.iload 4, 2) := by decide +kernel
theorem dL_pixel_108 : decode cL_pixel 108 = .ok (.invokevirtual 73, 3) := by decide +kernel
theorem dL_pixel_111 : decode cL_pixel 111 = .ok (.ireturn, 1) := by decide +kernel
theorem dL_pixel_112 : decode cL_pixel 112 = .ok (.aload_n 0, 1) := by decide +kernel
theorem dL_pixel_113 : decode cL_pixel 113 = .ok (.iload_n 3, 1) := by decide +kernel
theorem dL_pixel_114 : decode cL_pixel 114 = .ok (.iload 4, 2) := by decide +kernel
theorem dL_pixel_116 : decode cL_pixel 116 = .ok (.invokevirtual 76, 3) := by decide +kernel
theorem dL_pixel_119 : decode cL_pixel 119 = .ok (.ireturn, 1) := by decide +kernel
theorem dL_pixel_120 : decode cL_pixel 120 = .ok (.aload_n 0, 1) := by decide +kernel
theorem dL_pixel_121 : decode cL_pixel 121 = .ok (.iload_n 2, 1) := by decide +kernel
theorem dL_pixel_122 : decode cL_pixel 122 = .ok (.iload_n 3, 1) := by decide +kernel
theorem dL_pixel_123 : decode cL_pixel 123 = .ok (.iload 4, 2) := by decide +kernel
theorem dL_pixel_125 : decode cL_pixel 125 = .ok (.invokevirtual 79, 3) := by decide +kernel
theorem dL_pixel_128 : decode cL_pixel 128 = .ok (.ireturn, 1) := by decide +kernel
theorem dL_pixel_129 : decode cL_pixel 129 = .ok (.aload_n 0, 1) := by decide +kernel
theorem dL_pixel_130 : decode cL_pixel 130 = .ok (.iload_n 2, 1) := by decide +kernel
theorem dL_pixel_131 : decode cL_pixel 131 = .ok (.iload_n 3, 1) := by decide +kernel
theorem dL_pixel_132 : decode cL_pixel 132 = .ok (.iload 4, 2) := by decide +kernel
theorem dL_pixel_134 : decode cL_pixel 134 = .ok (.invokevirtual 83, 3) := by decide +kernel
theorem dL_pixel_137 : decode cL_pixel 137 = .ok (.ireturn, 1) := by decide +kernel
theorem dL_pixel_138 : decode cL_pixel 138 = .ok (.aload_n 0, 1) := by decide +kernel
theorem dL_pixel_139 : decode cL_pixel 139 = .ok (.iload_n 2, 1) := by decide +kernel
theorem dL_pixel_140 : decode cL_pixel 140 = .ok (.iload_n 3, 1) := by decide +kernel
theorem dL_pixel_141 : decode cL_pixel 141 = .ok (.iload 4, 2) := by decide +kernel
theorem dL_pixel_143 : decode cL_pixel 143 = .ok (.invokevirtual 86, 3) := by decide +kernel
theorem dL_pixel_146 : decode cL_pixel 146 = .ok (.ireturn, 1) := by decide +kernel
theorem dL_pixel_147 : decode cL_pixel 147 = .ok (.aload_n 0, 1) := by decide +kernel
theorem dL_pixel_148 : decode cL_pixel 148 = .ok (.iload_n 2, 1) := by decide +kernel
theorem dL_pixel_149 : decode cL_pixel 149 = .ok (.iload_n 3, 1) := by decide +kernel
theorem dL_pixel_150 : decode cL_pixel 150 = .ok (.iload 4, 2) := by decide +kernel
theorem dL_pixel_152 : decode cL_pixel 152 = .ok (.invokevirtual 89, 3) := by decide +kernel
theorem dL_pixel_155 : decode cL_pixel 155 = .ok (.ireturn, 1) := by decide +kernel
theorem dL_pixel_156 : decode cL_pixel 156 = .ok (.aload_n 0, 1) := by decide +kernel
theorem dL_pixel_157 : decode cL_pixel 157 = .ok (.iload_n 2, 1) := by decide +kernel
theorem dL_pixel_158 : decode cL_pixel 158 = .ok (.iload_n 3, 1) := by decide +kernel
theorem dL_pixel_159 : decode cL_pixel 159 = .ok (.iload 4, 2) := by decide +kernel
theorem dL_pixel_161 : decode cL_pixel 161 = .ok (.iconst 0, 1) := by decide +kernel
theorem dL_pixel_162 : decode cL_pixel 162 = .ok (.invokevirtual 92, 3) := by decide +kernel
theorem dL_pixel_165 : decode cL_pixel 165 = .ok (.ireturn, 1) := by decide +kernel
theorem dL_pixel_166 : decode cL_pixel 166 = .ok (.aload_n 0, 1) := by decide +kernel
theorem dL_pixel_167 : decode cL_pixel 167 = .ok (.iload_n 2, 1) := by decide +kernel
theorem dL_pixel_168 : decode cL_pixel 168 = .ok (.iload_n 3, 1) := by decide +kernel
theorem dL_pixel_169 : decode cL_pixel 169 = .ok (.iload 4, 2) := by decide +kernel
theorem dL_pixel_171 : decode cL_pixel 171 = .ok (.iconst 1, 1) := by decide +kernel
theorem dL_pixel_172 : decode cL_pixel 172 = .ok (.invokevirtual 92, 3) := by decide +kernel
theorem dL_pixel_175 : decode cL_pixel 175 = .ok (.ireturn, 1) := by decide +kernel
theorem dL_pixel_176 : decode cL_pixel 176 = .ok (.astore 5, 2) := by decide +kernel
theorem dL_pixel_178 : decode cL_pixel 178 = .ok (.ldc 96, 2) := by decide +kernel
theorem dL_pixel_180 : decode cL_pixel 180 = .ok (.ireturn, 1) := by decide +kernel
theorem dL_pixel_181 : decode cL_pixel 181 = .ok (.astore 5, 2) := by decide +kernel
theorem dL_pixel_183 : decode cL_pixel 183 = .ok (.ldc 97, 2) := by decide +kernel
theorem dL_pixel_185 : decode cL_pixel 185 = .ok (.ireturn, 1) := by decide +kernel
theorem dL_paint_0 : decode cL_paint 0 = .ok (.iload_n 1, 1) := by decide +kernel
theorem dL_paint_1 : decode cL_paint 1 = .ok (.lookupswitch 80 #[(102, 35), (103, 69), (115, 55)], 35) := by decide +kernel
theorem dL_paint_36 : decode cL_paint 36 = .ok (.aload_n 0, 1) := by decide +kernel
theorem dL_paint_37 : decode cL_paint 37 = .ok (.aload_n 2, 1) := by decide +kernel
theorem dL_paint_38 : decode cL_paint 38 = .ok (.iconst 0, 1) := by decide +kernel
theorem dL_paint_39 : decode cL_paint 39 = .ok (.iaload, 1) := by decide +kernel
theorem dL_paint_40 : decode cL_paint 40 = .ok (.aload_n 2, 1) := by decide +kernel
theorem dL_paint_41 : decode cL_paint 41 = .ok (.iconst 1, 1) := by decide +kernel
theorem dL_paint_42 : decode cL_paint 42 = .ok (.iaload, 1) := by decide +kernel
theorem dL_paint_43 : decode cL_paint 43 = .ok (.aload_n 2, 1) := by decide +kernel
theorem dL_paint_44 : decode cL_paint 44 = .ok (.iconst 2, 1) := by decide +kernel
theorem dL_paint_45 : decode cL_paint 45 = .ok (.iaload, 1) := by decide +kernel
theorem dL_paint_46 : decode cL_paint 46 = .ok (.aload_n 2, 1) := by decide +kernel
theorem dL_paint_47 : decode cL_paint 47 = .ok (.iconst 3, 1) := by decide +kernel
theorem dL_paint_48 : decode cL_paint 48 = .ok (.iaload, 1) := by decide +kernel
theorem dL_paint_49 : decode cL_paint 49 = .ok (.aload_n 2, 1) := by decide +kernel
theorem dL_paint_50 : decode cL_paint 50 = .ok (.iconst 4, 1) := by decide +kernel
theorem dL_paint_51 : decode cL_paint 51 = .ok (.iaload, 1) := by decide +kernel
theorem dL_paint_52 : decode cL_paint 52 = .ok (.invokevirtual 104, 3) := by decide +kernel
theorem dL_paint_55 : decode cL_paint 55 = .ok (.ireturn, 1) := by decide +kernel
theorem dL_paint_56 : decode cL_paint 56 = .ok (.aload_n 0, 1) := by decide +kernel
theorem dL_paint_57 : decode cL_paint 57 = .ok (.aload_n 2, 1) := by decide +kernel
theorem dL_paint_58 : decode cL_paint 58 = .ok (.iconst 0, 1) := by decide +kernel
theorem dL_paint_59 : decode cL_paint 59 = .ok (.iaload, 1) := by decide +kernel
theorem dL_paint_60 : decode cL_paint 60 = .ok (.aload_n 2, 1) := by decide +kernel
theorem dL_paint_61 : decode cL_paint 61 = .ok (.iconst 1, 1) := by decide +kernel
theorem dL_paint_62 : decode cL_paint 62 = .ok (.iaload, 1) := by decide +kernel
theorem dL_paint_63 : decode cL_paint 63 = .ok (.aload_n 2, 1) := by decide +kernel
theorem dL_paint_64 : decode cL_paint 64 = .ok (.iconst 2, 1) := by decide +kernel
theorem dL_paint_65 : decode cL_paint 65 = .ok (.iaload, 1) := by decide +kernel
theorem dL_paint_66 : decode cL_paint 66 = .ok (.invokevirtual 108, 3) := by decide +kernel
theorem dL_paint_69 : decode cL_paint 69 = .ok (.ireturn, 1) := by decide +kernel
theorem dL_paint_70 : decode cL_paint 70 = .ok (.aload_n 0, 1) := by decide +kernel
theorem dL_paint_71 : decode cL_paint 71 = .ok (.aload_n 2, 1) := by decide +kernel
theorem dL_paint_72 : decode cL_paint 72 = .ok (.iconst 0, 1) := by decide +kernel
theorem dL_paint_73 : decode cL_paint 73 = .ok (.iaload, 1) := by decide +kernel
theorem dL_paint_74 : decode cL_paint 74 = .ok (.aload_n 2, 1) := by decide +kernel
theorem dL_paint_75 : decode cL_paint 75 = .ok (.iconst 1, 1) := by decide +kernel
theorem dL_paint_76 : decode cL_paint 76 = .ok (.iaload, 1) := by decide +kernel
theorem dL_paint_77 : decode cL_paint 77 = .ok (.invokevirtual 111, 3) := by decide +kernel
theorem dL_paint_80 : decode cL_paint 80 = .ok (.ireturn, 1) := by decide +kernel
theorem dL_paint_81 : decode cL_paint 81 = .ok (.aload_n 0, 1) := by decide +kernel
theorem dL_paint_82 : decode cL_paint 82 = .ok (.aload_n 2, 1) := by decide +kernel
theorem dL_paint_83 : decode cL_paint 83 = .ok (.iconst 0, 1) := by decide +kernel
theorem dL_paint_84 : decode cL_paint 84 = .ok (.iaload, 1) := by decide +kernel
theorem dL_paint_85 : decode cL_paint 85 = .ok (.aload_n 2, 1) := by decide +kernel
theorem dL_paint_86 : decode cL_paint 86 = .ok (.iconst 1, 1) := by decide +kernel
theorem dL_paint_87 : decode cL_paint 87 = .ok (.iaload, 1) := by decide +kernel
theorem dL_paint_88 : decode cL_paint 88 = .ok (.invokevirtual 114, 3) := by decide +kernel
theorem dL_paint_91 : decode cL_paint 91 = .ok (.ireturn, 1) := by decide +kernel
theorem dL_paint_92 : decode cL_paint 92 = .ok (.astore_n 3, 1) := by decide +kernel
theorem dL_paint_93 : decode cL_paint 93 = .ok (.ldc 117, 2) := by decide +kernel
theorem dL_paint_95 : decode cL_paint 95 = .ok (.ireturn, 1) := by decide +kernel
theorem dL_figure_0 : decode cL_figure 0 = .ok (.iload_n 1, 1) := by decide +kernel
theorem dL_figure_1 : decode cL_figure 1 = .ok (.ifCond .eq 10, 3) := by decide +kernel
theorem dL_figure_4 : decode cL_figure 4 = .ok (.aload_n 0, 1) := by decide +kernel
theorem dL_figure_5 : decode cL_figure 5 = .ok (.invokevirtual 118, 3) := by decide +kernel
theorem dL_figure_8 : decode cL_figure 8 = .ok (.goto 8, 3) := by decide +kernel
theorem dL_figure_11 : decode cL_figure 11 = .ok (.aload_n 0, 1) := by decide +kernel
theorem dL_figure_12 : decode cL_figure 12 = .ok (.invokevirtual 122, 3) := by decide +kernel
theorem dL_figure_15 : decode cL_figure 15 = .ok (.f2d, 1) := by decide +kernel
theorem dL_figure_16 : decode cL_figure 16 = .ok (.dreturn, 1) := by decide +kernel
theorem dL_figure_17 : decode cL_figure 17 = .ok (.astore_n 2, 1) := by decide +kernel
theorem dL_figure_18 : decode cL_figure 18 = .ok (.ldc2_w 128, 3) := by decide +kernel
theorem dL_figure_21 : decode cL_figure 21 = .ok (.dreturn, 1) := by decide +kernel
theorem dL_isLike_0 : decode cL_isLike 0 = .ok (.iconst 0, 1) := by decide +kernel
theorem dL_isLike_1 : decode cL_isLike 1 = .ok (.istore_n 2, 1) := by decide +kernel
theorem dL_isLike_2 : decode cL_isLike 2 = .ok (.iload_n 2, 1) := by decide +kernel
theorem dL_isLike_3 : decode cL_isLike 3 = .ok (.sipush 256, 3) := by decide +kernel
theorem dL_isLike_6 : decode cL_isLike 6 = .ok (.if_icmp .ge 32, 3) := by decide +kernel
theorem dL_isLike_9 : decode cL_isLike 9 = .ok (.aload_n 0, 1) := by decide +kernel
theorem dL_isLike_10 : decode cL_isLike 10 = .ok (.bipush 99, 2) := by decide +kernel
theorem dL_isLike_12 : decode cL_isLike 12 = .ok (.iconst 0, 1) := by decide +kernel
theorem dL_isLike_13 : decode cL_isLike 13 = .ok (.iload_n 2, 1) := by decide +kernel
theorem dL_isLike_14 : decode cL_isLike 14 = .ok (.bipush 16, 2) := by decide +kernel
theorem dL_isLike_16 : decode cL_isLike 16 = .ok (.irem, 1) := by decide +kernel
theorem dL_isLike_17 : decode cL_isLike 17 = .ok (.iload_n 2, 1) := by decide +kernel
theorem dL_isLike_18 : decode cL_isLike 18 = .ok (.bipush 16, 2) := by decide +kernel
theorem dL_isLike_20 : decode cL_isLike 20 = .ok (.idiv, 1) := by decide +kernel
theorem dL_isLike_21 : decode cL_isLike 21 = .ok (.invokestatic 137, 3) := by decide +kernel
theorem dL_isLike_24 : decode cL_isLike 24 = .ok (.aload_n 1, 1) := by decide +kernel
theorem dL_isLike_25 : decode cL_isLike 25 = .ok (.iload_n 2, 1) := by decide +kernel
theorem dL_isLike_26 : decode cL_isLike 26 = .ok (.iaload, 1) := by decide +kernel
theorem dL_isLike_27 : decode cL_isLike 27 = .ok (.if_icmp .eq 5, 3) := by decide +kernel
theorem dL_isLike_30 : decode cL_isLike 30 = .ok (.iconst 0, 1) := by decide +kernel
theorem dL_isLike_31 : decode cL_isLike 31 = .ok (.ireturn, 1) := by decide +kernel
theorem dL_isLike_32 : decode cL_isLike 32 = .ok (.iinc 2 1, 3) := by decide +kernel
theorem dL_isLike_35 : decode cL_isLike 35 = .ok (.goto (-33), 3) := by decide +kernel
theorem dL_isLike_38 : decode cL_isLike 38 = .ok (.iconst 1, 1) := by decide +kernel
theorem dL_isLike_39 : decode cL_isLike 39 = .ok (.ireturn, 1) := by decide +kernel
theorem dL_paints_0 : decode cL_paints 0 = .ok (.iload_n 1, 1) := by decide +kernel
theorem dL_paints_1 : decode cL_paints 1 = .ok (.iconst 4, 1) := by decide +kernel
theorem dL_paints_2 : decode cL_paints 2 = .ok (.idiv, 1) := by decide +kernel
theorem dL_paints_3 : decode cL_paints 3 = .ok (.istore_n 3, 1) := by decide +kernel
theorem dL_paints_4 : decode cL_paints 4 = .ok (.aload_n 2, 1) := by decide +kernel
theorem dL_paints_5 : decode cL_paints 5 = .ok (.invokevirtual 140, 3) := by decide +kernel
theorem dL_paints_8 : decode cL_paints 8 = .ok (.checkcast 141, 3) := by decide +kernel
theorem dL_paints_11 : decode cL_paints 11 = .ok (.astore 4, 2) := by decide +kernel
theorem dL_paints_13 : decode cL_paints 13 = .ok (.iconst 0, 1) := by decide +kernel
theorem dL_paints_14 : decode cL_paints 14 = .ok (.istore 5, 2) := by decide +kernel
theorem dL_paints_16 : decode cL_paints 16 = .ok (.iload_n 1, 1) := by decide +kernel
theorem dL_paints_17 : decode cL_paints 17 = .ok (.iconst 4, 1) := by decide +kernel
theorem dL_paints_18 : decode cL_paints 18 = .ok (.irem, 1) := by decide +kernel
theorem dL_paints_19 : decode cL_paints 19 = .ok (.tableswitch 363 0 2 #[25, 148, 251], 25) := by decide +kernel
theorem dL_paints_44 : decode cL_paints 44 = .ok (.iload_n 3, 1) := by decide +kernel
theorem dL_paints_45 : decode cL_paints 45 = .ok (.sipush 256, 3) := by decide +kernel
theorem dL_paints_48 : decode cL_paints 48 = .ok (.irem, 1) := by decide +kernel
theorem dL_paints_49 : decode cL_paints 49 = .ok (.istore 8, 2) := by decide +kernel
theorem dL_paints_51 : decode cL_paints 51 = .ok (.iload_n 3, 1) := by decide +kernel
theorem dL_paints_52 : decode cL_paints 52 = .ok (.sipush 256, 3) := by decide +kernel
theorem dL_paints_55 : decode cL_paints 55 = .ok (.idiv, 1) := by decide +kernel
theorem dL_paints_56 : decode cL_paints 56 = .ok (.sipush 199, 3) := by decide +kernel
theorem dL_paints_59 : decode cL_paints 59 = .ok (.irem, 1) := by decide +kernel
theorem dL_paints_60 : decode cL_paints 60 = .ok (.bipush 99, 2) := by decide +kernel
theorem dL_paints_62 : decode cL_paints 62 = .ok (.isub, 1) := by decide +kernel
theorem dL_paints_63 : decode cL_paints 63 = .ok (.istore 9, 2) := by decide +kernel
theorem dL_paints_65 : decode cL_paints 65 = .ok (.iload_n 3, 1) := by decide +kernel
theorem dL_paints_66 : decode cL_paints 66 = .ok (.ldc 146, 2) := by decide +kernel
theorem dL_paints_68 : decode cL_paints 68 = .ok (.idiv, 1) := by decide +kernel
theorem dL_paints_69 : decode cL_paints 69 = .ok (.sipush 199, 3) := by decide +kernel
theorem dL_paints_72 : decode cL_paints 72 = .ok (.irem, 1) := by decide +kernel
theorem dL_paints_73 : decode cL_paints 73 = .ok (.bipush 99, 2) := by decide +kernel
theorem dL_paints_75 : decode cL_paints 75 = .ok (.isub, 1) := by decide +kernel
theorem dL_paints_76 : decode cL_paints 76 = .ok (.istore 10, 2) := by decide +kernel
theorem dL_paints_78 : decode cL_paints 78 = .ok (.aload_n 0, 1) := by decide +kernel
theorem dL_paints_79 : decode cL_paints 79 = .ok (.bipush 115, 2) := by decide +kernel
theorem dL_paints_81 : decode cL_paints 81 = .ok (.iconst 3, 1) := by decide +kernel
theorem dL_paints_82 : decode cL_paints 82 = .ok (.newarray .int, 2) := by decide +kernel
theorem dL_paints_84 : decode cL_paints 84 = .ok (.dup, 1) := by decide +kernel
theorem dL_paints_85 : decode cL_paints 85 = .ok (.iconst 0, 1) := by decide +kernel
theorem dL_paints_86 : decode cL_paints 86 = .ok (.iload 8, 2) := by decide +kernel
theorem dL_paints_88 : decode cL_paints 88 = .ok (.iastore, 1) := by decide +kernel
theorem dL_paints_89 : decode cL_paints 89 = .ok (.dup, 1) := by decide +kernel
theorem dL_paints_90 : decode cL_paints 90 = .ok (.iconst 1, 1) := by decide +kernel
theorem dL_paints_91 : decode cL_paints 91 = .ok (.iload 9, 2) := by decide +kernel
theorem dL_paints_93 : decode cL_paints 93 = .ok (.iastore, 1) := by decide +kernel
theorem dL_paints_94 : decode cL_paints 94 = .ok (.dup, 1) := by decide +kernel
theorem dL_paints_95 : decode cL_paints 95 = .ok (.iconst 2, 1) := by decide +kernel
theorem dL_paints_96 : decode cL_paints 96 = .ok (.iload 10, 2) := by decide +kernel
theorem dL_paints_98 : decode cL_paints 98 = .ok (.iastore, 1) := by decide +kernel
theorem dL_paints_99 : decode cL_paints 99 = .ok (.invokestatic 130, 3) := by decide +kernel
theorem dL_paints_102 : decode cL_paints 102 = .ok (.istore 6, 2) := by decide +kernel
theorem dL_paints_104 : decode cL_paints 104 = .ok (.iconst 0, 1) := by decide +kernel
theorem dL_paints_105 : decode cL_paints 105 = .ok (.istore 11, 2) := by decide +kernel
theorem dL_paints_107 : decode cL_paints 107 = .ok (.iload 11, 2) := by decide +kernel
theorem dL_paints_109 : decode cL_paints 109 = .ok (.sipush 256, 3) := by decide +kernel
theorem dL_paints_112 : decode cL_paints 112 = .ok (.if_icmp .ge 45, 3) := by decide +kernel
theorem dL_paints_115 : decode cL_paints 115 = .ok (.aload_n 2, 1) := by decide +kernel
theorem dL_paints_116 : decode cL_paints 116 = .ok (.iload 11, 2) := by decide +kernel
theorem dL_paints_118 : decode cL_paints 118 = .ok (.iload 8, 2) := by decide +kernel
theorem dL_paints_120 : decode cL_paints 120 = .ok (.iload 11, 2) := by decide +kernel
theorem dL_paints_122 : decode cL_paints 122 = .ok (.bipush 16, 2) := by decide +kernel
theorem dL_paints_124 : decode cL_paints 124 = .ok (.irem, 1) := by decide +kernel
theorem dL_paints_125 : decode cL_paints 125 = .ok (.iload 9, 2) := by decide +kernel
theorem dL_paints_127 : decode cL_paints 127 = .ok (.imul, 1) := by decide +kernel
theorem dL_paints_128 : decode cL_paints 128 = .ok (.iadd, 1) := by decide +kernel
theorem dL_paints_129 : decode cL_paints 129 = .ok (.iload 11, 2) := by decide +kernel
theorem dL_paints_131 : decode cL_paints 131 = .ok (.bipush 16, 2) := by decide +kernel
theorem dL_paints_133 : decode cL_paints 133 = .ok (.idiv, 1) := by decide +kernel
theorem dL_paints_134 : decode cL_paints 134 = .ok (.iload 10, 2) := by decide +kernel
theorem dL_paints_136 : decode cL_paints 136 = .ok (.imul, 1) := by decide +kernel
theorem dL_paints_137 : decode cL_paints 137 = .ok (.iadd, 1) := by decide +kernel
theorem dL_paints_138 : decode cL_paints 138 = .ok (.sipush 256, 3) := by decide +kernel
theorem dL_paints_141 : decode cL_paints 141 = .ok (.irem, 1) := by decide +kernel
theorem dL_paints_142 : decode cL_paints 142 = .ok (.sipush 256, 3) := by decide +kernel
theorem dL_paints_145 : decode cL_paints 145 = .ok (.iadd, 1) := by decide +kernel
theorem dL_paints_146 : decode cL_paints 146 = .ok (.sipush 256, 3) := by decide +kernel
theorem dL_paints_149 : decode cL_paints 149 = .ok (.irem, 1) := by decide +kernel
theorem dL_paints_150 : decode cL_paints 150 = .ok (.iastore, 1) := by decide +kernel
theorem dL_paints_151 : decode cL_paints 151 = .ok (.iinc 11 1, 3) := by decide +kernel
theorem dL_paints_154 : decode cL_paints 154 = .ok (.goto (-47), 3) := by decide +kernel
theorem dL_paints_157 : decode cL_paints 157 = .ok (.aload_n 2, 1) := by decide +kernel
theorem dL_paints_158 : decode cL_paints 158 = .ok (.sipush 255, 3) := by decide +kernel
theorem dL_paints_161 : decode cL_paints 161 = .ok (.iaload, 1) := by decide +kernel
theorem dL_paints_162 : decode cL_paints 162 = .ok (.istore 7, 2) := by decide +kernel
theorem dL_paints_164 : decode cL_paints 164 = .ok (.goto 379, 3) := by decide +kernel
theorem dL_paints_167 : decode cL_paints 167 = .ok (.iconst 1, 1) := by decide +kernel
theorem dL_paints_168 : decode cL_paints 168 = .ok (.iload_n 3, 1) := by decide +kernel
theorem dL_paints_169 : decode cL_paints 169 = .ok (.bipush 99, 2) := by decide +kernel
theorem dL_paints_171 : decode cL_paints 171 = .ok (.irem, 1) := by decide +kernel
theorem dL_paints_172 : decode cL_paints 172 = .ok (.iadd, 1) := by decide +kernel
theorem dL_paints_173 : decode cL_paints 173 = .ok (.istore 11, 2) := by decide +kernel
theorem dL_paints_175 : decode cL_paints 175 = .ok (.aload_n 0, 1) := by decide +kernel
theorem dL_paints_176 : decode cL_paints 176 = .ok (.bipush 103, 2) := by decide +kernel
theorem dL_paints_178 : decode cL_paints 178 = .ok (.iconst 2, 1) := by decide +kernel
theorem dL_paints_179 : decode cL_paints 179 = .ok (.newarray .int, 2) := by decide +kernel
theorem dL_paints_181 : decode cL_paints 181 = .ok (.dup, 1) := by decide +kernel
theorem dL_paints_182 : decode cL_paints 182 = .ok (.iconst 0, 1) := by decide +kernel
theorem dL_paints_183 : decode cL_paints 183 = .ok (.iload_n 3, 1) := by decide +kernel
theorem dL_paints_184 : decode cL_paints 184 = .ok (.iastore, 1) := by decide +kernel
theorem dL_paints_185 : decode cL_paints 185 = .ok (.dup, 1) := by decide +kernel
theorem dL_paints_186 : decode cL_paints 186 = .ok (.iconst 1, 1) := by decide +kernel
theorem dL_paints_187 : decode cL_paints 187 = .ok (.iload 11, 2) := by decide +kernel
theorem dL_paints_189 : decode cL_paints 189 = .ok (.iastore, 1) := by decide +kernel
theorem dL_paints_190 : decode cL_paints 190 = .ok (.invokestatic 130, 3) := by decide +kernel
theorem dL_paints_193 : decode cL_paints 193 = .ok (.istore 6, 2) := by decide +kernel
theorem dL_paints_195 : decode cL_paints 195 = .ok (.iload_n 3, 1) := by decide +kernel
theorem dL_paints_196 : decode cL_paints 196 = .ok (.istore 7, 2) := by decide +kernel
theorem dL_paints_198 : decode cL_paints 198 = .ok (.iconst 0, 1) := by decide +kernel
theorem dL_paints_199 : decode cL_paints 199 = .ok (.istore 12, 2) := by decide +kernel
theorem dL_paints_201 : decode cL_paints 201 = .ok (.iload 12, 2) := by decide +kernel
theorem dL_paints_203 : decode cL_paints 203 = .ok (.sipush 256, 3) := by decide +kernel
theorem dL_paints_206 : decode cL_paints 206 = .ok (.if_icmp .ge 61, 3) := by decide +kernel
theorem dL_paints_209 : decode cL_paints 209 = .ok (.ldc 147, 2) := by decide +kernel
theorem dL_paints_211 : decode cL_paints 211 = .ok (.iload 7, 2) := by decide +kernel
theorem dL_paints_213 : decode cL_paints 213 = .ok (.imul, 1) := by decide +kernel
theorem dL_paints_214 : decode cL_paints 214 = .ok (.sipush 12345, 3) := by decide +kernel
theorem dL_paints_217 : decode cL_paints 217 = .ok (.iadd, 1) := by decide +kernel
theorem dL_paints_218 : decode cL_paints 218 = .ok (.istore 7, 2) := by decide +kernel
theorem dL_paints_220 : decode cL_paints 220 = .ok (.iload 7, 2) := by decide +kernel
theorem dL_paints_222 : decode cL_paints 222 = .ok (.bipush 16, 2) := by decide +kernel
theorem dL_paints_224 : decode cL_paints 224 = .ok (.ishr, 1) := by decide +kernel
theorem dL_paints_225 : decode cL_paints 225 = .ok (.ldc 148, 2) := by decide +kernel
theorem dL_paints_227 : decode cL_paints 227 = .ok (.iand, 1) := by decide +kernel
theorem dL_paints_228 : decode cL_paints 228 = .ok (.istore 13, 2) := by decide +kernel
theorem dL_paints_230 : decode cL_paints 230 = .ok (.aload_n 2, 1) := by decide +kernel
theorem dL_paints_231 : decode cL_paints 231 = .ok (.iload 12, 2) := by decide +kernel
theorem dL_paints_233 : decode cL_paints 233 = .ok (.iconst 0, 1) := by decide +kernel
theorem dL_paints_234 : decode cL_paints 234 = .ok (.sipush 255, 3) := by decide +kernel
theorem dL_paints_237 : decode cL_paints 237 = .ok (.aload_n 2, 1) := by decide +kernel
theorem dL_paints_238 : decode cL_paints 238 = .ok (.iload 12, 2) := by decide +kernel
theorem dL_paints_240 : decode cL_paints 240 = .ok (.iaload, 1) := by decide +kernel
theorem dL_paints_241 : decode cL_paints 241 = .ok (.iload 13, 2) := by decide +kernel
theorem dL_paints_243 : decode cL_paints 243 = .ok (.iconst 2, 1) := by decide +kernel
theorem dL_paints_244 : decode cL_paints 244 = .ok (.iload 11, 2) := by decide +kernel
theorem dL_paints_246 : decode cL_paints 246 = .ok (.imul, 1) := by decide +kernel
theorem dL_paints_247 : decode cL_paints 247 = .ok (.iconst 1, 1) := by decide +kernel
theorem dL_paints_248 : decode cL_paints 248 = .ok (.iadd, 1) := by decide +kernel
theorem dL_paints_249 : decode cL_paints 249 = .ok (.irem, 1) := by decide +kernel
theorem dL_paints_250 : decode cL_paints 250 = .ok (.iadd, 1) := by decide +kernel
theorem dL_paints_251 : decode cL_paints 251 = .ok (.iload 11, 2) := by decide +kernel
theorem dL_paints_253 : decode cL_paints 253 = .ok (.isub, 1) := by decide +kernel
theorem dL_paints_254 : decode cL_paints 254 = .ok (.invokestatic 149, 3) := by decide +kernel
theorem dL_paints_257 : decode cL_paints 257 = .ok (.invokestatic 154, 3) := by decide +kernel
theorem dL_paints_260 : decode cL_paints 260 = .ok (.iastore, 1) := by decide +kernel
theorem dL_paints_261 : decode cL_paints 261 = .ok (.iinc 12 1, 3) := by decide +kernel
theorem dL_paints_264 : decode cL_paints 264 = .ok (.goto (-63), 3) := by decide +kernel
theorem dL_paints_267 : decode cL_paints 267 = .ok (.goto 276, 3) := by decide +kernel
theorem dL_paints_270 : decode cL_paints 270 = .ok (.iload_n 3, 1) := by decide +kernel
theorem dL_paints_271 : decode cL_paints 271 = .ok (.bipush 31, 2) := by decide +kernel
theorem dL_paints_273 : decode cL_paints 273 = .ok (.irem, 1) := by decide +kernel
theorem dL_paints_274 : decode cL_paints 274 = .ok (.bipush 15, 2) := by decide +kernel
theorem dL_paints_276 : decode cL_paints 276 = .ok (.isub, 1) := by decide +kernel
theorem dL_paints_277 : decode cL_paints 277 = .ok (.istore 12, 2) := by decide +kernel
theorem dL_paints_279 : decode cL_paints 279 = .ok (.iload_n 3, 1) := by decide +kernel
theorem dL_paints_280 : decode cL_paints 280 = .ok (.bipush 31, 2) := by decide +kernel
theorem dL_paints_282 : decode cL_paints 282 = .ok (.idiv, 1) := by decide +kernel
theorem dL_paints_283 : decode cL_paints 283 = .ok (.bipush 31, 2) := by decide +kernel
theorem dL_paints_285 : decode cL_paints 285 = .ok (.irem, 1) := by decide +kernel
theorem dL_paints_286 : decode cL_paints 286 = .ok (.bipush 15, 2) := by decide +kernel
theorem dL_paints_288 : decode cL_paints 288 = .ok (.isub, 1) := by decide +kernel
theorem dL_paints_289 : decode cL_paints 289 = .ok (.istore 13, 2) := by decide +kernel
theorem dL_paints_291 : decode cL_paints 291 = .ok (.aload_n 0, 1) := by decide +kernel
theorem dL_paints_292 : decode cL_paints 292 = .ok (.bipush 109, 2) := by decide +kernel
theorem dL_paints_294 : decode cL_paints 294 = .ok (.iconst 2, 1) := by decide +kernel
theorem dL_paints_295 : decode cL_paints 295 = .ok (.newarray .int, 2) := by decide +kernel
theorem dL_paints_297 : decode cL_paints 297 = .ok (.dup, 1) := by decide +kernel
theorem dL_paints_298 : decode cL_paints 298 = .ok (.iconst 0, 1) := by decide +kernel
theorem dL_paints_299 : decode cL_paints 299 = .ok (.iload 12, 2) := by decide +kernel
theorem dL_paints_301 : decode cL_paints 301 = .ok (.iastore, 1) := by decide +kernel
theorem dL_paints_302 : decode cL_paints 302 = .ok (.dup, 1) := by decide +kernel
theorem dL_paints_303 : decode cL_paints 303 = .ok (.iconst 1, 1) := by decide +kernel
theorem dL_paints_304 : decode cL_paints 304 = .ok (.iload 13, 2) := by decide +kernel
theorem dL_paints_306 : decode cL_paints 306 = .ok (.iastore, 1) := by decide +kernel
theorem dL_paints_307 : decode cL_paints 307 = .ok (.invokestatic 130, 3) := by decide +kernel
theorem dL_paints_310 : decode cL_paints 310 = .ok (.istore 6, 2) := by decide +kernel
theorem dL_paints_312 : decode cL_paints 312 = .ok (.iconst 0, 1) := by decide +kernel
theorem dL_paints_313 : decode cL_paints 313 = .ok (.istore 14, 2) := by decide +kernel
theorem dL_paints_315 : decode cL_paints 315 = .ok (.iload 14, 2) := by decide +kernel
theorem dL_paints_317 : decode cL_paints 317 = .ok (.sipush 256, 3) := by decide +kernel
theorem dL_paints_320 : decode cL_paints 320 = .ok (.if_icmp .ge 54, 3) := by decide +kernel
theorem dL_paints_323 : decode cL_paints 323 = .ok (.aload_n 2, 1) := by decide +kernel
theorem dL_paints_324 : decode cL_paints 324 = .ok (.iload 14, 2) := by decide +kernel
theorem dL_paints_326 : decode cL_paints 326 = .ok (.aload 4, 2) := by decide +kernel
theorem dL_paints_328 : decode cL_paints 328 = .ok (.iload 14, 2) := by decide +kernel
theorem dL_paints_330 : decode cL_paints 330 = .ok (.bipush 16, 2) := by decide +kernel
theorem dL_paints_332 : decode cL_paints 332 = .ok (.idiv, 1) := by decide +kernel
theorem dL_paints_333 : decode cL_paints 333 = .ok (.iload 13, 2) := by decide +kernel
theorem dL_paints_335 : decode cL_paints 335 = .ok (.isub, 1) := by decide +kernel
theorem dL_paints_336 : decode cL_paints 336 = .ok (.bipush 16, 2) := by decide +kernel
theorem dL_paints_338 : decode cL_paints 338 = .ok (.irem, 1) := by decide +kernel
theorem dL_paints_339 : decode cL_paints 339 = .ok (.bipush 16, 2) := by decide +kernel
theorem dL_paints_341 : decode cL_paints 341 = .ok (.iadd, 1) := by decide +kernel
theorem dL_paints_342 : decode cL_paints 342 = .ok (.bipush 16, 2) := by decide +kernel
theorem dL_paints_344 : decode cL_paints 344 = .ok (.irem, 1) := by decide +kernel
theorem dL_paints_345 : decode cL_paints 345 = .ok (.bipush 16, 2) := by decide +kernel
theorem dL_paints_347 : decode cL_paints 347 = .ok (.imul, 1) := by decide +kernel
theorem dL_paints_348 : decode cL_paints 348 = .ok (.iload 14, 2) := by decide +kernel
theorem dL_paints_350 : decode cL_paints 350 = .ok (.bipush 16, 2) := by decide +kernel
theorem dL_paints_352 : decode cL_paints 352 = .ok (.irem, 1) := by decide +kernel
theorem dL_paints_353 : decode cL_paints 353 = .ok (.iload 12, 2) := by decide +kernel
theorem dL_paints_355 : decode cL_paints 355 = .ok (.isub, 1) := by decide +kernel
theorem dL_paints_356 : decode cL_paints 356 = .ok (.bipush 16, 2) := by decide +kernel
theorem dL_paints_358 : decode cL_paints 358 = .ok (.irem, 1) := by decide +kernel
theorem dL_paints_359 : decode cL_paints 359 = .ok (.bipush 16, 2) := by decide +kernel
theorem dL_paints_361 : decode cL_paints 361 = .ok (.iadd, 1) := by decide +kernel
theorem dL_paints_362 : decode cL_paints 362 = .ok (.bipush 16, 2) := by decide +kernel
theorem dL_paints_364 : decode cL_paints 364 = .ok (.irem, 1) := by decide +kernel
theorem dL_paints_365 : decode cL_paints 365 = .ok (.iadd, 1) := by decide +kernel
theorem dL_paints_366 : decode cL_paints 366 = .ok (.iaload, 1) := by decide +kernel
theorem dL_paints_367 : decode cL_paints 367 = .ok (.iastore, 1) := by decide +kernel
theorem dL_paints_368 : decode cL_paints 368 = .ok (.iinc 14 1, 3) := by decide +kernel
theorem dL_paints_371 : decode cL_paints 371 = .ok (.goto (-56), 3) := by decide +kernel
theorem dL_paints_374 : decode cL_paints 374 = .ok (.aload_n 2, 1) := by decide +kernel
theorem dL_paints_375 : decode cL_paints 375 = .ok (.iconst 0, 1) := by decide +kernel
theorem dL_paints_376 : decode cL_paints 376 = .ok (.iaload, 1) := by decide +kernel
theorem dL_paints_377 : decode cL_paints 377 = .ok (.istore 7, 2) := by decide +kernel
theorem dL_paints_379 : decode cL_paints 379 = .ok (.goto 164, 3) := by decide +kernel
theorem dL_paints_382 : decode cL_paints 382 = .ok (.iload_n 3, 1) := by decide +kernel
theorem dL_paints_383 : decode cL_paints 383 = .ok (.bipush 16, 2) := by decide +kernel
theorem dL_paints_385 : decode cL_paints 385 = .ok (.irem, 1) := by decide +kernel
theorem dL_paints_386 : decode cL_paints 386 = .ok (.istore 14, 2) := by decide +kernel
theorem dL_paints_388 : decode cL_paints 388 = .ok (.iload_n 3, 1) := by decide +kernel
theorem dL_paints_389 : decode cL_paints 389 = .ok (.bipush 16, 2) := by decide +kernel
theorem dL_paints_391 : decode cL_paints 391 = .ok (.idiv, 1) := by decide +kernel
theorem dL_paints_392 : decode cL_paints 392 = .ok (.bipush 16, 2) := by decide +kernel
theorem dL_paints_394 : decode cL_paints 394 = .ok (.irem, 1) := by decide +kernel
theorem dL_paints_395 : decode cL_paints 395 = .ok (.istore 15, 2) := by decide +kernel
theorem dL_paints_397 : decode cL_paints 397 = .ok (.iconst 1, 1) := by decide +kernel
theorem dL_paints_398 : decode cL_paints 398 = .ok (.iload_n 3, 1) := by decide +kernel
theorem dL_paints_399 : decode cL_paints 399 = .ok (.sipush 256, 3) := by decide +kernel
theorem dL_paints_402 : decode cL_paints 402 = .ok (.idiv, 1) := by decide +kernel
theorem dL_paints_403 : decode cL_paints 403 = .ok (.bipush 16, 2) := by decide +kernel
theorem dL_paints_405 : decode cL_paints 405 = .ok (.iload 14, 2) := by decide +kernel
theorem dL_paints_407 : decode cL_paints 407 = .ok (.isub, 1) := by decide +kernel
theorem dL_paints_408 : decode cL_paints 408 = .ok (.irem, 1) := by decide +kernel
theorem dL_paints_409 : decode cL_paints 409 = .ok (.iadd, 1) := by decide +kernel
theorem dL_paints_410 : decode cL_paints 410 = .ok (.istore 16, 2) := by decide +kernel
theorem dL_paints_412 : decode cL_paints 412 = .ok (.iconst 1, 1) := by decide +kernel
theorem dL_paints_413 : decode cL_paints 413 = .ok (.iload_n 3, 1) := by decide +kernel
theorem dL_paints_414 : decode cL_paints 414 = .ok (.sipush 4096, 3) := by decide +kernel
theorem dL_paints_417 : decode cL_paints 417 = .ok (.idiv, 1) := by decide +kernel
theorem dL_paints_418 : decode cL_paints 418 = .ok (.bipush 16, 2) := by decide +kernel
theorem dL_paints_420 : decode cL_paints 420 = .ok (.iload 15, 2) := by decide +kernel
theorem dL_paints_422 : decode cL_paints 422 = .ok (.isub, 1) := by decide +kernel
theorem dL_paints_423 : decode cL_paints 423 = .ok (.irem, 1) := by decide +kernel
theorem dL_paints_424 : decode cL_paints 424 = .ok (.iadd, 1) := by decide +kernel
theorem dL_paints_425 : decode cL_paints 425 = .ok (.istore 17, 2) := by decide +kernel
theorem dL_paints_427 : decode cL_paints 427 = .ok (.iload_n 3, 1) := by decide +kernel
theorem dL_paints_428 : decode cL_paints 428 = .ok (.ldc 157, 2) := by decide +kernel
theorem dL_paints_430 : decode cL_paints 430 = .ok (.idiv, 1) := by decide +kernel
theorem dL_paints_431 : decode cL_paints 431 = .ok (.sipush 256, 3) := by decide +kernel
theorem dL_paints_434 : decode cL_paints 434 = .ok (.irem, 1) := by decide +kernel
theorem dL_paints_435 : decode cL_paints 435 = .ok (.istore 18, 2) := by decide +kernel
theorem dL_paints_437 : decode cL_paints 437 = .ok (.aload_n 0, 1) := by decide +kernel
theorem dL_paints_438 : decode cL_paints 438 = .ok (.bipush 102, 2) := by decide +kernel
theorem dL_paints_440 : decode cL_paints 440 = .ok (.iconst 5, 1) := by decide +kernel
theorem dL_paints_441 : decode cL_paints 441 = .ok (.newarray .int, 2) := by decide +kernel
theorem dL_paints_443 : decode cL_paints 443 = .ok (.dup, 1) := by decide +kernel
theorem dL_paints_444 : decode cL_paints 444 = .ok (.iconst 0, 1) := by decide +kernel
theorem dL_paints_445 : decode cL_paints 445 = .ok (.iload 14, 2) := by decide +kernel
theorem dL_paints_447 : decode cL_paints 447 = .ok (.iastore, 1) := by decide +kernel
theorem dL_paints_448 : decode cL_paints 448 = .ok (.dup, 1) := by decide +kernel
theorem dL_paints_449 : decode cL_paints 449 = .ok (.iconst 1, 1) := by decide +kernel
theorem dL_paints_450 : decode cL_paints 450 = .ok (.iload 15, 2) := by decide +kernel
theorem dL_paints_452 : decode cL_paints 452 = .ok (.iastore, 1) := by decide +kernel
theorem dL_paints_453 : decode cL_paints 453 = .ok (.dup, 1) := by decide +kernel
theorem dL_paints_454 : decode cL_paints 454 = .ok (.iconst 2, 1) := by decide +kernel
theorem dL_paints_455 : decode cL_paints 455 = .ok (.iload 16, 2) := by decide +kernel
theorem dL_paints_457 : decode cL_paints 457 = .ok (.iastore, 1) := by decide +kernel
theorem dL_paints_458 : decode cL_paints 458 = .ok (.dup, 1) := by decide +kernel
theorem dL_paints_459 : decode cL_paints 459 = .ok (.iconst 3, 1) := by decide +kernel
theorem dL_paints_460 : decode cL_paints 460 = .ok (.iload 17, 2) := by decide +kernel
theorem dL_paints_462 : decode cL_paints 462 = .ok (.iastore, 1) := by decide +kernel
theorem dL_paints_463 : decode cL_paints 463 = .ok (.dup, 1) := by decide +kernel
theorem dL_paints_464 : decode cL_paints 464 = .ok (.iconst 4, 1) := by decide +kernel
theorem dL_paints_465 : decode cL_paints 465 = .ok (.iload 18, 2) := by decide +kernel
theorem dL_paints_467 : decode cL_paints 467 = .ok (.iastore, 1) := by decide +kernel
theorem dL_paints_468 : decode cL_paints 468 = .ok (.invokestatic 130, 3) := by decide +kernel
theorem dL_paints_471 : decode cL_paints 471 = .ok (.istore 6, 2) := by decide +kernel
theorem dL_paints_473 : decode cL_paints 473 = .ok (.iconst 0, 1) := by decide +kernel
theorem dL_paints_474 : decode cL_paints 474 = .ok (.istore 19, 2) := by decide +kernel
theorem dL_paints_476 : decode cL_paints 476 = .ok (.iload 19, 2) := by decide +kernel
theorem dL_paints_478 : decode cL_paints 478 = .ok (.iload 16, 2) := by decide +kernel
theorem dL_paints_480 : decode cL_paints 480 = .ok (.iload 17, 2) := by decide +kernel
theorem dL_paints_482 : decode cL_paints 482 = .ok (.imul, 1) := by decide +kernel
theorem dL_paints_483 : decode cL_paints 483 = .ok (.if_icmp .ge 56, 3) := by decide +kernel
theorem dL_paints_486 : decode cL_paints 486 = .ok (.bipush 16, 2) := by decide +kernel
theorem dL_paints_488 : decode cL_paints 488 = .ok (.iload 15, 2) := by decide +kernel
theorem dL_paints_490 : decode cL_paints 490 = .ok (.iload 19, 2) := by decide +kernel
theorem dL_paints_492 : decode cL_paints 492 = .ok (.iload 16, 2) := by decide +kernel
theorem dL_paints_494 : decode cL_paints 494 = .ok (.idiv, 1) := by decide +kernel
theorem dL_paints_495 : decode cL_paints 495 = .ok (.iadd, 1) := by decide +kernel
theorem dL_paints_496 : decode cL_paints 496 = .ok (.imul, 1) := by decide +kernel
theorem dL_paints_497 : decode cL_paints 497 = .ok (.iload 14, 2) := by decide +kernel
theorem dL_paints_499 : decode cL_paints 499 = .ok (.iadd, 1) := by decide +kernel
theorem dL_paints_500 : decode cL_paints 500 = .ok (.iload 19, 2) := by decide +kernel
theorem dL_paints_502 : decode cL_paints 502 = .ok (.iload 16, 2) := by decide +kernel
theorem dL_paints_504 : decode cL_paints 504 = .ok (.irem, 1) := by decide +kernel
theorem dL_paints_505 : decode cL_paints 505 = .ok (.iadd, 1) := by decide +kernel
theorem dL_paints_506 : decode cL_paints 506 = .ok (.istore 20, 2) := by decide +kernel
theorem dL_paints_508 : decode cL_paints 508 = .ok (.iload 5, 2) := by decide +kernel
theorem dL_paints_510 : decode cL_paints 510 = .ok (.aload_n 2, 1) := by decide +kernel
theorem dL_paints_511 : decode cL_paints 511 = .ok (.iload 20, 2) := by decide +kernel
theorem dL_paints_513 : decode cL_paints 513 = .ok (.iaload, 1) := by decide +kernel
theorem dL_paints_514 : decode cL_paints 514 = .ok (.iload 18, 2) := by decide +kernel
theorem dL_paints_516 : decode cL_paints 516 = .ok (.if_icmp .eq 7, 3) := by decide +kernel
theorem dL_paints_519 : decode cL_paints 519 = .ok (.iconst 1, 1) := by decide +kernel
theorem dL_paints_520 : decode cL_paints 520 = .ok (.goto 4, 3) := by decide +kernel
theorem dL_paints_523 : decode cL_paints 523 = .ok (.iconst 0, 1) := by decide +kernel
theorem dL_paints_524 : decode cL_paints 524 = .ok (.iadd, 1) := by decide +kernel
theorem dL_paints_525 : decode cL_paints 525 = .ok (.istore 5, 2) := by decide +kernel
theorem dL_paints_527 : decode cL_paints 527 = .ok (.aload_n 2, 1) := by decide +kernel
theorem dL_paints_528 : decode cL_paints 528 = .ok (.iload 20, 2) := by decide +kernel
theorem dL_paints_530 : decode cL_paints 530 = .ok (.iload 18, 2) := by decide +kernel
theorem dL_paints_532 : decode cL_paints 532 = .ok (.iastore, 1) := by decide +kernel
theorem dL_paints_533 : decode cL_paints 533 = .ok (.iinc 19 1, 3) := by decide +kernel
theorem dL_paints_536 : decode cL_paints 536 = .ok (.goto (-60), 3) := by decide +kernel
theorem dL_paints_539 : decode cL_paints 539 = .ok (.iload 5, 2) := by decide +kernel
theorem dL_paints_541 : decode cL_paints 541 = .ok (.istore 7, 2) := by decide +kernel
theorem dL_paints_543 : decode cL_paints 543 = .ok (.iload 6, 2) := by decide +kernel
theorem dL_paints_545 : decode cL_paints 545 = .ok (.iload 7, 2) := by decide +kernel
theorem dL_paints_547 : decode cL_paints 547 = .ok (.if_icmp .ne 15, 3) := by decide +kernel
theorem dL_paints_550 : decode cL_paints 550 = .ok (.aload_n 0, 1) := by decide +kernel
theorem dL_paints_551 : decode cL_paints 551 = .ok (.aload_n 2, 1) := by decide +kernel
theorem dL_paints_552 : decode cL_paints 552 = .ok (.invokestatic 158, 3) := by decide +kernel
theorem dL_paints_555 : decode cL_paints 555 = .ok (.ifCond .eq 7, 3) := by decide +kernel
theorem dL_paints_558 : decode cL_paints 558 = .ok (.iconst 1, 1) := by decide +kernel
theorem dL_paints_559 : decode cL_paints 559 = .ok (.goto 4, 3) := by decide +kernel
theorem dL_paints_562 : decode cL_paints 562 = .ok (.iconst 0, 1) := by decide +kernel
theorem dL_paints_563 : decode cL_paints 563 = .ok (.ireturn, 1) := by decide +kernel
theorem dL_flatIsGood_0 : decode cL_flatIsGood 0 = .ok (.new 8, 3) := by decide +kernel
theorem dL_flatIsGood_3 : decode cL_flatIsGood 3 = .ok (.dup, 1) := by decide +kernel
theorem dL_flatIsGood_4 : decode cL_flatIsGood 4 = .ok (.invokespecial 162, 3) := by decide +kernel
theorem dL_flatIsGood_7 : decode cL_flatIsGood 7 = .ok (.astore_n 3, 1) := by decide +kernel
theorem dL_flatIsGood_8 : decode cL_flatIsGood 8 = .ok (.aload_n 3, 1) := by decide +kernel
theorem dL_flatIsGood_9 : decode cL_flatIsGood 9 = .ok (.bipush 102, 2) := by decide +kernel
theorem dL_flatIsGood_11 : decode cL_flatIsGood 11 = .ok (.iconst 5, 1) := by decide +kernel
theorem dL_flatIsGood_12 : decode cL_flatIsGood 12 = .ok (.newarray .int, 2) := by decide +kernel
theorem dL_flatIsGood_14 : decode cL_flatIsGood 14 = .ok (.dup, 1) := by decide +kernel
theorem dL_flatIsGood_15 : decode cL_flatIsGood 15 = .ok (.iconst 0, 1) := by decide +kernel
theorem dL_flatIsGood_16 : decode cL_flatIsGood 16 = .ok (.iconst 0, 1) := by decide +kernel
theorem dL_flatIsGood_17 : decode cL_flatIsGood 17 = .ok (.iastore, 1) := by decide +kernel
theorem dL_flatIsGood_18 : decode cL_flatIsGood 18 = .ok (.dup, 1) := by decide +kernel
theorem dL_flatIsGood_19 : decode cL_flatIsGood 19 = .ok (.iconst 1, 1) := by decide +kernel
theorem dL_flatIsGood_20 : decode cL_flatIsGood 20 = .ok (.iconst 0, 1) := by decide +kernel
theorem dL_flatIsGood_21 : decode cL_flatIsGood 21 = .ok (.iastore, 1) := by decide +kernel
theorem dL_flatIsGood_22 : decode cL_flatIsGood 22 = .ok (.dup, 1) := by decide +kernel
theorem dL_flatIsGood_23 : decode cL_flatIsGood 23 = .ok (.iconst 2, 1) := by decide +kernel
theorem dL_flatIsGood_24 : decode cL_flatIsGood 24 = .ok (.bipush 16, 2) := by decide +kernel
theorem dL_flatIsGood_26 : decode cL_flatIsGood 26 = .ok (.iastore, 1) := by decide +kernel
theorem dL_flatIsGood_27 : decode cL_flatIsGood 27 = .ok (.dup, 1) := by decide +kernel
theorem dL_flatIsGood_28 : decode cL_flatIsGood 28 = .ok (.iconst 3, 1) := by decide +kernel
theorem dL_flatIsGood_29 : decode cL_flatIsGood 29 = .ok (.bipush 16, 2) := by decide +kernel
theorem dL_flatIsGood_31 : decode cL_flatIsGood 31 = .ok (.iastore, 1) := by decide +kernel
theorem dL_flatIsGood_32 : decode cL_flatIsGood 32 = .ok (.dup, 1) := by decide +kernel
theorem dL_flatIsGood_33 : decode cL_flatIsGood 33 = .ok (.iconst 4, 1) := by decide +kernel
theorem dL_flatIsGood_34 : decode cL_flatIsGood 34 = .ok (.iload_n 0, 1) := by decide +kernel
theorem dL_flatIsGood_35 : decode cL_flatIsGood 35 = .ok (.iastore, 1) := by decide +kernel
theorem dL_flatIsGood_36 : decode cL_flatIsGood 36 = .ok (.invokestatic 130, 3) := by decide +kernel
theorem dL_flatIsGood_39 : decode cL_flatIsGood 39 = .ok (.istore 4, 2) := by decide +kernel
theorem dL_flatIsGood_41 : decode cL_flatIsGood 41 = .ok (.iload 4, 2) := by decide +kernel
theorem dL_flatIsGood_43 : decode cL_flatIsGood 43 = .ok (.iload_n 0, 1) := by decide +kernel
theorem dL_flatIsGood_44 : decode cL_flatIsGood 44 = .ok (.ifCond .ne 7, 3) := by decide +kernel
theorem dL_flatIsGood_47 : decode cL_flatIsGood 47 = .ok (.iconst 0, 1) := by decide +kernel
theorem dL_flatIsGood_48 : decode cL_flatIsGood 48 = .ok (.goto 6, 3) := by decide +kernel
theorem dL_flatIsGood_51 : decode cL_flatIsGood 51 = .ok (.sipush 256, 3) := by decide +kernel
theorem dL_flatIsGood_54 : decode cL_flatIsGood 54 = .ok (.if_icmp .ne 40, 3) := by decide +kernel
theorem dL_flatIsGood_57 : decode cL_flatIsGood 57 = .ok (.aload_n 3, 1) := by decide +kernel
theorem dL_flatIsGood_58 : decode cL_flatIsGood 58 = .ok (.bipush 113, 2) := by decide +kernel
theorem dL_flatIsGood_60 : decode cL_flatIsGood 60 = .ok (.iload_n 1, 1) := by decide +kernel
theorem dL_flatIsGood_61 : decode cL_flatIsGood 61 = .ok (.invokestatic 163, 3) := by decide +kernel
theorem dL_flatIsGood_64 : decode cL_flatIsGood 64 = .ok (.bipush 8, 2) := by decide +kernel
theorem dL_flatIsGood_66 : decode cL_flatIsGood 66 = .ok (.if_icmp .ne 28, 3) := by decide +kernel
theorem dL_flatIsGood_69 : decode cL_flatIsGood 69 = .ok (.aload_n 3, 1) := by decide +kernel
theorem dL_flatIsGood_70 : decode cL_flatIsGood 70 = .ok (.bipush 116, 2) := by decide +kernel
theorem dL_flatIsGood_72 : decode cL_flatIsGood 72 = .ok (.iload_n 2, 1) := by decide +kernel
theorem dL_flatIsGood_73 : decode cL_flatIsGood 73 = .ok (.invokestatic 163, 3) := by decide +kernel
theorem dL_flatIsGood_76 : decode cL_flatIsGood 76 = .ok (.bipush 7, 2) := by decide +kernel
theorem dL_flatIsGood_78 : decode cL_flatIsGood 78 = .ok (.if_icmp .ne 16, 3) := by decide +kernel
theorem dL_flatIsGood_81 : decode cL_flatIsGood 81 = .ok (.aload_n 3, 1) := by decide +kernel
theorem dL_flatIsGood_82 : decode cL_flatIsGood 82 = .ok (.bipush 105, 2) := by decide +kernel
theorem dL_flatIsGood_84 : decode cL_flatIsGood 84 = .ok (.iconst 0, 1) := by decide +kernel
theorem dL_flatIsGood_85 : decode cL_flatIsGood 85 = .ok (.iconst 0, 1) := by decide +kernel
theorem dL_flatIsGood_86 : decode cL_flatIsGood 86 = .ok (.invokestatic 167, 3) := by decide +kernel
theorem dL_flatIsGood_89 : decode cL_flatIsGood 89 = .ok (.bipush 32, 2) := by decide +kernel
theorem dL_flatIsGood_91 : decode cL_flatIsGood 91 = .ok (.if_icmp .ge 5, 3) := by decide +kernel
theorem dL_flatIsGood_94 : decode cL_flatIsGood 94 = .ok (.iconst 0, 1) := by decide +kernel
theorem dL_flatIsGood_95 : decode cL_flatIsGood 95 = .ok (.ireturn, 1) := by decide +kernel
theorem dL_flatIsGood_96 : decode cL_flatIsGood 96 = .ok (.iload_n 1, 1) := by decide +kernel
theorem dL_flatIsGood_97 : decode cL_flatIsGood 97 = .ok (.iconst 4, 1) := by decide +kernel
theorem dL_flatIsGood_98 : decode cL_flatIsGood 98 = .ok (.idiv, 1) := by decide +kernel
theorem dL_flatIsGood_99 : decode cL_flatIsGood 99 = .ok (.iconst 1, 1) := by decide +kernel
theorem dL_flatIsGood_100 : decode cL_flatIsGood 100 = .ok (.iadd, 1) := by decide +kernel
theorem dL_flatIsGood_101 : decode cL_flatIsGood 101 = .ok (.istore 5, 2) := by decide +kernel
theorem dL_flatIsGood_103 : decode cL_flatIsGood 103 = .ok (.iconst 0, 1) := by decide +kernel
theorem dL_flatIsGood_104 : decode cL_flatIsGood 104 = .ok (.istore 6, 2) := by decide +kernel
theorem dL_flatIsGood_106 : decode cL_flatIsGood 106 = .ok (.iload 6, 2) := by decide +kernel
theorem dL_flatIsGood_108 : decode cL_flatIsGood 108 = .ok (.sipush 256, 3) := by decide +kernel
theorem dL_flatIsGood_111 : decode cL_flatIsGood 111 = .ok (.if_icmp .ge 54, 3) := by decide +kernel
theorem dL_flatIsGood_114 : decode cL_flatIsGood 114 = .ok (.aload_n 3, 1) := by decide +kernel
theorem dL_flatIsGood_115 : decode cL_flatIsGood 115 = .ok (.bipush 98, 2) := by decide +kernel
theorem dL_flatIsGood_117 : decode cL_flatIsGood 117 = .ok (.iconst 0, 1) := by decide +kernel
theorem dL_flatIsGood_118 : decode cL_flatIsGood 118 = .ok (.iload 6, 2) := by decide +kernel
theorem dL_flatIsGood_120 : decode cL_flatIsGood 120 = .ok (.bipush 16, 2) := by decide +kernel
theorem dL_flatIsGood_122 : decode cL_flatIsGood 122 = .ok (.irem, 1) := by decide +kernel
theorem dL_flatIsGood_123 : decode cL_flatIsGood 123 = .ok (.iload 6, 2) := by decide +kernel
theorem dL_flatIsGood_125 : decode cL_flatIsGood 125 = .ok (.bipush 16, 2) := by decide +kernel
theorem dL_flatIsGood_127 : decode cL_flatIsGood 127 = .ok (.idiv, 1) := by decide +kernel
theorem dL_flatIsGood_128 : decode cL_flatIsGood 128 = .ok (.invokestatic 137, 3) := by decide +kernel
theorem dL_flatIsGood_131 : decode cL_flatIsGood 131 = .ok (.iload_n 0, 1) := by decide +kernel
theorem dL_flatIsGood_132 : decode cL_flatIsGood 132 = .ok (.isub, 1) := by decide +kernel
theorem dL_flatIsGood_133 : decode cL_flatIsGood 133 = .ok (.invokestatic 170, 3) := by decide +kernel
theorem dL_flatIsGood_136 : decode cL_flatIsGood 136 = .ok (.iload 5, 2) := by decide +kernel
theorem dL_flatIsGood_138 : decode cL_flatIsGood 138 = .ok (.iload_n 2, 1) := by decide +kernel
theorem dL_flatIsGood_139 : decode cL_flatIsGood 139 = .ok (.iconst 2, 1) := by decide +kernel
theorem dL_flatIsGood_140 : decode cL_flatIsGood 140 = .ok (.idiv, 1) := by decide +kernel
theorem dL_flatIsGood_141 : decode cL_flatIsGood 141 = .ok (.iconst 2, 1) := by decide +kernel
theorem dL_flatIsGood_142 : decode cL_flatIsGood 142 = .ok (.irem, 1) := by decide +kernel
theorem dL_flatIsGood_143 : decode cL_flatIsGood 143 = .ok (.iconst 1, 1) := by decide +kernel
theorem dL_flatIsGood_144 : decode cL_flatIsGood 144 = .ok (.if_icmp .ne 8, 3) := by decide +kernel
theorem dL_flatIsGood_147 : decode cL_flatIsGood 147 = .ok (.iload 5, 2) := by decide +kernel
theorem dL_flatIsGood_149 : decode cL_flatIsGood 149 = .ok (.goto 4, 3) := by decide +kernel
theorem dL_flatIsGood_152 : decode cL_flatIsGood 152 = .ok (.iconst 0, 1) := by decide +kernel
theorem dL_flatIsGood_153 : decode cL_flatIsGood 153 = .ok (.iadd, 1) := by decide +kernel
theorem dL_flatIsGood_154 : decode cL_flatIsGood 154 = .ok (.if_icmp .le 5, 3) := by decide +kernel
theorem dL_flatIsGood_157 : decode cL_flatIsGood 157 = .ok (.iconst 0, 1) := by decide +kernel
theorem dL_flatIsGood_158 : decode cL_flatIsGood 158 = .ok (.ireturn, 1) := by decide +kernel
theorem dL_flatIsGood_159 : decode cL_flatIsGood 159 = .ok (.iinc 6 1, 3) := by decide +kernel
theorem dL_flatIsGood_162 : decode cL_flatIsGood 162 = .ok (.goto (-56), 3) := by decide +kernel
theorem dL_flatIsGood_165 : decode cL_flatIsGood 165 = .ok (.aload_n 3, 1) := by decide +kernel
theorem dL_flatIsGood_166 : decode cL_flatIsGood 166 = .ok (.bipush 112, 2) := by decide +kernel
theorem dL_flatIsGood_168 : decode cL_flatIsGood 168 = .ok (.iconst 0, 1) := by decide +kernel
theorem dL_flatIsGood_169 : decode cL_flatIsGood 169 = .ok (.iconst 0, 1) := by decide +kernel
theorem dL_flatIsGood_170 : decode cL_flatIsGood 170 = .ok (.invokestatic 167, 3) := by decide +kernel
theorem dL_flatIsGood_173 : decode cL_flatIsGood 173 = .ok (.istore 6, 2) := by decide +kernel
theorem dL_flatIsGood_175 : decode cL_flatIsGood 175 = .ok (.iload 6, 2) := by decide +kernel
theorem dL_flatIsGood_177 : decode cL_flatIsGood 177 = .ok (.ifCond .le 55, 3) := by decide +kernel
theorem dL_flatIsGood_180 : decode cL_flatIsGood 180 = .ok (.aload_n 3, 1) := by decide +kernel
theorem dL_flatIsGood_181 : decode cL_flatIsGood 181 = .ok (.bipush 112, 2) := by decide +kernel
theorem dL_flatIsGood_183 : decode cL_flatIsGood 183 = .ok (.iconst 1, 1) := by decide +kernel
theorem dL_flatIsGood_184 : decode cL_flatIsGood 184 = .ok (.iconst 0, 1) := by decide +kernel
theorem dL_flatIsGood_185 : decode cL_flatIsGood 185 = .ok (.iconst 0, 1) := by decide +kernel
theorem dL_flatIsGood_186 : decode cL_flatIsGood 186 = .ok (.invokestatic 137, 3) := by decide +kernel
theorem dL_flatIsGood_189 : decode cL_flatIsGood 189 = .ok (.bipush 8, 2) := by decide +kernel
theorem dL_flatIsGood_191 : decode cL_flatIsGood 191 = .ok (.if_icmp .ne 41, 3) := by decide +kernel
theorem dL_flatIsGood_194 : decode cL_flatIsGood 194 = .ok (.aload_n 3, 1) := by decide +kernel
theorem dL_flatIsGood_195 : decode cL_flatIsGood 195 = .ok (.bipush 100, 2) := by decide +kernel
theorem dL_flatIsGood_197 : decode cL_flatIsGood 197 = .ok (.iconst 0, 1) := by decide +kernel
theorem dL_flatIsGood_198 : decode cL_flatIsGood 198 = .ok (.invokestatic 163, 3) := by decide +kernel
theorem dL_flatIsGood_201 : decode cL_flatIsGood 201 = .ok (.bipush 99, 2) := by decide +kernel
theorem dL_flatIsGood_203 : decode cL_flatIsGood 203 = .ok (.if_icmp .ne 29, 3) := by decide +kernel
theorem dL_flatIsGood_206 : decode cL_flatIsGood 206 = .ok (.aload_n 3, 1) := by decide +kernel
theorem dL_flatIsGood_207 : decode cL_flatIsGood 207 = .ok (.bipush 100, 2) := by decide +kernel
theorem dL_flatIsGood_209 : decode cL_flatIsGood 209 = .ok (.iconst 0, 1) := by decide +kernel
theorem dL_flatIsGood_210 : decode cL_flatIsGood 210 = .ok (.invokestatic 163, 3) := by decide +kernel
theorem dL_flatIsGood_213 : decode cL_flatIsGood 213 = .ok (.bipush 99, 2) := by decide +kernel
theorem dL_flatIsGood_215 : decode cL_flatIsGood 215 = .ok (.if_icmp .ne 17, 3) := by decide +kernel
theorem dL_flatIsGood_218 : decode cL_flatIsGood 218 = .ok (.aload_n 3, 1) := by decide +kernel
theorem dL_flatIsGood_219 : decode cL_flatIsGood 219 = .ok (.bipush 102, 2) := by decide +kernel
theorem dL_flatIsGood_221 : decode cL_flatIsGood 221 = .ok (.iconst 0, 1) := by decide +kernel
theorem dL_flatIsGood_222 : decode cL_flatIsGood 222 = .ok (.invokestatic 163, 3) := by decide +kernel
theorem dL_flatIsGood_225 : decode cL_flatIsGood 225 = .ok (.ifCond .ne 7, 3) := by decide +kernel
theorem dL_flatIsGood_228 : decode cL_flatIsGood 228 = .ok (.iconst 1, 1) := by decide +kernel
theorem dL_flatIsGood_229 : decode cL_flatIsGood 229 = .ok (.goto 4, 3) := by decide +kernel
theorem dL_flatIsGood_232 : decode cL_flatIsGood 232 = .ok (.iconst 0, 1) := by decide +kernel
theorem dL_flatIsGood_233 : decode cL_flatIsGood 233 = .ok (.ireturn, 1) := by decide +kernel
theorem dL_law_0 : decode cL_law 0 = .ok (.new 8, 3) := by decide +kernel
theorem dL_law_3 : decode cL_law 3 = .ok (.dup, 1) := by decide +kernel
theorem dL_law_4 : decode cL_law 4 = .ok (.invokespecial 162, 3) := by decide +kernel
theorem dL_law_7 : decode cL_law 7 = .ok (.astore_n 1, 1) := by decide +kernel
theorem dL_law_8 : decode cL_law 8 = .ok (.sipush 256, 3) := by decide +kernel
theorem dL_law_11 : decode cL_law 11 = .ok (.newarray .int, 2) := by decide +kernel
theorem dL_law_13 : decode cL_law 13 = .ok (.astore_n 2, 1) := by decide +kernel
theorem dL_law_14 : decode cL_law 14 = .ok (.aload_n 1, 1) := by decide +kernel
theorem dL_law_15 : decode cL_law 15 = .ok (.aload_n 2, 1) := by decide +kernel
theorem dL_law_16 : decode cL_law 16 = .ok (.invokestatic 158, 3) := by decide +kernel
theorem dL_law_19 : decode cL_law 19 = .ok (.ifCond .eq 105, 3) := by decide +kernel
theorem dL_law_22 : decode cL_law 22 = .ok (.aload_n 1, 1) := by decide +kernel
theorem dL_law_23 : decode cL_law 23 = .ok (.iconst 1, 1) := by decide +kernel
theorem dL_law_24 : decode cL_law 24 = .ok (.invokestatic 173, 3) := by decide +kernel
theorem dL_law_27 : decode cL_law 27 = .ok (.ldc2_w 128, 3) := by decide +kernel
theorem dL_law_30 : decode cL_law 30 = .ok (.dcmp .l, 1) := by decide +kernel
theorem dL_law_31 : decode cL_law 31 = .ok (.ifCond .ne 93, 3) := by decide +kernel
theorem dL_law_34 : decode cL_law 34 = .ok (.aload_n 1, 1) := by decide +kernel
theorem dL_law_35 : decode cL_law 35 = .ok (.iconst 0, 1) := by decide +kernel
theorem dL_law_36 : decode cL_law 36 = .ok (.invokestatic 173, 3) := by decide +kernel
theorem dL_law_39 : decode cL_law 39 = .ok (.ldc2_w 128, 3) := by decide +kernel
theorem dL_law_42 : decode cL_law 42 = .ok (.dcmp .l, 1) := by decide +kernel
theorem dL_law_43 : decode cL_law 43 = .ok (.ifCond .ne 81, 3) := by decide +kernel
theorem dL_law_46 : decode cL_law 46 = .ok (.aload_n 1, 1) := by decide +kernel
theorem dL_law_47 : decode cL_law 47 = .ok (.bipush 98, 2) := by decide +kernel
theorem dL_law_49 : decode cL_law 49 = .ok (.iconst 0, 1) := by decide +kernel
theorem dL_law_50 : decode cL_law 50 = .ok (.invokestatic 163, 3) := by decide +kernel
theorem dL_law_53 : decode cL_law 53 = .ok (.sipush (-1005), 3) := by decide +kernel
theorem dL_law_56 : decode cL_law 56 = .ok (.if_icmp .ne 68, 3) := by decide +kernel
theorem dL_law_59 : decode cL_law 59 = .ok (.aload_n 1, 1) := by decide +kernel
theorem dL_law_60 : decode cL_law 60 = .ok (.bipush 119, 2) := by decide +kernel
theorem dL_law_62 : decode cL_law 62 = .ok (.iconst 0, 1) := by decide +kernel
theorem dL_law_63 : decode cL_law 63 = .ok (.invokestatic 163, 3) := by decide +kernel
theorem dL_law_66 : decode cL_law 66 = .ok (.sipush (-1005), 3) := by decide +kernel
theorem dL_law_69 : decode cL_law 69 = .ok (.if_icmp .ne 55, 3) := by decide +kernel
theorem dL_law_72 : decode cL_law 72 = .ok (.aload_n 1, 1) := by decide +kernel
theorem dL_law_73 : decode cL_law 73 = .ok (.bipush 102, 2) := by decide +kernel
theorem dL_law_75 : decode cL_law 75 = .ok (.iconst 0, 1) := by decide +kernel
theorem dL_law_76 : decode cL_law 76 = .ok (.invokestatic 163, 3) := by decide +kernel
theorem dL_law_79 : decode cL_law 79 = .ok (.sipush (-1005), 3) := by decide +kernel
theorem dL_law_82 : decode cL_law 82 = .ok (.if_icmp .ne 42, 3) := by decide +kernel
theorem dL_law_85 : decode cL_law 85 = .ok (.aload_n 1, 1) := by decide +kernel
theorem dL_law_86 : decode cL_law 86 = .ok (.bipush 108, 2) := by decide +kernel
theorem dL_law_88 : decode cL_law 88 = .ok (.iconst 0, 1) := by decide +kernel
theorem dL_law_89 : decode cL_law 89 = .ok (.invokestatic 163, 3) := by decide +kernel
theorem dL_law_92 : decode cL_law 92 = .ok (.sipush (-1005), 3) := by decide +kernel
theorem dL_law_95 : decode cL_law 95 = .ok (.if_icmp .ne 29, 3) := by decide +kernel
theorem dL_law_98 : decode cL_law 98 = .ok (.aload_n 1, 1) := by decide +kernel
theorem dL_law_99 : decode cL_law 99 = .ok (.bipush 109, 2) := by decide +kernel
theorem dL_law_101 : decode cL_law 101 = .ok (.iconst 0, 1) := by decide +kernel
theorem dL_law_102 : decode cL_law 102 = .ok (.invokestatic 163, 3) := by decide +kernel
theorem dL_law_105 : decode cL_law 105 = .ok (.sipush (-1005), 3) := by decide +kernel
theorem dL_law_108 : decode cL_law 108 = .ok (.if_icmp .ne 16, 3) := by decide +kernel
theorem dL_law_111 : decode cL_law 111 = .ok (.aload_n 1, 1) := by decide +kernel
theorem dL_law_112 : decode cL_law 112 = .ok (.bipush 100, 2) := by decide +kernel
theorem dL_law_114 : decode cL_law 114 = .ok (.iconst 0, 1) := by decide +kernel
theorem dL_law_115 : decode cL_law 115 = .ok (.invokestatic 163, 3) := by decide +kernel
theorem dL_law_118 : decode cL_law 118 = .ok (.sipush (-1005), 3) := by decide +kernel
theorem dL_law_121 : decode cL_law 121 = .ok (.if_icmp .eq 5, 3) := by decide +kernel
theorem dL_law_124 : decode cL_law 124 = .ok (.iconst 0, 1) := by decide +kernel
theorem dL_law_125 : decode cL_law 125 = .ok (.ireturn, 1) := by decide +kernel
theorem dL_law_126 : decode cL_law 126 = .ok (.aload_n 0, 1) := by decide +kernel
theorem dL_law_127 : decode cL_law 127 = .ok (.iconst 0, 1) := by decide +kernel
theorem dL_law_128 : decode cL_law 128 = .ok (.invokestatic 177, 3) := by decide +kernel
theorem dL_law_131 : decode cL_law 131 = .ok (.bipush 40, 2) := by decide +kernel
theorem dL_law_133 : decode cL_law 133 = .ok (.invokestatic 181, 3) := by decide +kernel
theorem dL_law_136 : decode cL_law 136 = .ok (.istore_n 3, 1) := by decide +kernel
theorem dL_law_137 : decode cL_law 137 = .ok (.iconst 0, 1) := by decide +kernel
theorem dL_law_138 : decode cL_law 138 = .ok (.istore 4, 2) := by decide +kernel
theorem dL_law_140 : decode cL_law 140 = .ok (.iconst 0, 1) := by decide +kernel
theorem dL_law_141 : decode cL_law 141 = .ok (.istore 5, 2) := by decide +kernel
theorem dL_law_143 : decode cL_law 143 = .ok (.iload 5, 2) := by decide +kernel
theorem dL_law_145 : decode cL_law 145 = .ok (.iload_n 3, 1) := by decide +kernel
theorem dL_law_146 : decode cL_law 146 = .ok (.if_icmp .ge 136, 3) := by decide +kernel
theorem dL_law_149 : decode cL_law 149 = .ok (.aload_n 0, 1) := by decide +kernel
theorem dL_law_150 : decode cL_law 150 = .ok (.iconst 1, 1) := by decide +kernel
theorem dL_law_151 : decode cL_law 151 = .ok (.iload 5, 2) := by decide +kernel
theorem dL_law_153 : decode cL_law 153 = .ok (.iadd, 1) := by decide +kernel
theorem dL_law_154 : decode cL_law 154 = .ok (.invokestatic 177, 3) := by decide +kernel
theorem dL_law_157 : decode cL_law 157 = .ok (.ldc 184, 2) := by decide +kernel
theorem dL_law_159 : decode cL_law 159 = .ok (.invokestatic 181, 3) := by decide +kernel
theorem dL_law_162 : decode cL_law 162 = .ok (.istore 6, 2) := by decide +kernel
theorem dL_law_164 : decode cL_law 164 = .ok (.iload 6, 2) := by decide +kernel
theorem dL_law_166 : decode cL_law 166 = .ok (.iconst 5, 1) := by decide +kernel
theorem dL_law_167 : decode cL_law 167 = .ok (.irem, 1) := by decide +kernel
theorem dL_law_168 : decode cL_law 168 = .ok (.ifCond .le 17, 3) := by decide +kernel
theorem dL_law_171 : decode cL_law 171 = .ok (.aload_n 1, 1) := by decide +kernel
theorem dL_law_172 : decode cL_law 172 = .ok (.iload 6, 2) := by decide +kernel
theorem dL_law_174 : decode cL_law 174 = .ok (.iconst 5, 1) := by decide +kernel
theorem dL_law_175 : decode cL_law 175 = .ok (.idiv, 1) := by decide +kernel
theorem dL_law_176 : decode cL_law 176 = .ok (.aload_n 2, 1) := by decide +kernel
theorem dL_law_177 : decode cL_law 177 = .ok (.invokestatic 185, 3) := by decide +kernel
theorem dL_law_180 : decode cL_law 180 = .ok (.ifCond .ne 72, 3) := by decide +kernel
theorem dL_law_183 : decode cL_law 183 = .ok (.iconst 0, 1) := by decide +kernel
theorem dL_law_184 : decode cL_law 184 = .ok (.ireturn, 1) := by decide +kernel
theorem dL_law_185 : decode cL_law 185 = .ok (.aload_n 1, 1) := by decide +kernel
theorem dL_law_186 : decode cL_law 186 = .ok (.bipush 105, 2) := by decide +kernel
theorem dL_law_188 : decode cL_law 188 = .ok (.bipush 9, 2) := by decide +kernel
theorem dL_law_190 : decode cL_law 190 = .ok (.bipush 9, 2) := by decide +kernel
theorem dL_law_192 : decode cL_law 192 = .ok (.invokestatic 167, 3) := by decide +kernel
theorem dL_law_195 : decode cL_law 195 = .ok (.istore 7, 2) := by decide +kernel
theorem dL_law_197 : decode cL_law 197 = .ok (.iload 7, 2) := by decide +kernel
theorem dL_law_199 : decode cL_law 199 = .ok (.iload 4, 2) := by decide +kernel
theorem dL_law_201 : decode cL_law 201 = .ok (.bipush 12, 2) := by decide +kernel
theorem dL_law_203 : decode cL_law 203 = .ok (.if_icmp .ne 9, 3) := by decide +kernel
theorem dL_law_206 : decode cL_law 206 = .ok (.sipush (-1003), 3) := by decide +kernel
theorem dL_law_209 : decode cL_law 209 = .ok (.goto 5, 3) := by decide +kernel
theorem dL_law_212 : decode cL_law 212 = .ok (.iload 7, 2) := by decide +kernel
theorem dL_law_214 : decode cL_law 214 = .ok (.if_icmp .ne 25, 3) := by decide +kernel
theorem dL_law_217 : decode cL_law 217 = .ok (.iload 4, 2) := by decide +kernel
theorem dL_law_219 : decode cL_law 219 = .ok (.bipush 12, 2) := by decide +kernel
theorem dL_law_221 : decode cL_law 221 = .ok (.if_icmp .ge 10, 3) := by decide +kernel
theorem dL_law_224 : decode cL_law 224 = .ok (.iload 7, 2) := by decide +kernel
theorem dL_law_226 : decode cL_law 226 = .ok (.bipush 32, 2) := by decide +kernel
theorem dL_law_228 : decode cL_law 228 = .ok (.if_icmp .lt 11, 3) := by decide +kernel
theorem dL_law_231 : decode cL_law 231 = .ok (.aload_n 1, 1) := by decide +kernel
theorem dL_law_232 : decode cL_law 232 = .ok (.aload_n 2, 1) := by decide +kernel
theorem dL_law_233 : decode cL_law 233 = .ok (.invokestatic 158, 3) := by decide +kernel
theorem dL_law_236 : decode cL_law 236 = .ok (.ifCond .ne 5, 3) := by decide +kernel
theorem dL_law_239 : decode cL_law 239 = .ok (.iconst 0, 1) := by decide +kernel
theorem dL_law_240 : decode cL_law 240 = .ok (.ireturn, 1) := by decide +kernel
theorem dL_law_241 : decode cL_law 241 = .ok (.bipush 12, 2) := by decide +kernel
theorem dL_law_243 : decode cL_law 243 = .ok (.iload 4, 2) := by decide +kernel
theorem dL_law_245 : decode cL_law 245 = .ok (.iconst 1, 1) := by decide +kernel
theorem dL_law_246 : decode cL_law 246 = .ok (.iadd, 1) := by decide +kernel
theorem dL_law_247 : decode cL_law 247 = .ok (.invokestatic 149, 3) := by decide +kernel
theorem dL_law_250 : decode cL_law 250 = .ok (.istore 4, 2) := by decide +kernel
theorem dL_law_252 : decode cL_law 252 = .ok (.aload_n 1, 1) := by decide +kernel
theorem dL_law_253 : decode cL_law 253 = .ok (.invokevirtual 189, 3) := by decide +kernel
theorem dL_law_256 : decode cL_law 256 = .ok (.iload 4, 2) := by decide +kernel
theorem dL_law_258 : decode cL_law 258 = .ok (.if_icmp .ne 16, 3) := by decide +kernel
theorem dL_law_261 : decode cL_law 261 = .ok (.aload_n 1, 1) := by decide +kernel
theorem dL_law_262 : decode cL_law 262 = .ok (.invokevirtual 192, 3) := by decide +kernel
theorem dL_law_265 : decode cL_law 265 = .ok (.iconst 3, 1) := by decide +kernel
theorem dL_law_266 : decode cL_law 266 = .ok (.iload 4, 2) := by decide +kernel
theorem dL_law_268 : decode cL_law 268 = .ok (.invokestatic 149, 3) := by decide +kernel
theorem dL_law_271 : decode cL_law 271 = .ok (.if_icmp .eq 5, 3) := by decide +kernel
theorem dL_law_274 : decode cL_law 274 = .ok (.iconst 0, 1) := by decide +kernel
theorem dL_law_275 : decode cL_law 275 = .ok (.ireturn, 1) := by decide +kernel
theorem dL_law_276 : decode cL_law 276 = .ok (.iinc 5 1, 3) := by decide +kernel
theorem dL_law_279 : decode cL_law 279 = .ok (.goto (-136), 3) := by decide +kernel
theorem dL_law_282 : decode cL_law 282 = .ok (.bipush 7, 2) := by decide +kernel
theorem dL_law_284 : decode cL_law 284 = .ok (.newarray .int, 2) := by decide +kernel
theorem dL_law_286 : decode cL_law 286 = .ok (.astore 5, 2) := by decide +kernel
theorem dL_law_288 : decode cL_law 288 = .ok (.iconst 0, 1) := by decide +kernel
theorem dL_law_289 : decode cL_law 289 = .ok (.istore 6, 2) := by decide +kernel
theorem dL_law_291 : decode cL_law 291 = .ok (.iload 6, 2) := by decide +kernel
theorem dL_law_293 : decode cL_law 293 = .ok (.iload 4, 2) := by decide +kernel
theorem dL_law_295 : decode cL_law 295 = .ok (.if_icmp .ge 112, 3) := by decide +kernel
theorem dL_law_298 : decode cL_law 298 = .ok (.iconst 0, 1) := by decide +kernel
theorem dL_law_299 : decode cL_law 299 = .ok (.istore 7, 2) := by decide +kernel
theorem dL_law_301 : decode cL_law 301 = .ok (.iload 7, 2) := by decide +kernel
theorem dL_law_303 : decode cL_law 303 = .ok (.bipush 16, 2) := by decide +kernel
theorem dL_law_305 : decode cL_law 305 = .ok (.if_icmp .ge 96, 3) := by decide +kernel
theorem dL_law_308 : decode cL_law 308 = .ok (.iload 7, 2) := by decide +kernel
theorem dL_law_310 : decode cL_law 310 = .ok (.iconst 4, 1) := by decide +kernel
theorem dL_law_311 : decode cL_law 311 = .ok (.irem, 1) := by decide +kernel
theorem dL_law_312 : decode cL_law 312 = .ok (.iconst 4, 1) := by decide +kernel
theorem dL_law_313 : decode cL_law 313 = .ok (.imul, 1) := by decide +kernel
theorem dL_law_314 : decode cL_law 314 = .ok (.istore 8, 2) := by decide +kernel
theorem dL_law_316 : decode cL_law 316 = .ok (.iload 7, 2) := by decide +kernel
theorem dL_law_318 : decode cL_law 318 = .ok (.iconst 4, 1) := by decide +kernel
theorem dL_law_319 : decode cL_law 319 = .ok (.idiv, 1) := by decide +kernel
theorem dL_law_320 : decode cL_law 320 = .ok (.iconst 4, 1) := by decide +kernel
theorem dL_law_321 : decode cL_law 321 = .ok (.imul, 1) := by decide +kernel
theorem dL_law_322 : decode cL_law 322 = .ok (.istore 9, 2) := by decide +kernel
theorem dL_law_324 : decode cL_law 324 = .ok (.aload_n 1, 1) := by decide +kernel
theorem dL_law_325 : decode cL_law 325 = .ok (.bipush 112, 2) := by decide +kernel
theorem dL_law_327 : decode cL_law 327 = .ok (.iload 6, 2) := by decide +kernel
theorem dL_law_329 : decode cL_law 329 = .ok (.iload 8, 2) := by decide +kernel
theorem dL_law_331 : decode cL_law 331 = .ok (.iload 9, 2) := by decide +kernel
theorem dL_law_333 : decode cL_law 333 = .ok (.invokestatic 137, 3) := by decide +kernel
theorem dL_law_336 : decode cL_law 336 = .ok (.iconst 4, 1) := by decide +kernel
theorem dL_law_337 : decode cL_law 337 = .ok (.if_icmp .eq 19, 3) := by decide +kernel
theorem dL_law_340 : decode cL_law 340 = .ok (.iload 8, 2) := by decide +kernel
theorem dL_law_342 : decode cL_law 342 = .ok (.bipush 8, 2) := by decide +kernel
theorem dL_law_344 : decode cL_law 344 = .ok (.irem, 1) := by decide +kernel
theorem dL_law_345 : decode cL_law 345 = .ok (.ifCond .ne 15, 3) := by decide +kernel
theorem dL_law_348 : decode cL_law 348 = .ok (.iload 9, 2) := by decide +kernel
theorem dL_law_350 : decode cL_law 350 = .ok (.bipush 8, 2) := by decide +kernel
theorem dL_law_352 : decode cL_law 352 = .ok (.irem, 1) := by decide +kernel
theorem dL_law_353 : decode cL_law 353 = .ok (.ifCond .ne 7, 3) := by decide +kernel
theorem dL_law_356 : decode cL_law 356 = .ok (.iconst 1, 1) := by decide +kernel
theorem dL_law_357 : decode cL_law 357 = .ok (.goto 4, 3) := by decide +kernel
theorem dL_law_360 : decode cL_law 360 = .ok (.iconst 0, 1) := by decide +kernel
theorem dL_law_361 : decode cL_law 361 = .ok (.istore 10, 2) := by decide +kernel
theorem dL_law_363 : decode cL_law 363 = .ok (.aload 5, 2) := by decide +kernel
theorem dL_law_365 : decode cL_law 365 = .ok (.iconst 0, 1) := by decide +kernel
theorem dL_law_366 : decode cL_law 366 = .ok (.aload_n 1, 1) := by decide +kernel
theorem dL_law_367 : decode cL_law 367 = .ok (.bipush 109, 2) := by decide +kernel
theorem dL_law_369 : decode cL_law 369 = .ok (.iload 6, 2) := by decide +kernel
theorem dL_law_371 : decode cL_law 371 = .ok (.iload 8, 2) := by decide +kernel
theorem dL_law_373 : decode cL_law 373 = .ok (.iload 9, 2) := by decide +kernel
theorem dL_law_375 : decode cL_law 375 = .ok (.invokestatic 137, 3) := by decide +kernel
theorem dL_law_378 : decode cL_law 378 = .ok (.invokestatic 154, 3) := by decide +kernel
theorem dL_law_381 : decode cL_law 381 = .ok (.dup2, 1) := by decide +kernel
theorem dL_law_382 : decode cL_law 382 = .ok (.iaload, 1) := by decide +kernel
theorem dL_law_383 : decode cL_law 383 = .ok (.iload 10, 2) := by decide +kernel
theorem dL_law_385 : decode cL_law 385 = .ok (.ifCond .eq 7, 3) := by decide +kernel
theorem dL_law_388 : decode cL_law 388 = .ok (.iconst 1, 1) := by decide +kernel
theorem dL_law_389 : decode cL_law 389 = .ok (.goto 4, 3) := by decide +kernel
theorem dL_law_392 : decode cL_law 392 = .ok (.iconst 0, 1) := by decide +kernel
theorem dL_law_393 : decode cL_law 393 = .ok (.iadd, 1) := by decide +kernel
theorem dL_law_394 : decode cL_law 394 = .ok (.iastore, 1) := by decide +kernel
theorem dL_law_395 : decode cL_law 395 = .ok (.iinc 7 1, 3) := by decide +kernel
theorem dL_law_398 : decode cL_law 398 = .ok (.goto (-97), 3) := by decide +kernel
theorem dL_law_401 : decode cL_law 401 = .ok (.iinc 6 1, 3) := by decide +kernel
theorem dL_law_404 : decode cL_law 404 = .ok (.goto (-113), 3) := by decide +kernel
theorem dL_law_407 : decode cL_law 407 = .ok (.iconst 0, 1) := by decide +kernel
theorem dL_law_408 : decode cL_law 408 = .ok (.istore 6, 2) := by decide +kernel
theorem dL_law_410 : decode cL_law 410 = .ok (.iconst 1, 1) := by decide +kernel
theorem dL_law_411 : decode cL_law 411 = .ok (.istore 7, 2) := by decide +kernel
theorem dL_law_413 : decode cL_law 413 = .ok (.iload 7, 2) := by decide +kernel
theorem dL_law_415 : decode cL_law 415 = .ok (.bipush 7, 2) := by decide +kernel
theorem dL_law_417 : decode cL_law 417 = .ok (.if_icmp .ge 31, 3) := by decide +kernel
theorem dL_law_420 : decode cL_law 420 = .ok (.aload 5, 2) := by decide +kernel
theorem dL_law_422 : decode cL_law 422 = .ok (.iload 7, 2) := by decide +kernel
theorem dL_law_424 : decode cL_law 424 = .ok (.iaload, 1) := by decide +kernel
theorem dL_law_425 : decode cL_law 425 = .ok (.aload 5, 2) := by decide +kernel
theorem dL_law_427 : decode cL_law 427 = .ok (.iload 6, 2) := by decide +kernel
theorem dL_law_429 : decode cL_law 429 = .ok (.iaload, 1) := by decide +kernel
theorem dL_law_430 : decode cL_law 430 = .ok (.if_icmp .le 8, 3) := by decide +kernel
theorem dL_law_433 : decode cL_law 433 = .ok (.iload 7, 2) := by decide +kernel
theorem dL_law_435 : decode cL_law 435 = .ok (.goto 5, 3) := by decide +kernel
theorem dL_law_438 : decode cL_law 438 = .ok (.iload 6, 2) := by decide +kernel
theorem dL_law_440 : decode cL_law 440 = .ok (.istore 6, 2) := by decide +kernel
theorem dL_law_442 : decode cL_law 442 = .ok (.iinc 7 1, 3) := by decide +kernel
theorem dL_law_445 : decode cL_law 445 = .ok (.goto (-32), 3) := by decide +kernel
theorem dL_law_448 : decode cL_law 448 = .ok (.aload_n 1, 1) := by decide +kernel
theorem dL_law_449 : decode cL_law 449 = .ok (.bipush 109, 2) := by decide +kernel
theorem dL_law_451 : decode cL_law 451 = .ok (.iconst 0, 1) := by decide +kernel
theorem dL_law_452 : decode cL_law 452 = .ok (.invokestatic 163, 3) := by decide +kernel
theorem dL_law_455 : decode cL_law 455 = .ok (.iload 4, 2) := by decide +kernel
theorem dL_law_457 : decode cL_law 457 = .ok (.ifCond .ne 9, 3) := by decide +kernel
theorem dL_law_460 : decode cL_law 460 = .ok (.sipush (-1005), 3) := by decide +kernel
theorem dL_law_463 : decode cL_law 463 = .ok (.goto 5, 3) := by decide +kernel
theorem dL_law_466 : decode cL_law 466 = .ok (.iload 6, 2) := by decide +kernel
theorem dL_law_468 : decode cL_law 468 = .ok (.if_icmp .eq 5, 3) := by decide +kernel
theorem dL_law_471 : decode cL_law 471 = .ok (.iconst 0, 1) := by decide +kernel
theorem dL_law_472 : decode cL_law 472 = .ok (.ireturn, 1) := by decide +kernel
theorem dL_law_473 : decode cL_law 473 = .ok (.ldc 117, 2) := by decide +kernel
theorem dL_law_475 : decode cL_law 475 = .ok (.istore 7, 2) := by decide +kernel
theorem dL_law_477 : decode cL_law 477 = .ok (.aload_n 1, 1) := by decide +kernel
theorem dL_law_478 : decode cL_law 478 = .ok (.bipush 102, 2) := by decide +kernel
theorem dL_law_480 : decode cL_law 480 = .ok (.iconst 5, 1) := by decide +kernel
theorem dL_law_481 : decode cL_law 481 = .ok (.newarray .int, 2) := by decide +kernel
theorem dL_law_483 : decode cL_law 483 = .ok (.dup, 1) := by decide +kernel
theorem dL_law_484 : decode cL_law 484 = .ok (.iconst 0, 1) := by decide +kernel
theorem dL_law_485 : decode cL_law 485 = .ok (.iconst 0, 1) := by decide +kernel
theorem dL_law_486 : decode cL_law 486 = .ok (.iastore, 1) := by decide +kernel
theorem dL_law_487 : decode cL_law 487 = .ok (.dup, 1) := by decide +kernel
theorem dL_law_488 : decode cL_law 488 = .ok (.iconst 1, 1) := by decide +kernel
theorem dL_law_489 : decode cL_law 489 = .ok (.iconst 0, 1) := by decide +kernel
theorem dL_law_490 : decode cL_law 490 = .ok (.iastore, 1) := by decide +kernel
theorem dL_law_491 : decode cL_law 491 = .ok (.dup, 1) := by decide +kernel
theorem dL_law_492 : decode cL_law 492 = .ok (.iconst 2, 1) := by decide +kernel
theorem dL_law_493 : decode cL_law 493 = .ok (.bipush 17, 2) := by decide +kernel
theorem dL_law_495 : decode cL_law 495 = .ok (.iastore, 1) := by decide +kernel
theorem dL_law_496 : decode cL_law 496 = .ok (.dup, 1) := by decide +kernel
theorem dL_law_497 : decode cL_law 497 = .ok (.iconst 3, 1) := by decide +kernel
theorem dL_law_498 : decode cL_law 498 = .ok (.iconst 1, 1) := by decide +kernel
theorem dL_law_499 : decode cL_law 499 = .ok (.iastore, 1) := by decide +kernel
theorem dL_law_500 : decode cL_law 500 = .ok (.dup, 1) := by decide +kernel
theorem dL_law_501 : decode cL_law 501 = .ok (.iconst 4, 1) := by decide +kernel
theorem dL_law_502 : decode cL_law 502 = .ok (.iconst 0, 1) := by decide +kernel
theorem dL_law_503 : decode cL_law 503 = .ok (.iastore, 1) := by decide +kernel
theorem dL_law_504 : decode cL_law 504 = .ok (.invokestatic 130, 3) := by decide +kernel
theorem dL_law_507 : decode cL_law 507 = .ok (.iload 7, 2) := by decide +kernel
theorem dL_law_509 : decode cL_law 509 = .ok (.if_icmp .ne 297, 3) := by decide +kernel
theorem dL_law_512 : decode cL_law 512 = .ok (.aload_n 1, 1) := by decide +kernel
theorem dL_law_513 : decode cL_law 513 = .ok (.bipush 102, 2) := by decide +kernel
theorem dL_law_515 : decode cL_law 515 = .ok (.iconst 5, 1) := by decide +kernel
theorem dL_law_516 : decode cL_law 516 = .ok (.newarray .int, 2) := by decide +kernel
theorem dL_law_518 : decode cL_law 518 = .ok (.dup, 1) := by decide +kernel
theorem dL_law_519 : decode cL_law 519 = .ok (.iconst 0, 1) := by decide +kernel
theorem dL_law_520 : decode cL_law 520 = .ok (.bipush 15, 2) := by decide +kernel
theorem dL_law_522 : decode cL_law 522 = .ok (.iastore, 1) := by decide +kernel
theorem dL_law_523 : decode cL_law 523 = .ok (.dup, 1) := by decide +kernel
theorem dL_law_524 : decode cL_law 524 = .ok (.iconst 1, 1) := by decide +kernel
theorem dL_law_525 : decode cL_law 525 = .ok (.bipush 15, 2) := by decide +kernel
theorem dL_law_527 : decode cL_law 527 = .ok (.iastore, 1) := by decide +kernel
theorem dL_law_528 : decode cL_law 528 = .ok (.dup, 1) := by decide +kernel
theorem dL_law_529 : decode cL_law 529 = .ok (.iconst 2, 1) := by decide +kernel
theorem dL_law_530 : decode cL_law 530 = .ok (.iconst 1, 1) := by decide +kernel
theorem dL_law_531 : decode cL_law 531 = .ok (.iastore, 1) := by decide +kernel
theorem dL_law_532 : decode cL_law 532 = .ok (.dup, 1) := by decide +kernel
theorem dL_law_533 : decode cL_law 533 = .ok (.iconst 3, 1) := by decide +kernel
theorem dL_law_534 : decode cL_law 534 = .ok (.iconst 2, 1) := by decide +kernel
theorem dL_law_535 : decode cL_law 535 = .ok (.iastore, 1) := by decide +kernel
theorem dL_law_536 : decode cL_law 536 = .ok (.dup, 1) := by decide +kernel
theorem dL_law_537 : decode cL_law 537 = .ok (.iconst 4, 1) := by decide +kernel
theorem dL_law_538 : decode cL_law 538 = .ok (.iconst 0, 1) := by decide +kernel
theorem dL_law_539 : decode cL_law 539 = .ok (.iastore, 1) := by decide +kernel
theorem dL_law_540 : decode cL_law 540 = .ok (.invokestatic 130, 3) := by decide +kernel
theorem dL_law_543 : decode cL_law 543 = .ok (.iload 7, 2) := by decide +kernel
theorem dL_law_545 : decode cL_law 545 = .ok (.if_icmp .ne 261, 3) := by decide +kernel
theorem dL_law_548 : decode cL_law 548 = .ok (.aload_n 1, 1) := by decide +kernel
theorem dL_law_549 : decode cL_law 549 = .ok (.bipush 102, 2) := by decide +kernel
theorem dL_law_551 : decode cL_law 551 = .ok (.iconst 5, 1) := by decide +kernel
theorem dL_law_552 : decode cL_law 552 = .ok (.newarray .int, 2) := by decide +kernel
theorem dL_law_554 : decode cL_law 554 = .ok (.dup, 1) := by decide +kernel
theorem dL_law_555 : decode cL_law 555 = .ok (.iconst 0, 1) := by decide +kernel
theorem dL_law_556 : decode cL_law 556 = .ok (.iconst (-1), 1) := by decide +kernel
theorem dL_law_557 : decode cL_law 557 = .ok (.iastore, 1) := by decide +kernel
theorem dL_law_558 : decode cL_law 558 = .ok (.dup, 1) := by decide +kernel
theorem dL_law_559 : decode cL_law 559 = .ok (.iconst 1, 1) := by decide +kernel
theorem dL_law_560 : decode cL_law 560 = .ok (.iconst 0, 1) := by decide +kernel
theorem dL_law_561 : decode cL_law 561 = .ok (.iastore, 1) := by decide +kernel
theorem dL_law_562 : decode cL_law 562 = .ok (.dup, 1) := by decide +kernel
theorem dL_law_563 : decode cL_law 563 = .ok (.iconst 2, 1) := by decide +kernel
theorem dL_law_564 : decode cL_law 564 = .ok (.iconst 1, 1) := by decide +kernel
theorem dL_law_565 : decode cL_law 565 = .ok (.iastore, 1) := by decide +kernel
theorem dL_law_566 : decode cL_law 566 = .ok (.dup, 1) := by decide +kernel
theorem dL_law_567 : decode cL_law 567 = .ok (.iconst 3, 1) := by decide +kernel
theorem dL_law_568 : decode cL_law 568 = .ok (.iconst 1, 1) := by decide +kernel
theorem dL_law_569 : decode cL_law 569 = .ok (.iastore, 1) := by decide +kernel
theorem dL_law_570 : decode cL_law 570 = .ok (.dup, 1) := by decide +kernel
theorem dL_law_571 : decode cL_law 571 = .ok (.iconst 4, 1) := by decide +kernel
theorem dL_law_572 : decode cL_law 572 = .ok (.iconst 0, 1) := by decide +kernel
theorem dL_law_573 : decode cL_law 573 = .ok (.iastore, 1) := by decide +kernel
theorem dL_law_574 : decode cL_law 574 = .ok (.invokestatic 130, 3) := by decide +kernel
theorem dL_law_577 : decode cL_law 577 = .ok (.iload 7, 2) := by decide +kernel
theorem dL_law_579 : decode cL_law 579 = .ok (.if_icmp .ne 227, 3) := by decide +kernel
theorem dL_law_582 : decode cL_law 582 = .ok (.aload_n 1, 1) := by decide +kernel
theorem dL_law_583 : decode cL_law 583 = .ok (.bipush 102, 2) := by decide +kernel
theorem dL_law_585 : decode cL_law 585 = .ok (.iconst 5, 1) := by decide +kernel
theorem dL_law_586 : decode cL_law 586 = .ok (.newarray .int, 2) := by decide +kernel
theorem dL_law_588 : decode cL_law 588 = .ok (.dup, 1) := by decide +kernel
theorem dL_law_589 : decode cL_law 589 = .ok (.iconst 0, 1) := by decide +kernel
theorem dL_law_590 : decode cL_law 590 = .ok (.iconst 0, 1) := by decide +kernel
theorem dL_law_591 : decode cL_law 591 = .ok (.iastore, 1) := by decide +kernel
theorem dL_law_592 : decode cL_law 592 = .ok (.dup, 1) := by decide +kernel
theorem dL_law_593 : decode cL_law 593 = .ok (.iconst 1, 1) := by decide +kernel
theorem dL_law_594 : decode cL_law 594 = .ok (.iconst 0, 1) := by decide +kernel
theorem dL_law_595 : decode cL_law 595 = .ok (.iastore, 1) := by decide +kernel
theorem dL_law_596 : decode cL_law 596 = .ok (.dup, 1) := by decide +kernel
theorem dL_law_597 : decode cL_law 597 = .ok (.iconst 2, 1) := by decide +kernel
theorem dL_law_598 : decode cL_law 598 = .ok (.iconst 0, 1) := by decide +kernel
theorem dL_law_599 : decode cL_law 599 = .ok (.iastore, 1) := by decide +kernel
theorem dL_law_600 : decode cL_law 600 = .ok (.dup, 1) := by decide +kernel
theorem dL_law_601 : decode cL_law 601 = .ok (.iconst 3, 1) := by decide +kernel
theorem dL_law_602 : decode cL_law 602 = .ok (.iconst 1, 1) := by decide +kernel
theorem dL_law_603 : decode cL_law 603 = .ok (.iastore, 1) := by decide +kernel
theorem dL_law_604 : decode cL_law 604 = .ok (.dup, 1) := by decide +kernel
theorem dL_law_605 : decode cL_law 605 = .ok (.iconst 4, 1) := by decide +kernel
theorem dL_law_606 : decode cL_law 606 = .ok (.iconst 0, 1) := by decide +kernel
theorem dL_law_607 : decode cL_law 607 = .ok (.iastore, 1) := by decide +kernel
theorem dL_law_608 : decode cL_law 608 = .ok (.invokestatic 130, 3) := by decide +kernel
theorem dL_law_611 : decode cL_law 611 = .ok (.iload 7, 2) := by decide +kernel
theorem dL_law_613 : decode cL_law 613 = .ok (.if_icmp .ne 193, 3) := by decide +kernel
theorem dL_law_616 : decode cL_law 616 = .ok (.aload_n 1, 1) := by decide +kernel
theorem dL_law_617 : decode cL_law 617 = .ok (.bipush 102, 2) := by decide +kernel
theorem dL_law_619 : decode cL_law 619 = .ok (.iconst 5, 1) := by decide +kernel
theorem dL_law_620 : decode cL_law 620 = .ok (.newarray .int, 2) := by decide +kernel
theorem dL_law_622 : decode cL_law 622 = .ok (.dup, 1) := by decide +kernel
theorem dL_law_623 : decode cL_law 623 = .ok (.iconst 0, 1) := by decide +kernel
theorem dL_law_624 : decode cL_law 624 = .ok (.iconst 0, 1) := by decide +kernel
theorem dL_law_625 : decode cL_law 625 = .ok (.iastore, 1) := by decide +kernel
theorem dL_law_626 : decode cL_law 626 = .ok (.dup, 1) := by decide +kernel
theorem dL_law_627 : decode cL_law 627 = .ok (.iconst 1, 1) := by decide +kernel
theorem dL_law_628 : decode cL_law 628 = .ok (.iconst 0, 1) := by decide +kernel
theorem dL_law_629 : decode cL_law 629 = .ok (.iastore, 1) := by decide +kernel
theorem dL_law_630 : decode cL_law 630 = .ok (.dup, 1) := by decide +kernel
theorem dL_law_631 : decode cL_law 631 = .ok (.iconst 2, 1) := by decide +kernel
theorem dL_law_632 : decode cL_law 632 = .ok (.iconst 1, 1) := by decide +kernel
theorem dL_law_633 : decode cL_law 633 = .ok (.iastore, 1) := by decide +kernel
theorem dL_law_634 : decode cL_law 634 = .ok (.dup, 1) := by decide +kernel
theorem dL_law_635 : decode cL_law 635 = .ok (.iconst 3, 1) := by decide +kernel
theorem dL_law_636 : decode cL_law 636 = .ok (.iconst 1, 1) := by decide +kernel
theorem dL_law_637 : decode cL_law 637 = .ok (.iastore, 1) := by decide +kernel
theorem dL_law_638 : decode cL_law 638 = .ok (.dup, 1) := by decide +kernel
theorem dL_law_639 : decode cL_law 639 = .ok (.iconst 4, 1) := by decide +kernel
theorem dL_law_640 : decode cL_law 640 = .ok (.sipush 256, 3) := by decide +kernel
theorem dL_law_643 : decode cL_law 643 = .ok (.iastore, 1) := by decide +kernel
theorem dL_law_644 : decode cL_law 644 = .ok (.invokestatic 130, 3) := by decide +kernel
theorem dL_law_647 : decode cL_law 647 = .ok (.iload 7, 2) := by decide +kernel
theorem dL_law_649 : decode cL_law 649 = .ok (.if_icmp .ne 157, 3) := by decide +kernel
theorem dL_law_652 : decode cL_law 652 = .ok (.aload_n 1, 1) := by decide +kernel
theorem dL_law_653 : decode cL_law 653 = .ok (.bipush 115, 2) := by decide +kernel
theorem dL_law_655 : decode cL_law 655 = .ok (.iconst 3, 1) := by decide +kernel
theorem dL_law_656 : decode cL_law 656 = .ok (.newarray .int, 2) := by decide +kernel
theorem dL_law_658 : decode cL_law 658 = .ok (.dup, 1) := by decide +kernel
theorem dL_law_659 : decode cL_law 659 = .ok (.iconst 0, 1) := by decide +kernel
theorem dL_law_660 : decode cL_law 660 = .ok (.sipush 256, 3) := by decide +kernel
theorem dL_law_663 : decode cL_law 663 = .ok (.iastore, 1) := by decide +kernel
theorem dL_law_664 : decode cL_law 664 = .ok (.dup, 1) := by decide +kernel
theorem dL_law_665 : decode cL_law 665 = .ok (.iconst 1, 1) := by decide +kernel
theorem dL_law_666 : decode cL_law 666 = .ok (.iconst 0, 1) := by decide +kernel
theorem dL_law_667 : decode cL_law 667 = .ok (.iastore, 1) := by decide +kernel
theorem dL_law_668 : decode cL_law 668 = .ok (.dup, 1) := by decide +kernel
theorem dL_law_669 : decode cL_law 669 = .ok (.iconst 2, 1) := by decide +kernel
theorem dL_law_670 : decode cL_law 670 = .ok (.iconst 0, 1) := by decide +kernel
theorem dL_law_671 : decode cL_law 671 = .ok (.iastore, 1) := by decide +kernel
theorem dL_law_672 : decode cL_law 672 = .ok (.invokestatic 130, 3) := by decide +kernel
theorem dL_law_675 : decode cL_law 675 = .ok (.iload 7, 2) := by decide +kernel
theorem dL_law_677 : decode cL_law 677 = .ok (.if_icmp .ne 129, 3) := by decide +kernel
theorem dL_law_680 : decode cL_law 680 = .ok (.aload_n 1, 1) := by decide +kernel
theorem dL_law_681 : decode cL_law 681 = .ok (.bipush 115, 2) := by decide +kernel
theorem dL_law_683 : decode cL_law 683 = .ok (.iconst 3, 1) := by decide +kernel
theorem dL_law_684 : decode cL_law 684 = .ok (.newarray .int, 2) := by decide +kernel
theorem dL_law_686 : decode cL_law 686 = .ok (.dup, 1) := by decide +kernel
theorem dL_law_687 : decode cL_law 687 = .ok (.iconst 0, 1) := by decide +kernel
theorem dL_law_688 : decode cL_law 688 = .ok (.iconst 0, 1) := by decide +kernel
theorem dL_law_689 : decode cL_law 689 = .ok (.iastore, 1) := by decide +kernel
theorem dL_law_690 : decode cL_law 690 = .ok (.dup, 1) := by decide +kernel
theorem dL_law_691 : decode cL_law 691 = .ok (.iconst 1, 1) := by decide +kernel
theorem dL_law_692 : decode cL_law 692 = .ok (.bipush 100, 2) := by decide +kernel
theorem dL_law_694 : decode cL_law 694 = .ok (.iastore, 1) := by decide +kernel
theorem dL_law_695 : decode cL_law 695 = .ok (.dup, 1) := by decide +kernel
theorem dL_law_696 : decode cL_law 696 = .ok (.iconst 2, 1) := by decide +kernel
theorem dL_law_697 : decode cL_law 697 = .ok (.iconst 0, 1) := by decide +kernel
theorem dL_law_698 : decode cL_law 698 = .ok (.iastore, 1) := by decide +kernel
theorem dL_law_699 : decode cL_law 699 = .ok (.invokestatic 130, 3) := by decide +kernel
theorem dL_law_702 : decode cL_law 702 = .ok (.iload 7, 2) := by decide +kernel
theorem dL_law_704 : decode cL_law 704 = .ok (.if_icmp .ne 102, 3) := by decide +kernel
theorem dL_law_707 : decode cL_law 707 = .ok (.aload_n 1, 1) := by decide +kernel
theorem dL_law_708 : decode cL_law 708 = .ok (.bipush 103, 2) := by decide +kernel
theorem dL_law_710 : decode cL_law 710 = .ok (.iconst 2, 1) := by decide +kernel
theorem dL_law_711 : decode cL_law 711 = .ok (.newarray .int, 2) := by decide +kernel
theorem dL_law_713 : decode cL_law 713 = .ok (.dup, 1) := by decide +kernel
theorem dL_law_714 : decode cL_law 714 = .ok (.iconst 0, 1) := by decide +kernel
theorem dL_law_715 : decode cL_law 715 = .ok (.iconst 0, 1) := by decide +kernel
theorem dL_law_716 : decode cL_law 716 = .ok (.iastore, 1) := by decide +kernel
theorem dL_law_717 : decode cL_law 717 = .ok (.dup, 1) := by decide +kernel
theorem dL_law_718 : decode cL_law 718 = .ok (.iconst 1, 1) := by decide +kernel
theorem dL_law_719 : decode cL_law 719 = .ok (.iconst 0, 1) := by decide +kernel
theorem dL_law_720 : decode cL_law 720 = .ok (.iastore, 1) := by decide +kernel
theorem dL_law_721 : decode cL_law 721 = .ok (.invokestatic 130, 3) := by decide +kernel
theorem dL_law_724 : decode cL_law 724 = .ok (.iload 7, 2) := by decide +kernel
theorem dL_law_726 : decode cL_law 726 = .ok (.if_icmp .ne 80, 3) := by decide +kernel
theorem dL_law_729 : decode cL_law 729 = .ok (.aload_n 1, 1) := by decide +kernel
theorem dL_law_730 : decode cL_law 730 = .ok (.bipush 103, 2) := by decide +kernel
theorem dL_law_732 : decode cL_law 732 = .ok (.iconst 2, 1) := by decide +kernel
theorem dL_law_733 : decode cL_law 733 = .ok (.newarray .int, 2) := by decide +kernel
theorem dL_law_735 : decode cL_law 735 = .ok (.dup, 1) := by decide +kernel
theorem dL_law_736 : decode cL_law 736 = .ok (.iconst 0, 1) := by decide +kernel
theorem dL_law_737 : decode cL_law 737 = .ok (.iconst 0, 1) := by decide +kernel
theorem dL_law_738 : decode cL_law 738 = .ok (.iastore, 1) := by decide +kernel
theorem dL_law_739 : decode cL_law 739 = .ok (.dup, 1) := by decide +kernel
theorem dL_law_740 : decode cL_law 740 = .ok (.iconst 1, 1) := by decide +kernel
theorem dL_law_741 : decode cL_law 741 = .ok (.bipush 100, 2) := by decide +kernel
