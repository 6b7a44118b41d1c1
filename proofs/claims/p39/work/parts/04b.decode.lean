theorem dX3_build_106 : decode cX3_build 106 = .ok (.aload_n 0, 1) := by decide +kernel
theorem dX3_build_107 : decode cX3_build 107 = .ok (.iload 4, 2) := by decide +kernel
theorem dX3_build_109 : decode cX3_build 109 = .ok (.invokevirtual 137, 3) := by decide +kernel
theorem dX3_build_112 : decode cX3_build 112 = .ok (.goto 60, 3) := by decide +kernel
theorem dX3_build_115 : decode cX3_build 115 = .ok (.aload_n 1, 1) := by decide +kernel
theorem dX3_build_116 : decode cX3_build 116 = .ok (.iload_n 3, 1) := by decide +kernel
theorem dX3_build_117 : decode cX3_build 117 = .ok (.invokevirtual 141, 3) := by decide +kernel
theorem dX3_build_120 : decode cX3_build 120 = .ok (.ifCond .eq 38, 3) := by decide +kernel
theorem dX3_build_123 : decode cX3_build 123 = .ok (.aload_n 1, 1) := by decide +kernel
theorem dX3_build_124 : decode cX3_build 124 = .ok (.aload_n 0, 1) := by decide +kernel
theorem dX3_build_125 : decode cX3_build 125 = .ok (.getfield 21, 3) := by decide +kernel
theorem dX3_build_128 : decode cX3_build 128 = .ok (.iload_n 3, 1) := by decide +kernel
theorem dX3_build_129 : decode cX3_build 129 = .ok (.invokevirtual 145, 3) := by decide +kernel
theorem dX3_build_132 : decode cX3_build 132 = .ok (.aload_n 0, 1) := by decide +kernel
theorem dX3_build_133 : decode cX3_build 133 = .ok (.getfield 12, 3) := by decide +kernel
theorem dX3_build_136 : decode cX3_build 136 = .ok (.aload_n 0, 1) := by decide +kernel
theorem dX3_build_137 : decode cX3_build 137 = .ok (.getfield 25, 3) := by decide +kernel
theorem dX3_build_140 : decode cX3_build 140 = .ok (.aload_n 0, 1) := by decide +kernel
theorem dX3_build_141 : decode cX3_build 141 = .ok (.getfield 21, 3) := by decide +kernel
theorem dX3_build_144 : decode cX3_build 144 = .ok (.invokevirtual 149, 3) := by decide +kernel
theorem dX3_build_147 : decode cX3_build 147 = .ok (.aload_n 0, 1) := by decide +kernel
theorem dX3_build_148 : decode cX3_build 148 = .ok (.getfield 12, 3) := by decide +kernel
theorem dX3_build_151 : decode cX3_build 151 = .ok (.aload_n 0, 1) := by decide +kernel
theorem dX3_build_152 : decode cX3_build 152 = .ok (.getfield 21, 3) := by decide +kernel
theorem dX3_build_155 : decode cX3_build 155 = .ok (.invokevirtual 153, 3) := by decide +kernel
theorem dX3_build_158 : decode cX3_build 158 = .ok (.aload_n 0, 1) := by decide +kernel
theorem dX3_build_159 : decode cX3_build 159 = .ok (.getfield 12, 3) := by decide +kernel
theorem dX3_build_162 : decode cX3_build 162 = .ok (.aload_n 1, 1) := by decide +kernel
theorem dX3_build_163 : decode cX3_build 163 = .ok (.aload_n 0, 1) := by decide +kernel
theorem dX3_build_164 : decode cX3_build 164 = .ok (.getfield 25, 3) := by decide +kernel
theorem dX3_build_167 : decode cX3_build 167 = .ok (.iload 4, 2) := by decide +kernel
theorem dX3_build_169 : decode cX3_build 169 = .ok (.invokevirtual 157, 3) := by decide +kernel
theorem dX3_build_172 : decode cX3_build 172 = .ok (.iinc 3 1, 3) := by decide +kernel
theorem dX3_build_175 : decode cX3_build 175 = .ok (.goto (-115), 3) := by decide +kernel
theorem dX3_build_178 : decode cX3_build 178 = .ok (.aload_n 0, 1) := by decide +kernel
theorem dX3_build_179 : decode cX3_build 179 = .ok (.getfield 12, 3) := by decide +kernel
theorem dX3_build_182 : decode cX3_build 182 = .ok (.aload_n 1, 1) := by decide +kernel
theorem dX3_build_183 : decode cX3_build 183 = .ok (.aload_n 0, 1) := by decide +kernel
theorem dX3_build_184 : decode cX3_build 184 = .ok (.getfield 25, 3) := by decide +kernel
theorem dX3_build_187 : decode cX3_build 187 = .ok (.invokevirtual 161, 3) := by decide +kernel
theorem dX3_build_190 : decode cX3_build 190 = .ok (.return_, 1) := by decide +kernel
theorem dX3_conceal_0 : decode cX3_conceal 0 = .ok (.iconst 0, 1) := by decide +kernel
theorem dX3_conceal_1 : decode cX3_conceal 1 = .ok (.istore_n 2, 1) := by decide +kernel
theorem dX3_conceal_2 : decode cX3_conceal 2 = .ok (.iload_n 2, 1) := by decide +kernel
theorem dX3_conceal_3 : decode cX3_conceal 3 = .ok (.bipush 16, 2) := by decide +kernel
theorem dX3_conceal_5 : decode cX3_conceal 5 = .ok (.if_icmp .ge 32, 3) := by decide +kernel
theorem dX3_conceal_8 : decode cX3_conceal 8 = .ok (.iload_n 1, 1) := by decide +kernel
theorem dX3_conceal_9 : decode cX3_conceal 9 = .ok (.iload_n 2, 1) := by decide +kernel
theorem dX3_conceal_10 : decode cX3_conceal 10 = .ok (.invokestatic 165, 3) := by decide +kernel
theorem dX3_conceal_13 : decode cX3_conceal 13 = .ok (.iadd, 1) := by decide +kernel
theorem dX3_conceal_14 : decode cX3_conceal 14 = .ok (.istore_n 3, 1) := by decide +kernel
theorem dX3_conceal_15 : decode cX3_conceal 15 = .ok (.aload_n 0, 1) := by decide +kernel
theorem dX3_conceal_16 : decode cX3_conceal 16 = .ok (.getfield 25, 3) := by decide +kernel
theorem dX3_conceal_19 : decode cX3_conceal 19 = .ok (.iload_n 3, 1) := by decide +kernel
theorem dX3_conceal_20 : decode cX3_conceal 20 = .ok (.aload_n 0, 1) := by decide +kernel
theorem dX3_conceal_21 : decode cX3_conceal 21 = .ok (.getfield 40, 3) := by decide +kernel
theorem dX3_conceal_24 : decode cX3_conceal 24 = .ok (.iload_n 3, 1) := by decide +kernel
theorem dX3_conceal_25 : decode cX3_conceal 25 = .ok (.invokestatic 91, 3) := by decide +kernel
theorem dX3_conceal_28 : decode cX3_conceal 28 = .ok (.invokestatic 104, 3) := by decide +kernel
theorem dX3_conceal_31 : decode cX3_conceal 31 = .ok (.iinc 2 1, 3) := by decide +kernel
theorem dX3_conceal_34 : decode cX3_conceal 34 = .ok (.goto (-32), 3) := by decide +kernel
theorem dX3_conceal_37 : decode cX3_conceal 37 = .ok (.return_, 1) := by decide +kernel
theorem dX4_init_0 : decode cX4_init 0 = .ok (.aload_n 0, 1) := by decide +kernel
theorem dX4_init_1 : decode cX4_init 1 = .ok (.invokespecial 3, 3) := by decide +kernel
theorem dX4_init_4 : decode cX4_init 4 = .ok (.aload_n 0, 1) := by decide +kernel
theorem dX4_init_5 : decode cX4_init 5 = .ok (.sipush 2209, 3) := by decide +kernel
theorem dX4_init_8 : decode cX4_init 8 = .ok (.newarray .int, 2) := by decide +kernel
theorem dX4_init_10 : decode cX4_init 10 = .ok (.putfield 11, 3) := by decide +kernel
theorem dX4_init_13 : decode cX4_init 13 = .ok (.return_, 1) := by decide +kernel
theorem dX4_take_0 : decode cX4_take 0 = .ok (.iconst 0, 1) := by decide +kernel
theorem dX4_take_1 : decode cX4_take 1 = .ok (.istore_n 3, 1) := by decide +kernel
theorem dX4_take_2 : decode cX4_take 2 = .ok (.iload_n 3, 1) := by decide +kernel
theorem dX4_take_3 : decode cX4_take 3 = .ok (.bipush 47, 2) := by decide +kernel
theorem dX4_take_5 : decode cX4_take 5 = .ok (.if_icmp .ge 53, 3) := by decide +kernel
theorem dX4_take_8 : decode cX4_take 8 = .ok (.iconst 0, 1) := by decide +kernel
theorem dX4_take_9 : decode cX4_take 9 = .ok (.istore 4, 2) := by decide +kernel
theorem dX4_take_11 : decode cX4_take 11 = .ok (.iload 4, 2) := by decide +kernel
theorem dX4_take_13 : decode cX4_take 13 = .ok (.bipush 47, 2) := by decide +kernel
theorem dX4_take_15 : decode cX4_take 15 = .ok (.if_icmp .ge 37, 3) := by decide +kernel
theorem dX4_take_18 : decode cX4_take 18 = .ok (.aload_n 0, 1) := by decide +kernel
theorem dX4_take_19 : decode cX4_take 19 = .ok (.getfield 11, 3) := by decide +kernel
theorem dX4_take_22 : decode cX4_take 22 = .ok (.bipush 47, 2) := by decide +kernel
theorem dX4_take_24 : decode cX4_take 24 = .ok (.iload_n 3, 1) := by decide +kernel
theorem dX4_take_25 : decode cX4_take 25 = .ok (.imul, 1) := by decide +kernel
theorem dX4_take_26 : decode cX4_take 26 = .ok (.iload 4, 2) := by decide +kernel
theorem dX4_take_28 : decode cX4_take 28 = .ok (.iadd, 1) := by decide +kernel
theorem dX4_take_29 : decode cX4_take 29 = .ok (.aload_n 1, 1) := by decide +kernel
theorem dX4_take_30 : decode cX4_take 30 = .ok (.iload_n 2, 1) := by decide +kernel
theorem dX4_take_31 : decode cX4_take 31 = .ok (.iload 4, 2) := by decide +kernel
theorem dX4_take_33 : decode cX4_take 33 = .ok (.bipush 8, 2) := by decide +kernel
theorem dX4_take_35 : decode cX4_take 35 = .ok (.isub, 1) := by decide +kernel
theorem dX4_take_36 : decode cX4_take 36 = .ok (.iload_n 3, 1) := by decide +kernel
theorem dX4_take_37 : decode cX4_take 37 = .ok (.bipush 8, 2) := by decide +kernel
theorem dX4_take_39 : decode cX4_take 39 = .ok (.isub, 1) := by decide +kernel
theorem dX4_take_40 : decode cX4_take 40 = .ok (.invokestatic 15, 3) := by decide +kernel
theorem dX4_take_43 : decode cX4_take 43 = .ok (.invokestatic 19, 3) := by decide +kernel
theorem dX4_take_46 : decode cX4_take 46 = .ok (.iinc 4 1, 3) := by decide +kernel
theorem dX4_take_49 : decode cX4_take 49 = .ok (.goto (-38), 3) := by decide +kernel
theorem dX4_take_52 : decode cX4_take 52 = .ok (.iinc 3 1, 3) := by decide +kernel
theorem dX4_take_55 : decode cX4_take 55 = .ok (.goto (-53), 3) := by decide +kernel
theorem dX4_take_58 : decode cX4_take 58 = .ok (.return_, 1) := by decide +kernel
theorem dX4_between_0 : decode cX4_between 0 = .ok (.iload_n 2, 1) := by decide +kernel
theorem dX4_between_1 : decode cX4_between 1 = .ok (.iconst 1, 1) := by decide +kernel
theorem dX4_between_2 : decode cX4_between 2 = .ok (.ishr, 1) := by decide +kernel
theorem dX4_between_3 : decode cX4_between 3 = .ok (.invokestatic 25, 3) := by decide +kernel
theorem dX4_between_6 : decode cX4_between 6 = .ok (.istore 4, 2) := by decide +kernel
theorem dX4_between_8 : decode cX4_between 8 = .ok (.iload_n 2, 1) := by decide +kernel
theorem dX4_between_9 : decode cX4_between 9 = .ok (.iconst 1, 1) := by decide +kernel
theorem dX4_between_10 : decode cX4_between 10 = .ok (.iadd, 1) := by decide +kernel
theorem dX4_between_11 : decode cX4_between 11 = .ok (.iconst 1, 1) := by decide +kernel
theorem dX4_between_12 : decode cX4_between 12 = .ok (.ishr, 1) := by decide +kernel
theorem dX4_between_13 : decode cX4_between 13 = .ok (.invokestatic 25, 3) := by decide +kernel
theorem dX4_between_16 : decode cX4_between 16 = .ok (.istore 5, 2) := by decide +kernel
theorem dX4_between_18 : decode cX4_between 18 = .ok (.iload_n 1, 1) := by decide +kernel
theorem dX4_between_19 : decode cX4_between 19 = .ok (.bipush 16, 2) := by decide +kernel
theorem dX4_between_21 : decode cX4_between 21 = .ok (.iload_n 3, 1) := by decide +kernel
theorem dX4_between_22 : decode cX4_between 22 = .ok (.iconst 1, 1) := by decide +kernel
theorem dX4_between_23 : decode cX4_between 23 = .ok (.ishr, 1) := by decide +kernel
theorem dX4_between_24 : decode cX4_between 24 = .ok (.invokestatic 25, 3) := by decide +kernel
theorem dX4_between_27 : decode cX4_between 27 = .ok (.imul, 1) := by decide +kernel
theorem dX4_between_28 : decode cX4_between 28 = .ok (.iadd, 1) := by decide +kernel
theorem dX4_between_29 : decode cX4_between 29 = .ok (.istore 6, 2) := by decide +kernel
theorem dX4_between_31 : decode cX4_between 31 = .ok (.iload_n 1, 1) := by decide +kernel
theorem dX4_between_32 : decode cX4_between 32 = .ok (.bipush 16, 2) := by decide +kernel
theorem dX4_between_34 : decode cX4_between 34 = .ok (.iload_n 3, 1) := by decide +kernel
theorem dX4_between_35 : decode cX4_between 35 = .ok (.iconst 1, 1) := by decide +kernel
theorem dX4_between_36 : decode cX4_between 36 = .ok (.iadd, 1) := by decide +kernel
theorem dX4_between_37 : decode cX4_between 37 = .ok (.iconst 1, 1) := by decide +kernel
theorem dX4_between_38 : decode cX4_between 38 = .ok (.ishr, 1) := by decide +kernel
theorem dX4_between_39 : decode cX4_between 39 = .ok (.invokestatic 25, 3) := by decide +kernel
theorem dX4_between_42 : decode cX4_between 42 = .ok (.imul, 1) := by decide +kernel
theorem dX4_between_43 : decode cX4_between 43 = .ok (.iadd, 1) := by decide +kernel
theorem dX4_between_44 : decode cX4_between 44 = .ok (.istore 7, 2) := by decide +kernel
theorem dX4_between_46 : decode cX4_between 46 = .ok (.aload_n 0, 1) := by decide +kernel
theorem dX4_between_47 : decode cX4_between 47 = .ok (.iload 6, 2) := by decide +kernel
theorem dX4_between_49 : decode cX4_between 49 = .ok (.iload 4, 2) := by decide +kernel
theorem dX4_between_51 : decode cX4_between 51 = .ok (.iadd, 1) := by decide +kernel
theorem dX4_between_52 : decode cX4_between 52 = .ok (.invokestatic 29, 3) := by decide +kernel
theorem dX4_between_55 : decode cX4_between 55 = .ok (.aload_n 0, 1) := by decide +kernel
theorem dX4_between_56 : decode cX4_between 56 = .ok (.iload 6, 2) := by decide +kernel
theorem dX4_between_58 : decode cX4_between 58 = .ok (.iload 5, 2) := by decide +kernel
theorem dX4_between_60 : decode cX4_between 60 = .ok (.iadd, 1) := by decide +kernel
theorem dX4_between_61 : decode cX4_between 61 = .ok (.invokestatic 29, 3) := by decide +kernel
theorem dX4_between_64 : decode cX4_between 64 = .ok (.iadd, 1) := by decide +kernel
theorem dX4_between_65 : decode cX4_between 65 = .ok (.aload_n 0, 1) := by decide +kernel
theorem dX4_between_66 : decode cX4_between 66 = .ok (.iload 7, 2) := by decide +kernel
theorem dX4_between_68 : decode cX4_between 68 = .ok (.iload 4, 2) := by decide +kernel
theorem dX4_between_70 : decode cX4_between 70 = .ok (.iadd, 1) := by decide +kernel
theorem dX4_between_71 : decode cX4_between 71 = .ok (.invokestatic 29, 3) := by decide +kernel
theorem dX4_between_74 : decode cX4_between 74 = .ok (.iadd, 1) := by decide +kernel
theorem dX4_between_75 : decode cX4_between 75 = .ok (.aload_n 0, 1) := by decide +kernel
theorem dX4_between_76 : decode cX4_between 76 = .ok (.iload 7, 2) := by decide +kernel
theorem dX4_between_78 : decode cX4_between 78 = .ok (.iload 5, 2) := by decide +kernel
theorem dX4_between_80 : decode cX4_between 80 = .ok (.iadd, 1) := by decide +kernel
theorem dX4_between_81 : decode cX4_between 81 = .ok (.invokestatic 29, 3) := by decide +kernel
theorem dX4_between_84 : decode cX4_between 84 = .ok (.iadd, 1) := by decide +kernel
theorem dX4_between_85 : decode cX4_between 85 = .ok (.istore 8, 2) := by decide +kernel
theorem dX4_between_87 : decode cX4_between 87 = .ok (.iload 8, 2) := by decide +kernel
theorem dX4_between_89 : decode cX4_between 89 = .ok (.iconst 2, 1) := by decide +kernel
theorem dX4_between_90 : decode cX4_between 90 = .ok (.iadd, 1) := by decide +kernel
theorem dX4_between_91 : decode cX4_between 91 = .ok (.iconst 2, 1) := by decide +kernel
theorem dX4_between_92 : decode cX4_between 92 = .ok (.ishr, 1) := by decide +kernel
theorem dX4_between_93 : decode cX4_between 93 = .ok (.ireturn, 1) := by decide +kernel
theorem dX4_inside_0 : decode cX4_inside 0 = .ok (.iload_n 0, 1) := by decide +kernel
theorem dX4_inside_1 : decode cX4_inside 1 = .ok (.ifCond .ge 7, 3) := by decide +kernel
theorem dX4_inside_4 : decode cX4_inside 4 = .ok (.iconst 0, 1) := by decide +kernel
theorem dX4_inside_5 : decode cX4_inside 5 = .ok (.goto 15, 3) := by decide +kernel
theorem dX4_inside_8 : decode cX4_inside 8 = .ok (.iload_n 0, 1) := by decide +kernel
theorem dX4_inside_9 : decode cX4_inside 9 = .ok (.bipush 16, 2) := by decide +kernel
theorem dX4_inside_11 : decode cX4_inside 11 = .ok (.if_icmp .lt 8, 3) := by decide +kernel
theorem dX4_inside_14 : decode cX4_inside 14 = .ok (.bipush 15, 2) := by decide +kernel
theorem dX4_inside_16 : decode cX4_inside 16 = .ok (.goto 4, 3) := by decide +kernel
theorem dX4_inside_19 : decode cX4_inside 19 = .ok (.iload_n 0, 1) := by decide +kernel
theorem dX4_inside_20 : decode cX4_inside 20 = .ok (.ireturn, 1) := by decide +kernel
theorem dX4_placeFrom_0 : decode cX4_placeFrom 0 = .ok (.bipush 47, 2) := by decide +kernel
theorem dX4_placeFrom_2 : decode cX4_placeFrom 2 = .ok (.iconst 2, 1) := by decide +kernel
theorem dX4_placeFrom_3 : decode cX4_placeFrom 3 = .ok (.iload_n 2, 1) := by decide +kernel
theorem dX4_placeFrom_4 : decode cX4_placeFrom 4 = .ok (.imul, 1) := by decide +kernel
theorem dX4_placeFrom_5 : decode cX4_placeFrom 5 = .ok (.iload_n 0, 1) := by decide +kernel
theorem dX4_placeFrom_6 : decode cX4_placeFrom 6 = .ok (.bipush 100, 2) := by decide +kernel
theorem dX4_placeFrom_8 : decode cX4_placeFrom 8 = .ok (.irem, 1) := by decide +kernel
theorem dX4_placeFrom_9 : decode cX4_placeFrom 9 = .ok (.iadd, 1) := by decide +kernel
theorem dX4_placeFrom_10 : decode cX4_placeFrom 10 = .ok (.imul, 1) := by decide +kernel
theorem dX4_placeFrom_11 : decode cX4_placeFrom 11 = .ok (.iconst 2, 1) := by decide +kernel
theorem dX4_placeFrom_12 : decode cX4_placeFrom 12 = .ok (.iload_n 1, 1) := by decide +kernel
theorem dX4_placeFrom_13 : decode cX4_placeFrom 13 = .ok (.imul, 1) := by decide +kernel
theorem dX4_placeFrom_14 : decode cX4_placeFrom 14 = .ok (.iadd, 1) := by decide +kernel
theorem dX4_placeFrom_15 : decode cX4_placeFrom 15 = .ok (.iload_n 0, 1) := by decide +kernel
theorem dX4_placeFrom_16 : decode cX4_placeFrom 16 = .ok (.bipush 100, 2) := by decide +kernel
theorem dX4_placeFrom_18 : decode cX4_placeFrom 18 = .ok (.idiv, 1) := by decide +kernel
theorem dX4_placeFrom_19 : decode cX4_placeFrom 19 = .ok (.iadd, 1) := by decide +kernel
theorem dX4_placeFrom_20 : decode cX4_placeFrom 20 = .ok (.ireturn, 1) := by decide +kernel
theorem dX4_guessed_0 : decode cX4_guessed 0 = .ok (.aload_n 0, 1) := by decide +kernel
theorem dX4_guessed_1 : decode cX4_guessed 1 = .ok (.getfield 11, 3) := by decide +kernel
theorem dX4_guessed_4 : decode cX4_guessed 4 = .ok (.iload_n 1, 1) := by decide +kernel
theorem dX4_guessed_5 : decode cX4_guessed 5 = .ok (.iload_n 2, 1) := by decide +kernel
theorem dX4_guessed_6 : decode cX4_guessed 6 = .ok (.iload_n 3, 1) := by decide +kernel
theorem dX4_guessed_7 : decode cX4_guessed 7 = .ok (.invokestatic 33, 3) := by decide +kernel
theorem dX4_guessed_10 : decode cX4_guessed 10 = .ok (.invokestatic 29, 3) := by decide +kernel
theorem dX4_guessed_13 : decode cX4_guessed 13 = .ok (.ireturn, 1) := by decide +kernel
theorem dX4_costOf_0 : decode cX4_costOf 0 = .ok (.iload_n 1, 1) := by decide +kernel
theorem dX4_costOf_1 : decode cX4_costOf 1 = .ok (.invokestatic 37, 3) := by decide +kernel
theorem dX4_costOf_4 : decode cX4_costOf 4 = .ok (.istore 5, 2) := by decide +kernel
theorem dX4_costOf_6 : decode cX4_costOf 6 = .ok (.aload_n 3, 1) := by decide +kernel
theorem dX4_costOf_7 : decode cX4_costOf 7 = .ok (.getfield 42, 3) := by decide +kernel
theorem dX4_costOf_10 : decode cX4_costOf 10 = .ok (.aload_n 3, 1) := by decide +kernel
theorem dX4_costOf_11 : decode cX4_costOf 11 = .ok (.getfield 48, 3) := by decide +kernel
theorem dX4_costOf_14 : decode cX4_costOf 14 = .ok (.invokestatic 51, 3) := by decide +kernel
theorem dX4_costOf_17 : decode cX4_costOf 17 = .ok (.istore 6, 2) := by decide +kernel
theorem dX4_costOf_19 : decode cX4_costOf 19 = .ok (.iload_n 1, 1) := by decide +kernel
theorem dX4_costOf_20 : decode cX4_costOf 20 = .ok (.aload_n 3, 1) := by decide +kernel
theorem dX4_costOf_21 : decode cX4_costOf 21 = .ok (.getfield 42, 3) := by decide +kernel
theorem dX4_costOf_24 : decode cX4_costOf 24 = .ok (.aload_n 3, 1) := by decide +kernel
theorem dX4_costOf_25 : decode cX4_costOf 25 = .ok (.getfield 48, 3) := by decide +kernel
theorem dX4_costOf_28 : decode cX4_costOf 28 = .ok (.invokestatic 33, 3) := by decide +kernel
theorem dX4_costOf_31 : decode cX4_costOf 31 = .ok (.istore 7, 2) := by decide +kernel
theorem dX4_costOf_33 : decode cX4_costOf 33 = .ok (.iconst 0, 1) := by decide +kernel
theorem dX4_costOf_34 : decode cX4_costOf 34 = .ok (.istore 8, 2) := by decide +kernel
theorem dX4_costOf_36 : decode cX4_costOf 36 = .ok (.iload 8, 2) := by decide +kernel
theorem dX4_costOf_38 : decode cX4_costOf 38 = .ok (.aload_n 3, 1) := by decide +kernel
theorem dX4_costOf_39 : decode cX4_costOf 39 = .ok (.getfield 55, 3) := by decide +kernel
theorem dX4_costOf_42 : decode cX4_costOf 42 = .ok (.if_icmp .ge 46, 3) := by decide +kernel
theorem dX4_costOf_45 : decode cX4_costOf 45 = .ok (.iload 5, 2) := by decide +kernel
theorem dX4_costOf_47 : decode cX4_costOf 47 = .ok (.iload 4, 2) := by decide +kernel
theorem dX4_costOf_49 : decode cX4_costOf 49 = .ok (.if_icmp .ge 39, 3) := by decide +kernel
theorem dX4_costOf_52 : decode cX4_costOf 52 = .ok (.iload 5, 2) := by decide +kernel
theorem dX4_costOf_54 : decode cX4_costOf 54 = .ok (.aload_n 0, 1) := by decide +kernel
theorem dX4_costOf_55 : decode cX4_costOf 55 = .ok (.aload_n 2, 1) := by decide +kernel
theorem dX4_costOf_56 : decode cX4_costOf 56 = .ok (.iload 6, 2) := by decide +kernel
theorem dX4_costOf_58 : decode cX4_costOf 58 = .ok (.bipush 16, 2) := by decide +kernel
theorem dX4_costOf_60 : decode cX4_costOf 60 = .ok (.iload 8, 2) := by decide +kernel
theorem dX4_costOf_62 : decode cX4_costOf 62 = .ok (.imul, 1) := by decide +kernel
theorem dX4_costOf_63 : decode cX4_costOf 63 = .ok (.iadd, 1) := by decide +kernel
theorem dX4_costOf_64 : decode cX4_costOf 64 = .ok (.iload 7, 2) := by decide +kernel
theorem dX4_costOf_66 : decode cX4_costOf 66 = .ok (.bipush 94, 2) := by decide +kernel
theorem dX4_costOf_68 : decode cX4_costOf 68 = .ok (.iload 8, 2) := by decide +kernel
theorem dX4_costOf_70 : decode cX4_costOf 70 = .ok (.imul, 1) := by decide +kernel
theorem dX4_costOf_71 : decode cX4_costOf 71 = .ok (.iadd, 1) := by decide +kernel
theorem dX4_costOf_72 : decode cX4_costOf 72 = .ok (.aload_n 3, 1) := by decide +kernel
theorem dX4_costOf_73 : decode cX4_costOf 73 = .ok (.getfield 55, 3) := by decide +kernel
theorem dX4_costOf_76 : decode cX4_costOf 76 = .ok (.invokevirtual 58, 3) := by decide +kernel
theorem dX4_costOf_79 : decode cX4_costOf 79 = .ok (.iadd, 1) := by decide +kernel
theorem dX4_costOf_80 : decode cX4_costOf 80 = .ok (.istore 5, 2) := by decide +kernel
theorem dX4_costOf_82 : decode cX4_costOf 82 = .ok (.iinc 8 1, 3) := by decide +kernel
theorem dX4_costOf_85 : decode cX4_costOf 85 = .ok (.goto (-49), 3) := by decide +kernel
theorem dX4_costOf_88 : decode cX4_costOf 88 = .ok (.iload 5, 2) := by decide +kernel
theorem dX4_costOf_90 : decode cX4_costOf 90 = .ok (.ireturn, 1) := by decide +kernel
theorem dX4_rowDifference_0 : decode cX4_rowDifference 0 = .ok (.iload_n 2, 1) := by decide +kernel
theorem dX4_rowDifference_1 : decode cX4_rowDifference 1 = .ok (.ifCond .lt 32, 3) := by decide +kernel
theorem dX4_rowDifference_4 : decode cX4_rowDifference 4 = .ok (.iload_n 2, 1) := by decide +kernel
theorem dX4_rowDifference_5 : decode cX4_rowDifference 5 = .ok (.iload 4, 2) := by decide +kernel
theorem dX4_rowDifference_7 : decode cX4_rowDifference 7 = .ok (.iadd, 1) := by decide +kernel
theorem dX4_rowDifference_8 : decode cX4_rowDifference 8 = .ok (.aload_n 1, 1) := by decide +kernel
theorem dX4_rowDifference_9 : decode cX4_rowDifference 9 = .ok (.arraylength, 1) := by decide +kernel
theorem dX4_rowDifference_10 : decode cX4_rowDifference 10 = .ok (.if_icmp .gt 23, 3) := by decide +kernel
theorem dX4_rowDifference_13 : decode cX4_rowDifference 13 = .ok (.iload_n 3, 1) := by decide +kernel
theorem dX4_rowDifference_14 : decode cX4_rowDifference 14 = .ok (.ifCond .lt 19, 3) := by decide +kernel
theorem dX4_rowDifference_17 : decode cX4_rowDifference 17 = .ok (.iload_n 3, 1) := by decide +kernel
theorem dX4_rowDifference_18 : decode cX4_rowDifference 18 = .ok (.iconst 2, 1) := by decide +kernel
theorem dX4_rowDifference_19 : decode cX4_rowDifference 19 = .ok (.iload 4, 2) := by decide +kernel
theorem dX4_rowDifference_21 : decode cX4_rowDifference 21 = .ok (.imul, 1) := by decide +kernel
theorem dX4_rowDifference_22 : decode cX4_rowDifference 22 = .ok (.iadd, 1) := by decide +kernel
theorem dX4_rowDifference_23 : decode cX4_rowDifference 23 = .ok (.iconst 1, 1) := by decide +kernel
theorem dX4_rowDifference_24 : decode cX4_rowDifference 24 = .ok (.isub, 1) := by decide +kernel
theorem dX4_rowDifference_25 : decode cX4_rowDifference 25 = .ok (.aload_n 0, 1) := by decide +kernel
theorem dX4_rowDifference_26 : decode cX4_rowDifference 26 = .ok (.getfield 11, 3) := by decide +kernel
theorem dX4_rowDifference_29 : decode cX4_rowDifference 29 = .ok (.arraylength, 1) := by decide +kernel
theorem dX4_rowDifference_30 : decode cX4_rowDifference 30 = .ok (.if_icmp .le 5, 3) := by decide +kernel
theorem dX4_rowDifference_33 : decode cX4_rowDifference 33 = .ok (.iconst 0, 1) := by decide +kernel
theorem dX4_rowDifference_34 : decode cX4_rowDifference 34 = .ok (.ireturn, 1) := by decide +kernel
theorem dX4_rowDifference_35 : decode cX4_rowDifference 35 = .ok (.iconst 0, 1) := by decide +kernel
theorem dX4_rowDifference_36 : decode cX4_rowDifference 36 = .ok (.istore 5, 2) := by decide +kernel
theorem dX4_rowDifference_38 : decode cX4_rowDifference 38 = .ok (.iconst 0, 1) := by decide +kernel
theorem dX4_rowDifference_39 : decode cX4_rowDifference 39 = .ok (.istore 6, 2) := by decide +kernel
theorem dX4_rowDifference_41 : decode cX4_rowDifference 41 = .ok (.iload 6, 2) := by decide +kernel
theorem dX4_rowDifference_43 : decode cX4_rowDifference 43 = .ok (.iload 4, 2) := by decide +kernel
theorem dX4_rowDifference_45 : decode cX4_rowDifference 45 = .ok (.if_icmp .ge 35, 3) := by decide +kernel
theorem dX4_rowDifference_48 : decode cX4_rowDifference 48 = .ok (.iload 5, 2) := by decide +kernel
theorem dX4_rowDifference_50 : decode cX4_rowDifference 50 = .ok (.aload_n 1, 1) := by decide +kernel
theorem dX4_rowDifference_51 : decode cX4_rowDifference 51 = .ok (.iload_n 2, 1) := by decide +kernel
theorem dX4_rowDifference_52 : decode cX4_rowDifference 52 = .ok (.iload 6, 2) := by decide +kernel
theorem dX4_rowDifference_54 : decode cX4_rowDifference 54 = .ok (.iadd, 1) := by decide +kernel
theorem dX4_rowDifference_55 : decode cX4_rowDifference 55 = .ok (.iaload, 1) := by decide +kernel
theorem dX4_rowDifference_56 : decode cX4_rowDifference 56 = .ok (.aload_n 0, 1) := by decide +kernel
theorem dX4_rowDifference_57 : decode cX4_rowDifference 57 = .ok (.getfield 11, 3) := by decide +kernel
theorem dX4_rowDifference_60 : decode cX4_rowDifference 60 = .ok (.iload_n 3, 1) := by decide +kernel
theorem dX4_rowDifference_61 : decode cX4_rowDifference 61 = .ok (.iconst 2, 1) := by decide +kernel
theorem dX4_rowDifference_62 : decode cX4_rowDifference 62 = .ok (.iload 6, 2) := by decide +kernel
theorem dX4_rowDifference_64 : decode cX4_rowDifference 64 = .ok (.imul, 1) := by decide +kernel
theorem dX4_rowDifference_65 : decode cX4_rowDifference 65 = .ok (.iadd, 1) := by decide +kernel
theorem dX4_rowDifference_66 : decode cX4_rowDifference 66 = .ok (.iaload, 1) := by decide +kernel
theorem dX4_rowDifference_67 : decode cX4_rowDifference 67 = .ok (.isub, 1) := by decide +kernel
theorem dX4_rowDifference_68 : decode cX4_rowDifference 68 = .ok (.invokestatic 61, 3) := by decide +kernel
theorem dX4_rowDifference_71 : decode cX4_rowDifference 71 = .ok (.iadd, 1) := by decide +kernel
theorem dX4_rowDifference_72 : decode cX4_rowDifference 72 = .ok (.istore 5, 2) := by decide +kernel
theorem dX4_rowDifference_74 : decode cX4_rowDifference 74 = .ok (.iinc 6 1, 3) := by decide +kernel
theorem dX4_rowDifference_77 : decode cX4_rowDifference 77 = .ok (.goto (-36), 3) := by decide +kernel
theorem dX4_rowDifference_80 : decode cX4_rowDifference 80 = .ok (.iload 5, 2) := by decide +kernel
theorem dX4_rowDifference_82 : decode cX4_rowDifference 82 = .ok (.ireturn, 1) := by decide +kernel
theorem dX5_init_0 : decode cX5_init 0 = .ok (.aload_n 0, 1) := by decide +kernel
theorem dX5_init_1 : decode cX5_init 1 = .ok (.invokespecial 3, 3) := by decide +kernel
theorem dX5_init_4 : decode cX5_init 4 = .ok (.aload_n 0, 1) := by decide +kernel
theorem dX5_init_5 : decode cX5_init 5 = .ok (.iconst 0, 1) := by decide +kernel
theorem dX5_init_6 : decode cX5_init 6 = .ok (.putfield 9, 3) := by decide +kernel
theorem dX5_init_9 : decode cX5_init 9 = .ok (.aload_n 0, 1) := by decide +kernel
theorem dX5_init_10 : decode cX5_init 10 = .ok (.iconst 0, 1) := by decide +kernel
theorem dX5_init_11 : decode cX5_init 11 = .ok (.putfield 15, 3) := by decide +kernel
theorem dX5_init_14 : decode cX5_init 14 = .ok (.aload_n 0, 1) := by decide +kernel
theorem dX5_init_15 : decode cX5_init 15 = .ok (.bipush 8, 2) := by decide +kernel
theorem dX5_init_17 : decode cX5_init 17 = .ok (.putfield 18, 3) := by decide +kernel
theorem dX5_init_20 : decode cX5_init 20 = .ok (.aload_n 0, 1) := by decide +kernel
theorem dX5_init_21 : decode cX5_init 21 = .ok (.iconst 0, 1) := by decide +kernel
theorem dX5_init_22 : decode cX5_init 22 = .ok (.putfield 21, 3) := by decide +kernel
theorem dX5_init_25 : decode cX5_init 25 = .ok (.aload_n 0, 1) := by decide +kernel
theorem dX5_init_26 : decode cX5_init 26 = .ok (.iconst 0, 1) := by decide +kernel
theorem dX5_init_27 : decode cX5_init 27 = .ok (.putfield 24, 3) := by decide +kernel
theorem dX5_init_30 : decode cX5_init 30 = .ok (.aload_n 0, 1) := by decide +kernel
theorem dX5_init_31 : decode cX5_init 31 = .ok (.iconst (-1), 1) := by decide +kernel
theorem dX5_init_32 : decode cX5_init 32 = .ok (.putfield 27, 3) := by decide +kernel
theorem dX5_init_35 : decode cX5_init 35 = .ok (.aload_n 0, 1) := by decide +kernel
theorem dX5_init_36 : decode cX5_init 36 = .ok (.iconst (-1), 1) := by decide +kernel
theorem dX5_init_37 : decode cX5_init 37 = .ok (.putfield 30, 3) := by decide +kernel
theorem dX5_init_40 : decode cX5_init 40 = .ok (.return_, 1) := by decide +kernel
theorem dX5_lay_0 : decode cX5_lay 0 = .ok (.aload_n 0, 1) := by decide +kernel
theorem dX5_lay_1 : decode cX5_lay 1 = .ok (.iload_n 1, 1) := by decide +kernel
theorem dX5_lay_2 : decode cX5_lay 2 = .ok (.putfield 9, 3) := by decide +kernel
theorem dX5_lay_5 : decode cX5_lay 5 = .ok (.aload_n 0, 1) := by decide +kernel
theorem dX5_lay_6 : decode cX5_lay 6 = .ok (.iload_n 2, 1) := by decide +kernel
theorem dX5_lay_7 : decode cX5_lay 7 = .ok (.putfield 15, 3) := by decide +kernel
theorem dX5_lay_10 : decode cX5_lay 10 = .ok (.aload_n 0, 1) := by decide +kernel
theorem dX5_lay_11 : decode cX5_lay 11 = .ok (.iload_n 3, 1) := by decide +kernel
theorem dX5_lay_12 : decode cX5_lay 12 = .ok (.putfield 18, 3) := by decide +kernel
theorem dX5_lay_15 : decode cX5_lay 15 = .ok (.aload_n 0, 1) := by decide +kernel
theorem dX5_lay_16 : decode cX5_lay 16 = .ok (.iload 4, 2) := by decide +kernel
theorem dX5_lay_18 : decode cX5_lay 18 = .ok (.putfield 21, 3) := by decide +kernel
theorem dX5_lay_21 : decode cX5_lay 21 = .ok (.return_, 1) := by decide +kernel
theorem dX5_isOfBorder_0 : decode cX5_isOfBorder 0 = .ok (.aload_n 0, 1) := by decide +kernel
theorem dX5_isOfBorder_1 : decode cX5_isOfBorder 1 = .ok (.getfield 24, 3) := by decide +kernel
theorem dX5_isOfBorder_4 : decode cX5_isOfBorder 4 = .ok (.iconst 4, 1) := by decide +kernel
theorem dX5_isOfBorder_5 : decode cX5_isOfBorder 5 = .ok (.if_icmp .ge 7, 3) := by decide +kernel
theorem dX5_isOfBorder_8 : decode cX5_isOfBorder 8 = .ok (.iconst 1, 1) := by decide +kernel
theorem dX5_isOfBorder_9 : decode cX5_isOfBorder 9 = .ok (.goto 4, 3) := by decide +kernel
theorem dX5_isOfBorder_12 : decode cX5_isOfBorder 12 = .ok (.iconst 0, 1) := by decide +kernel
theorem dX5_isOfBorder_13 : decode cX5_isOfBorder 13 = .ok (.ireturn, 1) := by decide +kernel
theorem dX5_usesFirst_0 : decode cX5_usesFirst 0 = .ok (.aload_n 0, 1) := by decide +kernel
theorem dX5_usesFirst_1 : decode cX5_usesFirst 1 = .ok (.getfield 24, 3) := by decide +kernel
theorem dX5_usesFirst_4 : decode cX5_usesFirst 4 = .ok (.iconst 4, 1) := by decide +kernel
theorem dX5_usesFirst_5 : decode cX5_usesFirst 5 = .ok (.if_icmp .eq 12, 3) := by decide +kernel
theorem dX5_usesFirst_8 : decode cX5_usesFirst 8 = .ok (.aload_n 0, 1) := by decide +kernel
theorem dX5_usesFirst_9 : decode cX5_usesFirst 9 = .ok (.getfield 24, 3) := by decide +kernel
theorem dX5_usesFirst_12 : decode cX5_usesFirst 12 = .ok (.bipush 6, 2) := by decide +kernel
theorem dX5_usesFirst_14 : decode cX5_usesFirst 14 = .ok (.if_icmp .ne 7, 3) := by decide +kernel
theorem dX5_usesFirst_17 : decode cX5_usesFirst 17 = .ok (.iconst 1, 1) := by decide +kernel
theorem dX5_usesFirst_18 : decode cX5_usesFirst 18 = .ok (.goto 4, 3) := by decide +kernel
theorem dX5_usesFirst_21 : decode cX5_usesFirst 21 = .ok (.iconst 0, 1) := by decide +kernel
theorem dX5_usesFirst_22 : decode cX5_usesFirst 22 = .ok (.ireturn, 1) := by decide +kernel
theorem dX5_usesSecond_0 : decode cX5_usesSecond 0 = .ok (.aload_n 0, 1) := by decide +kernel
theorem dX5_usesSecond_1 : decode cX5_usesSecond 1 = .ok (.getfield 24, 3) := by decide +kernel
theorem dX5_usesSecond_4 : decode cX5_usesSecond 4 = .ok (.iconst 5, 1) := by decide +kernel
theorem dX5_usesSecond_5 : decode cX5_usesSecond 5 = .ok (.if_icmp .eq 12, 3) := by decide +kernel
theorem dX5_usesSecond_8 : decode cX5_usesSecond 8 = .ok (.aload_n 0, 1) := by decide +kernel
theorem dX5_usesSecond_9 : decode cX5_usesSecond 9 = .ok (.getfield 24, 3) := by decide +kernel
theorem dX5_usesSecond_12 : decode cX5_usesSecond 12 = .ok (.bipush 6, 2) := by decide +kernel
theorem dX5_usesSecond_14 : decode cX5_usesSecond 14 = .ok (.if_icmp .ne 7, 3) := by decide +kernel
theorem dX5_usesSecond_17 : decode cX5_usesSecond 17 = .ok (.iconst 1, 1) := by decide +kernel
theorem dX5_usesSecond_18 : decode cX5_usesSecond 18 = .ok (.goto 4, 3) := by decide +kernel
theorem dX5_usesSecond_21 : decode cX5_usesSecond 21 = .ok (.iconst 0, 1) := by decide +kernel
theorem dX5_usesSecond_22 : decode cX5_usesSecond 22 = .ok (.ireturn, 1) := by decide +kernel
theorem dX5_extraCost_0 : decode cX5_extraCost 0 = .ok (.aload_n 0, 1) := by decide +kernel
theorem dX5_extraCost_1 : decode cX5_extraCost 1 = .ok (.invokevirtual 33, 3) := by decide +kernel
theorem dX5_extraCost_4 : decode cX5_extraCost 4 = .ok (.ifCond .eq 12, 3) := by decide +kernel
theorem dX5_extraCost_7 : decode cX5_extraCost 7 = .ok (.iconst 2, 1) := by decide +kernel
theorem dX5_extraCost_8 : decode cX5_extraCost 8 = .ok (.aload_n 0, 1) := by decide +kernel
theorem dX5_extraCost_9 : decode cX5_extraCost 9 = .ok (.getfield 24, 3) := by decide +kernel
theorem dX5_extraCost_12 : decode cX5_extraCost 12 = .ok (.imul, 1) := by decide +kernel
theorem dX5_extraCost_13 : decode cX5_extraCost 13 = .ok (.goto 4, 3) := by decide +kernel
theorem dX5_extraCost_16 : decode cX5_extraCost 16 = .ok (.iconst 0, 1) := by decide +kernel
theorem dX5_extraCost_17 : decode cX5_extraCost 17 = .ok (.istore_n 1, 1) := by decide +kernel
theorem dX5_extraCost_18 : decode cX5_extraCost 18 = .ok (.iload_n 1, 1) := by decide +kernel
theorem dX5_extraCost_19 : decode cX5_extraCost 19 = .ok (.aload_n 0, 1) := by decide +kernel
theorem dX5_extraCost_20 : decode cX5_extraCost 20 = .ok (.invokevirtual 37, 3) := by decide +kernel
theorem dX5_extraCost_23 : decode cX5_extraCost 23 = .ok (.ifCond .eq 13, 3) := by decide +kernel
theorem dX5_extraCost_26 : decode cX5_extraCost 26 = .ok (.aload_n 0, 1) := by decide +kernel
theorem dX5_extraCost_27 : decode cX5_extraCost 27 = .ok (.getfield 27, 3) := by decide +kernel
theorem dX5_extraCost_30 : decode cX5_extraCost 30 = .ok (.invokestatic 40, 3) := by decide +kernel
theorem dX5_extraCost_33 : decode cX5_extraCost 33 = .ok (.goto 4, 3) := by decide +kernel
theorem dX5_extraCost_36 : decode cX5_extraCost 36 = .ok (.iconst 0, 1) := by decide +kernel
theorem dX5_extraCost_37 : decode cX5_extraCost 37 = .ok (.iadd, 1) := by decide +kernel
theorem dX5_extraCost_38 : decode cX5_extraCost 38 = .ok (.istore_n 1, 1) := by decide +kernel
theorem dX5_extraCost_39 : decode cX5_extraCost 39 = .ok (.iload_n 1, 1) := by decide +kernel
theorem dX5_extraCost_40 : decode cX5_extraCost 40 = .ok (.aload_n 0, 1) := by decide +kernel
theorem dX5_extraCost_41 : decode cX5_extraCost 41 = .ok (.invokevirtual 46, 3) := by decide +kernel
theorem dX5_extraCost_44 : decode cX5_extraCost 44 = .ok (.ifCond .eq 13, 3) := by decide +kernel
theorem dX5_extraCost_47 : decode cX5_extraCost 47 = .ok (.aload_n 0, 1) := by decide +kernel
theorem dX5_extraCost_48 : decode cX5_extraCost 48 = .ok (.getfield 30, 3) := by decide +kernel
theorem dX5_extraCost_51 : decode cX5_extraCost 51 = .ok (.invokestatic 40, 3) := by decide +kernel
theorem dX5_extraCost_54 : decode cX5_extraCost 54 = .ok (.goto 4, 3) := by decide +kernel
theorem dX5_extraCost_57 : decode cX5_extraCost 57 = .ok (.iconst 0, 1) := by decide +kernel
theorem dX5_extraCost_58 : decode cX5_extraCost 58 = .ok (.iadd, 1) := by decide +kernel
theorem dX5_extraCost_59 : decode cX5_extraCost 59 = .ok (.istore_n 1, 1) := by decide +kernel
theorem dX5_extraCost_60 : decode cX5_extraCost 60 = .ok (.iload_n 1, 1) := by decide +kernel
theorem dX5_extraCost_61 : decode cX5_extraCost 61 = .ok (.ireturn, 1) := by decide +kernel
theorem dX6_init_0 : decode cX6_init 0 = .ok (.aload_n 0, 1) := by decide +kernel
theorem dX6_init_1 : decode cX6_init 1 = .ok (.invokespecial 3, 3) := by decide +kernel
theorem dX6_init_4 : decode cX6_init 4 = .ok (.aload_n 0, 1) := by decide +kernel
theorem dX6_init_5 : decode cX6_init 5 = .ok (.bipush 105, 2) := by decide +kernel
theorem dX6_init_7 : decode cX6_init 7 = .ok (.putfield 9, 3) := by decide +kernel
theorem dX6_init_10 : decode cX6_init 10 = .ok (.aload_n 0, 1) := by decide +kernel
theorem dX6_init_11 : decode cX6_init 11 = .ok (.iconst 0, 1) := by decide +kernel
theorem dX6_init_12 : decode cX6_init 12 = .ok (.putfield 15, 3) := by decide +kernel
theorem dX6_init_15 : decode cX6_init 15 = .ok (.aload_n 0, 1) := by decide +kernel
theorem dX6_init_16 : decode cX6_init 16 = .ok (.iconst 0, 1) := by decide +kernel
theorem dX6_init_17 : decode cX6_init 17 = .ok (.putfield 19, 3) := by decide +kernel
theorem dX6_init_20 : decode cX6_init 20 = .ok (.aload_n 0, 1) := by decide +kernel
theorem dX6_init_21 : decode cX6_init 21 = .ok (.iconst 1, 1) := by decide +kernel
theorem dX6_init_22 : decode cX6_init 22 = .ok (.putfield 22, 3) := by decide +kernel
theorem dX6_init_25 : decode cX6_init 25 = .ok (.aload_n 0, 1) := by decide +kernel
theorem dX6_init_26 : decode cX6_init 26 = .ok (.iconst 0, 1) := by decide +kernel
theorem dX6_init_27 : decode cX6_init 27 = .ok (.putfield 25, 3) := by decide +kernel
theorem dX6_init_30 : decode cX6_init 30 = .ok (.aload_n 0, 1) := by decide +kernel
theorem dX6_init_31 : decode cX6_init 31 = .ok (.iconst 1, 1) := by decide +kernel
theorem dX6_init_32 : decode cX6_init 32 = .ok (.putfield 28, 3) := by decide +kernel
theorem dX6_init_35 : decode cX6_init 35 = .ok (.aload_n 0, 1) := by decide +kernel
theorem dX6_init_36 : decode cX6_init 36 = .ok (.iconst 0, 1) := by decide +kernel
theorem dX6_init_37 : decode cX6_init 37 = .ok (.putfield 31, 3) := by decide +kernel
theorem dX6_init_40 : decode cX6_init 40 = .ok (.aload_n 0, 1) := by decide +kernel
theorem dX6_init_41 : decode cX6_init 41 = .ok (.lconst 0, 1) := by decide +kernel
theorem dX6_init_42 : decode cX6_init 42 = .ok (.putfield 35, 3) := by decide +kernel
theorem dX6_init_45 : decode cX6_init 45 = .ok (.aload_n 0, 1) := by decide +kernel
theorem dX6_init_46 : decode cX6_init 46 = .ok (.iconst 0, 1) := by decide +kernel
theorem dX6_init_47 : decode cX6_init 47 = .ok (.newarray .int, 2) := by decide +kernel
theorem dX6_init_49 : decode cX6_init 49 = .ok (.putfield 39, 3) := by decide +kernel
theorem dX6_init_52 : decode cX6_init 52 = .ok (.aload_n 0, 1) := by decide +kernel
theorem dX6_init_53 : decode cX6_init 53 = .ok (.iconst 0, 1) := by decide +kernel
theorem dX6_init_54 : decode cX6_init 54 = .ok (.newarray .int, 2) := by decide +kernel
theorem dX6_init_56 : decode cX6_init 56 = .ok (.putfield 43, 3) := by decide +kernel
theorem dX6_init_59 : decode cX6_init 59 = .ok (.aload_n 0, 1) := by decide +kernel
theorem dX6_init_60 : decode cX6_init 60 = .ok (.bipush 16, 2) := by decide +kernel
theorem dX6_init_62 : decode cX6_init 62 = .ok (.newarray .int, 2) := by decide +kernel
theorem dX6_init_64 : decode cX6_init 64 = .ok (.putfield 46, 3) := by decide +kernel
theorem dX6_init_67 : decode cX6_init 67 = .ok (.aload_n 0, 1) := by decide +kernel
theorem dX6_init_68 : decode cX6_init 68 = .ok (.bipush 16, 2) := by decide +kernel
theorem dX6_init_70 : decode cX6_init 70 = .ok (.newarray .int, 2) := by decide +kernel
theorem dX6_init_72 : decode cX6_init 72 = .ok (.putfield 49, 3) := by decide +kernel
theorem dX6_init_75 : decode cX6_init 75 = .ok (.aload_n 0, 1) := by decide +kernel
theorem dX6_init_76 : decode cX6_init 76 = .ok (.bipush 16, 2) := by decide +kernel
theorem dX6_init_78 : decode cX6_init 78 = .ok (.newarray .int, 2) := by decide +kernel
theorem dX6_init_80 : decode cX6_init 80 = .ok (.putfield 52, 3) := by decide +kernel
theorem dX6_init_83 : decode cX6_init 83 = .ok (.aload_n 0, 1) := by decide +kernel
theorem dX6_init_84 : decode cX6_init 84 = .ok (.bipush 16, 2) := by decide +kernel
theorem dX6_init_86 : decode cX6_init 86 = .ok (.newarray .int, 2) := by decide +kernel
theorem dX6_init_88 : decode cX6_init 88 = .ok (.putfield 55, 3) := by decide +kernel
theorem dX6_init_91 : decode cX6_init 91 = .ok (.aload_n 0, 1) := by decide +kernel
theorem dX6_init_92 : decode cX6_init 92 = .ok (.sipush 256, 3) := by decide +kernel
theorem dX6_init_95 : decode cX6_init 95 = .ok (.newarray .int, 2) := by decide +kernel
theorem dX6_init_97 : decode cX6_init 97 = .ok (.putfield 58, 3) := by decide +kernel
theorem dX6_init_100 : decode cX6_init 100 = .ok (.aload_n 0, 1) := by decide +kernel
theorem dX6_init_101 : decode cX6_init 101 = .ok (.sipush 256, 3) := by decide +kernel
theorem dX6_init_104 : decode cX6_init 104 = .ok (.newarray .int, 2) := by decide +kernel
theorem dX6_init_106 : decode cX6_init 106 = .ok (.putfield 61, 3) := by decide +kernel
theorem dX6_init_109 : decode cX6_init 109 = .ok (.return_, 1) := by decide +kernel
theorem dX6_describe_0 : decode cX6_describe 0 = .ok (.aload_n 0, 1) := by decide +kernel
theorem dX6_describe_1 : decode cX6_describe 1 = .ok (.iload_n 1, 1) := by decide +kernel
theorem dX6_describe_2 : decode cX6_describe 2 = .ok (.putfield 9, 3) := by decide +kernel
theorem dX6_describe_5 : decode cX6_describe 5 = .ok (.aload_n 0, 1) := by decide +kernel
theorem dX6_describe_6 : decode cX6_describe 6 = .ok (.iload_n 2, 1) := by decide +kernel
theorem dX6_describe_7 : decode cX6_describe 7 = .ok (.putfield 15, 3) := by decide +kernel
theorem dX6_describe_10 : decode cX6_describe 10 = .ok (.aload_n 0, 1) := by decide +kernel
theorem dX6_describe_11 : decode cX6_describe 11 = .ok (.iload_n 3, 1) := by decide +kernel
theorem dX6_describe_12 : decode cX6_describe 12 = .ok (.putfield 19, 3) := by decide +kernel
theorem dX6_describe_15 : decode cX6_describe 15 = .ok (.return_, 1) := by decide +kernel
theorem dX6_useSettings_0 : decode cX6_useSettings 0 = .ok (.aload_n 0, 1) := by decide +kernel
theorem dX6_useSettings_1 : decode cX6_useSettings 1 = .ok (.iload_n 1, 1) := by decide +kernel
theorem dX6_useSettings_2 : decode cX6_useSettings 2 = .ok (.putfield 22, 3) := by decide +kernel
theorem dX6_useSettings_5 : decode cX6_useSettings 5 = .ok (.aload_n 0, 1) := by decide +kernel
theorem dX6_useSettings_6 : decode cX6_useSettings 6 = .ok (.iload_n 2, 1) := by decide +kernel
theorem dX6_useSettings_7 : decode cX6_useSettings 7 = .ok (.putfield 25, 3) := by decide +kernel
theorem dX6_useSettings_10 : decode cX6_useSettings 10 = .ok (.aload_n 0, 1) := by decide +kernel
theorem dX6_useSettings_11 : decode cX6_useSettings 11 = .ok (.iload_n 3, 1) := by decide +kernel
theorem dX6_useSettings_12 : decode cX6_useSettings 12 = .ok (.putfield 28, 3) := by decide +kernel
theorem dX6_useSettings_15 : decode cX6_useSettings 15 = .ok (.aload_n 0, 1) := by decide +kernel
theorem dX6_useSettings_16 : decode cX6_useSettings 16 = .ok (.iload 4, 2) := by decide +kernel
theorem dX6_useSettings_18 : decode cX6_useSettings 18 = .ok (.putfield 31, 3) := by decide +kernel
theorem dX6_useSettings_21 : decode cX6_useSettings 21 = .ok (.return_, 1) := by decide +kernel
theorem dX6_finish_0 : decode cX6_finish 0 = .ok (.aload_n 0, 1) := by decide +kernel
theorem dX6_finish_1 : decode cX6_finish 1 = .ok (.aload_n 1, 1) := by decide +kernel
theorem dX6_finish_2 : decode cX6_finish 2 = .ok (.putfield 39, 3) := by decide +kernel
theorem dX6_finish_5 : decode cX6_finish 5 = .ok (.aload_n 0, 1) := by decide +kernel
theorem dX6_finish_6 : decode cX6_finish 6 = .ok (.aload_n 2, 1) := by decide +kernel
theorem dX6_finish_7 : decode cX6_finish 7 = .ok (.putfield 43, 3) := by decide +kernel
theorem dX6_finish_10 : decode cX6_finish 10 = .ok (.aload_n 0, 1) := by decide +kernel
theorem dX6_finish_11 : decode cX6_finish 11 = .ok (.lconst 0, 1) := by decide +kernel
theorem dX6_finish_12 : decode cX6_finish 12 = .ok (.putfield 35, 3) := by decide +kernel
theorem dX6_finish_15 : decode cX6_finish 15 = .ok (.iconst 0, 1) := by decide +kernel
theorem dX6_finish_16 : decode cX6_finish 16 = .ok (.istore 4, 2) := by decide +kernel
theorem dX6_finish_18 : decode cX6_finish 18 = .ok (.iload 4, 2) := by decide +kernel
theorem dX6_finish_20 : decode cX6_finish 20 = .ok (.sipush 256, 3) := by decide +kernel
theorem dX6_finish_23 : decode cX6_finish 23 = .ok (.if_icmp .ge 42, 3) := by decide +kernel
theorem dX6_finish_26 : decode cX6_finish 26 = .ok (.aload_n 0, 1) := by decide +kernel
theorem dX6_finish_27 : decode cX6_finish 27 = .ok (.getfield 61, 3) := by decide +kernel
theorem dX6_finish_30 : decode cX6_finish 30 = .ok (.iload 4, 2) := by decide +kernel
theorem dX6_finish_32 : decode cX6_finish 32 = .ok (.invokestatic 64, 3) := by decide +kernel
theorem dX6_finish_35 : decode cX6_finish 35 = .ok (.aload_n 3, 1) := by decide +kernel
theorem dX6_finish_36 : decode cX6_finish 36 = .ok (.iload 4, 2) := by decide +kernel
theorem dX6_finish_38 : decode cX6_finish 38 = .ok (.invokestatic 64, 3) := by decide +kernel
theorem dX6_finish_41 : decode cX6_finish 41 = .ok (.isub, 1) := by decide +kernel
theorem dX6_finish_42 : decode cX6_finish 42 = .ok (.istore 5, 2) := by decide +kernel
theorem dX6_finish_44 : decode cX6_finish 44 = .ok (.aload_n 0, 1) := by decide +kernel
theorem dX6_finish_45 : decode cX6_finish 45 = .ok (.dup, 1) := by decide +kernel
theorem dX6_finish_46 : decode cX6_finish 46 = .ok (.getfield 35, 3) := by decide +kernel
theorem dX6_finish_49 : decode cX6_finish 49 = .ok (.iload 5, 2) := by decide +kernel
theorem dX6_finish_51 : decode cX6_finish 51 = .ok (.iload 5, 2) := by decide +kernel
theorem dX6_finish_53 : decode cX6_finish 53 = .ok (.imul, 1) := by decide +kernel
theorem dX6_finish_54 : decode cX6_finish 54 = .ok (.i2l, 1) := by decide +kernel
theorem dX6_finish_55 : decode cX6_finish 55 = .ok (.ladd, 1) := by decide +kernel
theorem dX6_finish_56 : decode cX6_finish 56 = .ok (.putfield 35, 3) := by decide +kernel
theorem dX6_finish_59 : decode cX6_finish 59 = .ok (.iinc 4 1, 3) := by decide +kernel
theorem dX6_finish_62 : decode cX6_finish 62 = .ok (.goto (-44), 3) := by decide +kernel
theorem dX6_finish_65 : decode cX6_finish 65 = .ok (.return_, 1) := by decide +kernel
theorem dX6_has_0 : decode cX6_has 0 = .ok (.aload_n 0, 1) := by decide +kernel
theorem dX6_has_1 : decode cX6_has 1 = .ok (.getfield 25, 3) := by decide +kernel
theorem dX6_has_4 : decode cX6_has 4 = .ok (.iload_n 1, 1) := by decide +kernel
theorem dX6_has_5 : decode cX6_has 5 = .ok (.iand, 1) := by decide +kernel
theorem dX6_has_6 : decode cX6_has 6 = .ok (.ifCond .eq 7, 3) := by decide +kernel
theorem dX6_has_9 : decode cX6_has 9 = .ok (.iconst 1, 1) := by decide +kernel
theorem dX6_has_10 : decode cX6_has 10 = .ok (.goto 4, 3) := by decide +kernel
theorem dX6_has_13 : decode cX6_has 13 = .ok (.iconst 0, 1) := by decide +kernel
theorem dX6_has_14 : decode cX6_has 14 = .ok (.ireturn, 1) := by decide +kernel
theorem dX6_leansOnFirst_0 : decode cX6_leansOnFirst 0 = .ok (.aload_n 0, 1) := by decide +kernel
theorem dX6_leansOnFirst_1 : decode cX6_leansOnFirst 1 = .ok (.getfield 9, 3) := by decide +kernel
theorem dX6_leansOnFirst_4 : decode cX6_leansOnFirst 4 = .ok (.bipush 105, 2) := by decide +kernel
theorem dX6_leansOnFirst_6 : decode cX6_leansOnFirst 6 = .ok (.if_icmp .eq 7, 3) := by decide +kernel
theorem dX6_leansOnFirst_9 : decode cX6_leansOnFirst 9 = .ok (.iconst 1, 1) := by decide +kernel
theorem dX6_leansOnFirst_10 : decode cX6_leansOnFirst 10 = .ok (.goto 4, 3) := by decide +kernel
theorem dX6_leansOnFirst_13 : decode cX6_leansOnFirst 13 = .ok (.iconst 0, 1) := by decide +kernel
theorem dX6_leansOnFirst_14 : decode cX6_leansOnFirst 14 = .ok (.ireturn, 1) := by decide +kernel
theorem dX6_leansOnSecond_0 : decode cX6_leansOnSecond 0 = .ok (.aload_n 0, 1) := by decide +kernel
theorem dX6_leansOnSecond_1 : decode cX6_leansOnSecond 1 = .ok (.getfield 9, 3) := by decide +kernel
theorem dX6_leansOnSecond_4 : decode cX6_leansOnSecond 4 = .ok (.bipush 98, 2) := by decide +kernel
theorem dX6_leansOnSecond_6 : decode cX6_leansOnSecond 6 = .ok (.if_icmp .ne 7, 3) := by decide +kernel
theorem dX6_leansOnSecond_9 : decode cX6_leansOnSecond 9 = .ok (.iconst 1, 1) := by decide +kernel
theorem dX6_leansOnSecond_10 : decode cX6_leansOnSecond 10 = .ok (.goto 4, 3) := by decide +kernel
theorem dX6_leansOnSecond_13 : decode cX6_leansOnSecond 13 = .ok (.iconst 0, 1) := by decide +kernel
theorem dX6_leansOnSecond_14 : decode cX6_leansOnSecond 14 = .ok (.ireturn, 1) := by decide +kernel
theorem dX6_modeCount_0 : decode cX6_modeCount 0 = .ok (.aload_n 0, 1) := by decide +kernel
theorem dX6_modeCount_1 : decode cX6_modeCount 1 = .ok (.invokevirtual 70, 3) := by decide +kernel
theorem dX6_modeCount_4 : decode cX6_modeCount 4 = .ok (.ifCond .eq 8, 3) := by decide +kernel
theorem dX6_modeCount_7 : decode cX6_modeCount 7 = .ok (.bipush 7, 2) := by decide +kernel
theorem dX6_modeCount_9 : decode cX6_modeCount 9 = .ok (.goto 15, 3) := by decide +kernel
theorem dX6_modeCount_12 : decode cX6_modeCount 12 = .ok (.aload_n 0, 1) := by decide +kernel
theorem dX6_modeCount_13 : decode cX6_modeCount 13 = .ok (.invokevirtual 74, 3) := by decide +kernel
theorem dX6_modeCount_16 : decode cX6_modeCount 16 = .ok (.ifCond .eq 7, 3) := by decide +kernel
theorem dX6_modeCount_19 : decode cX6_modeCount 19 = .ok (.iconst 5, 1) := by decide +kernel
theorem dX6_modeCount_20 : decode cX6_modeCount 20 = .ok (.goto 4, 3) := by decide +kernel
theorem dX6_modeCount_23 : decode cX6_modeCount 23 = .ok (.iconst 4, 1) := by decide +kernel
theorem dX6_modeCount_24 : decode cX6_modeCount 24 = .ok (.ireturn, 1) := by decide +kernel
theorem dX6_sliceOf_0 : decode cX6_sliceOf 0 = .ok (.aload_n 0, 1) := by decide +kernel
theorem dX6_sliceOf_1 : decode cX6_sliceOf 1 = .ok (.getfield 28, 3) := by decide +kernel
theorem dX6_sliceOf_4 : decode cX6_sliceOf 4 = .ok (.iconst 1, 1) := by decide +kernel
theorem dX6_sliceOf_5 : decode cX6_sliceOf 5 = .ok (.if_icmp .le 13, 3) := by decide +kernel
theorem dX6_sliceOf_8 : decode cX6_sliceOf 8 = .ok (.iload_n 1, 1) := by decide +kernel
theorem dX6_sliceOf_9 : decode cX6_sliceOf 9 = .ok (.bipush 8, 2) := by decide +kernel
theorem dX6_sliceOf_11 : decode cX6_sliceOf 11 = .ok (.if_icmp .lt 7, 3) := by decide +kernel
theorem dX6_sliceOf_14 : decode cX6_sliceOf 14 = .ok (.iconst 1, 1) := by decide +kernel
theorem dX6_sliceOf_15 : decode cX6_sliceOf 15 = .ok (.goto 4, 3) := by decide +kernel
theorem dX6_sliceOf_18 : decode cX6_sliceOf 18 = .ok (.iconst 0, 1) := by decide +kernel
theorem dX6_sliceOf_19 : decode cX6_sliceOf 19 = .ok (.ireturn, 1) := by decide +kernel
theorem dX6_topOf_0 : decode cX6_topOf 0 = .ok (.bipush 8, 2) := by decide +kernel
theorem dX6_topOf_2 : decode cX6_topOf 2 = .ok (.aload_n 0, 1) := by decide +kernel
theorem dX6_topOf_3 : decode cX6_topOf 3 = .ok (.iload_n 1, 1) := by decide +kernel
theorem dX6_topOf_4 : decode cX6_topOf 4 = .ok (.invokevirtual 77, 3) := by decide +kernel
theorem dX6_topOf_7 : decode cX6_topOf 7 = .ok (.imul, 1) := by decide +kernel
theorem dX6_topOf_8 : decode cX6_topOf 8 = .ok (.ireturn, 1) := by decide +kernel
theorem dX6_bits_0 : decode cX6_bits 0 = .ok (.bipush 8, 2) := by decide +kernel
theorem dX6_bits_2 : decode cX6_bits 2 = .ok (.aload_n 0, 1) := by decide +kernel
theorem dX6_bits_3 : decode cX6_bits 3 = .ok (.getfield 39, 3) := by decide +kernel
theorem dX6_bits_6 : decode cX6_bits 6 = .ok (.arraylength, 1) := by decide +kernel
theorem dX6_bits_7 : decode cX6_bits 7 = .ok (.aload_n 0, 1) := by decide +kernel
theorem dX6_bits_8 : decode cX6_bits 8 = .ok (.getfield 43, 3) := by decide +kernel
theorem dX6_bits_11 : decode cX6_bits 11 = .ok (.arraylength, 1) := by decide +kernel
theorem dX6_bits_12 : decode cX6_bits 12 = .ok (.iadd, 1) := by decide +kernel
theorem dX6_bits_13 : decode cX6_bits 13 = .ok (.imul, 1) := by decide +kernel
theorem dX6_bits_14 : decode cX6_bits 14 = .ok (.ireturn, 1) := by decide +kernel
theorem dX6_isSplitAt_0 : decode cX6_isSplitAt 0 = .ok (.aload_n 0, 1) := by decide +kernel
theorem dX6_isSplitAt_1 : decode cX6_isSplitAt 1 = .ok (.getfield 46, 3) := by decide +kernel
theorem dX6_isSplitAt_4 : decode cX6_isSplitAt 4 = .ok (.iload_n 1, 1) := by decide +kernel
theorem dX6_isSplitAt_5 : decode cX6_isSplitAt 5 = .ok (.invokestatic 64, 3) := by decide +kernel
theorem dX6_isSplitAt_8 : decode cX6_isSplitAt 8 = .ok (.iconst 4, 1) := by decide +kernel
theorem dX6_isSplitAt_9 : decode cX6_isSplitAt 9 = .ok (.if_icmp .ne 7, 3) := by decide +kernel
theorem dX6_isSplitAt_12 : decode cX6_isSplitAt 12 = .ok (.iconst 1, 1) := by decide +kernel
theorem dX6_isSplitAt_13 : decode cX6_isSplitAt 13 = .ok (.goto 4, 3) := by decide +kernel
theorem dX6_isSplitAt_16 : decode cX6_isSplitAt 16 = .ok (.iconst 0, 1) := by decide +kernel
theorem dX6_isSplitAt_17 : decode cX6_isSplitAt 17 = .ok (.ireturn, 1) := by decide +kernel
theorem dX6_startsPart_0 : decode cX6_startsPart 0 = .ok (.iload_n 1, 1) := by decide +kernel
theorem dX6_startsPart_1 : decode cX6_startsPart 1 = .ok (.invokestatic 81, 3) := by decide +kernel
theorem dX6_startsPart_4 : decode cX6_startsPart 4 = .ok (.ifCond .ne 11, 3) := by decide +kernel
theorem dX6_startsPart_7 : decode cX6_startsPart 7 = .ok (.aload_n 0, 1) := by decide +kernel
theorem dX6_startsPart_8 : decode cX6_startsPart 8 = .ok (.iload_n 1, 1) := by decide +kernel
theorem dX6_startsPart_9 : decode cX6_startsPart 9 = .ok (.invokevirtual 85, 3) := by decide +kernel
theorem dX6_startsPart_12 : decode cX6_startsPart 12 = .ok (.ifCond .eq 7, 3) := by decide +kernel
theorem dX6_startsPart_15 : decode cX6_startsPart 15 = .ok (.iconst 1, 1) := by decide +kernel
theorem dX6_startsPart_16 : decode cX6_startsPart 16 = .ok (.goto 4, 3) := by decide +kernel
theorem dX6_startsPart_19 : decode cX6_startsPart 19 = .ok (.iconst 0, 1) := by decide +kernel
theorem dX6_startsPart_20 : decode cX6_startsPart 20 = .ok (.ireturn, 1) := by decide +kernel
theorem dX6_note_0 : decode cX6_note 0 = .ok (.aload_n 1, 1) := by decide +kernel
theorem dX6_note_1 : decode cX6_note 1 = .ok (.getfield 88, 3) := by decide +kernel
theorem dX6_note_4 : decode cX6_note 4 = .ok (.istore_n 2, 1) := by decide +kernel
theorem dX6_note_5 : decode cX6_note 5 = .ok (.iload_n 2, 1) := by decide +kernel
theorem dX6_note_6 : decode cX6_note 6 = .ok (.aload_n 1, 1) := by decide +kernel
theorem dX6_note_7 : decode cX6_note 7 = .ok (.getfield 88, 3) := by decide +kernel
theorem dX6_note_10 : decode cX6_note 10 = .ok (.aload_n 1, 1) := by decide +kernel
theorem dX6_note_11 : decode cX6_note 11 = .ok (.getfield 93, 3) := by decide +kernel
theorem dX6_note_14 : decode cX6_note 14 = .ok (.iadd, 1) := by decide +kernel
theorem dX6_note_15 : decode cX6_note 15 = .ok (.if_icmp .ge 114, 3) := by decide +kernel
theorem dX6_note_18 : decode cX6_note 18 = .ok (.aload_n 1, 1) := by decide +kernel
theorem dX6_note_19 : decode cX6_note 19 = .ok (.getfield 96, 3) := by decide +kernel
theorem dX6_note_22 : decode cX6_note 22 = .ok (.istore_n 3, 1) := by decide +kernel
theorem dX6_note_23 : decode cX6_note 23 = .ok (.iload_n 3, 1) := by decide +kernel
theorem dX6_note_24 : decode cX6_note 24 = .ok (.aload_n 1, 1) := by decide +kernel
theorem dX6_note_25 : decode cX6_note 25 = .ok (.getfield 96, 3) := by decide +kernel
theorem dX6_note_28 : decode cX6_note 28 = .ok (.aload_n 1, 1) := by decide +kernel
theorem dX6_note_29 : decode cX6_note 29 = .ok (.getfield 93, 3) := by decide +kernel
theorem dX6_note_32 : decode cX6_note 32 = .ok (.iadd, 1) := by decide +kernel
theorem dX6_note_33 : decode cX6_note 33 = .ok (.if_icmp .ge 90, 3) := by decide +kernel
theorem dX6_note_36 : decode cX6_note 36 = .ok (.iload_n 3, 1) := by decide +kernel
theorem dX6_note_37 : decode cX6_note 37 = .ok (.iload_n 2, 1) := by decide +kernel
theorem dX6_note_38 : decode cX6_note 38 = .ok (.invokestatic 99, 3) := by decide +kernel
theorem dX6_note_41 : decode cX6_note 41 = .ok (.istore 4, 2) := by decide +kernel
theorem dX6_note_43 : decode cX6_note 43 = .ok (.aload_n 0, 1) := by decide +kernel
theorem dX6_note_44 : decode cX6_note 44 = .ok (.getfield 46, 3) := by decide +kernel
theorem dX6_note_47 : decode cX6_note 47 = .ok (.iload 4, 2) := by decide +kernel
theorem dX6_note_49 : decode cX6_note 49 = .ok (.aload_n 1, 1) := by decide +kernel
theorem dX6_note_50 : decode cX6_note 50 = .ok (.getfield 93, 3) := by decide +kernel
theorem dX6_note_53 : decode cX6_note 53 = .ok (.invokestatic 103, 3) := by decide +kernel
theorem dX6_note_56 : decode cX6_note 56 = .ok (.aload_n 0, 1) := by decide +kernel
theorem dX6_note_57 : decode cX6_note 57 = .ok (.getfield 49, 3) := by decide +kernel
theorem dX6_note_60 : decode cX6_note 60 = .ok (.iload 4, 2) := by decide +kernel
theorem dX6_note_62 : decode cX6_note 62 = .ok (.aload_n 1, 1) := by decide +kernel
theorem dX6_note_63 : decode cX6_note 63 = .ok (.getfield 107, 3) := by decide +kernel
theorem dX6_note_66 : decode cX6_note 66 = .ok (.invokestatic 103, 3) := by decide +kernel
theorem dX6_note_69 : decode cX6_note 69 = .ok (.aload_n 0, 1) := by decide +kernel
theorem dX6_note_70 : decode cX6_note 70 = .ok (.getfield 52, 3) := by decide +kernel
theorem dX6_note_73 : decode cX6_note 73 = .ok (.iload 4, 2) := by decide +kernel
theorem dX6_note_75 : decode cX6_note 75 = .ok (.aload_n 1, 1) := by decide +kernel
theorem dX6_note_76 : decode cX6_note 76 = .ok (.invokevirtual 110, 3) := by decide +kernel
theorem dX6_note_79 : decode cX6_note 79 = .ok (.ifCond .eq 10, 3) := by decide +kernel
theorem dX6_note_82 : decode cX6_note 82 = .ok (.aload_n 1, 1) := by decide +kernel
theorem dX6_note_83 : decode cX6_note 83 = .ok (.getfield 113, 3) := by decide +kernel
theorem dX6_note_86 : decode cX6_note 86 = .ok (.goto 4, 3) := by decide +kernel
theorem dX6_note_89 : decode cX6_note 89 = .ok (.iconst (-1), 1) := by decide +kernel
theorem dX6_note_90 : decode cX6_note 90 = .ok (.invokestatic 103, 3) := by decide +kernel
theorem dX6_note_93 : decode cX6_note 93 = .ok (.aload_n 0, 1) := by decide +kernel
theorem dX6_note_94 : decode cX6_note 94 = .ok (.getfield 55, 3) := by decide +kernel
theorem dX6_note_97 : decode cX6_note 97 = .ok (.iload 4, 2) := by decide +kernel
theorem dX6_note_99 : decode cX6_note 99 = .ok (.aload_n 1, 1) := by decide +kernel
theorem dX6_note_100 : decode cX6_note 100 = .ok (.invokevirtual 116, 3) := by decide +kernel
theorem dX6_note_103 : decode cX6_note 103 = .ok (.ifCond .eq 10, 3) := by decide +kernel
theorem dX6_note_106 : decode cX6_note 106 = .ok (.aload_n 1, 1) := by decide +kernel
theorem dX6_note_107 : decode cX6_note 107 = .ok (.getfield 119, 3) := by decide +kernel
theorem dX6_note_110 : decode cX6_note 110 = .ok (.goto 4, 3) := by decide +kernel
theorem dX6_note_113 : decode cX6_note 113 = .ok (.iconst (-1), 1) := by decide +kernel
theorem dX6_note_114 : decode cX6_note 114 = .ok (.invokestatic 103, 3) := by decide +kernel
theorem dX6_note_117 : decode cX6_note 117 = .ok (.iinc 3 4, 3) := by decide +kernel
theorem dX6_note_120 : decode cX6_note 120 = .ok (.goto (-97), 3) := by decide +kernel
theorem dX6_note_123 : decode cX6_note 123 = .ok (.iinc 2 4, 3) := by decide +kernel
theorem dX6_note_126 : decode cX6_note 126 = .ok (.goto (-121), 3) := by decide +kernel
theorem dX6_note_129 : decode cX6_note 129 = .ok (.return_, 1) := by decide +kernel
theorem dX6_recall_0 : decode cX6_recall 0 = .ok (.iload_n 2, 1) := by decide +kernel
theorem dX6_recall_1 : decode cX6_recall 1 = .ok (.invokestatic 122, 3) := by decide +kernel
theorem dX6_recall_4 : decode cX6_recall 4 = .ok (.istore_n 3, 1) := by decide +kernel
theorem dX6_recall_5 : decode cX6_recall 5 = .ok (.aload_n 1, 1) := by decide +kernel
theorem dX6_recall_6 : decode cX6_recall 6 = .ok (.iload_n 2, 1) := by decide +kernel
theorem dX6_recall_7 : decode cX6_recall 7 = .ok (.invokestatic 125, 3) := by decide +kernel
theorem dX6_recall_10 : decode cX6_recall 10 = .ok (.iload_n 3, 1) := by decide +kernel
theorem dX6_recall_11 : decode cX6_recall 11 = .ok (.aload_n 0, 1) := by decide +kernel
theorem dX6_recall_12 : decode cX6_recall 12 = .ok (.iload_n 2, 1) := by decide +kernel
theorem dX6_recall_13 : decode cX6_recall 13 = .ok (.invokevirtual 85, 3) := by decide +kernel
theorem dX6_recall_16 : decode cX6_recall 16 = .ok (.ifCond .eq 7, 3) := by decide +kernel
theorem dX6_recall_19 : decode cX6_recall 19 = .ok (.iconst 4, 1) := by decide +kernel
theorem dX6_recall_20 : decode cX6_recall 20 = .ok (.goto 5, 3) := by decide +kernel
theorem dX6_recall_23 : decode cX6_recall 23 = .ok (.bipush 8, 2) := by decide +kernel
theorem dX6_recall_25 : decode cX6_recall 25 = .ok (.aload_n 0, 1) := by decide +kernel
theorem dX6_recall_26 : decode cX6_recall 26 = .ok (.iload_n 3, 1) := by decide +kernel
theorem dX6_recall_27 : decode cX6_recall 27 = .ok (.invokevirtual 128, 3) := by decide +kernel
theorem dX6_recall_30 : decode cX6_recall 30 = .ok (.invokevirtual 131, 3) := by decide +kernel
theorem dX6_recall_33 : decode cX6_recall 33 = .ok (.aload_n 1, 1) := by decide +kernel
theorem dX6_recall_34 : decode cX6_recall 34 = .ok (.aload_n 0, 1) := by decide +kernel
theorem dX6_recall_35 : decode cX6_recall 35 = .ok (.getfield 49, 3) := by decide +kernel
theorem dX6_recall_38 : decode cX6_recall 38 = .ok (.iload_n 2, 1) := by decide +kernel
theorem dX6_recall_39 : decode cX6_recall 39 = .ok (.invokestatic 64, 3) := by decide +kernel
theorem dX6_recall_42 : decode cX6_recall 42 = .ok (.putfield 107, 3) := by decide +kernel
theorem dX6_recall_45 : decode cX6_recall 45 = .ok (.aload_n 1, 1) := by decide +kernel
theorem dX6_recall_46 : decode cX6_recall 46 = .ok (.aload_n 0, 1) := by decide +kernel
theorem dX6_recall_47 : decode cX6_recall 47 = .ok (.getfield 52, 3) := by decide +kernel
theorem dX6_recall_50 : decode cX6_recall 50 = .ok (.iload_n 2, 1) := by decide +kernel
theorem dX6_recall_51 : decode cX6_recall 51 = .ok (.invokestatic 64, 3) := by decide +kernel
theorem dX6_recall_54 : decode cX6_recall 54 = .ok (.putfield 113, 3) := by decide +kernel
theorem dX6_recall_57 : decode cX6_recall 57 = .ok (.aload_n 1, 1) := by decide +kernel
theorem dX6_recall_58 : decode cX6_recall 58 = .ok (.aload_n 0, 1) := by decide +kernel
theorem dX6_recall_59 : decode cX6_recall 59 = .ok (.getfield 55, 3) := by decide +kernel
theorem dX6_recall_62 : decode cX6_recall 62 = .ok (.iload_n 2, 1) := by decide +kernel
theorem dX6_recall_63 : decode cX6_recall 63 = .ok (.invokestatic 64, 3) := by decide +kernel
theorem dX6_recall_66 : decode cX6_recall 66 = .ok (.putfield 119, 3) := by decide +kernel
theorem dX6_recall_69 : decode cX6_recall 69 = .ok (.return_, 1) := by decide +kernel
theorem dX6_partsInMode_0 : decode cX6_partsInMode 0 = .ok (.iconst 0, 1) := by decide +kernel
theorem dX6_partsInMode_1 : decode cX6_partsInMode 1 = .ok (.istore_n 2, 1) := by decide +kernel
theorem dX6_partsInMode_2 : decode cX6_partsInMode 2 = .ok (.iconst 0, 1) := by decide +kernel
theorem dX6_partsInMode_3 : decode cX6_partsInMode 3 = .ok (.istore_n 3, 1) := by decide +kernel
theorem dX6_partsInMode_4 : decode cX6_partsInMode 4 = .ok (.iload_n 3, 1) := by decide +kernel
theorem dX6_partsInMode_5 : decode cX6_partsInMode 5 = .ok (.bipush 16, 2) := by decide +kernel
theorem dX6_partsInMode_7 : decode cX6_partsInMode 7 = .ok (.if_icmp .ge 32, 3) := by decide +kernel
theorem dX6_partsInMode_10 : decode cX6_partsInMode 10 = .ok (.aload_n 0, 1) := by decide +kernel
theorem dX6_partsInMode_11 : decode cX6_partsInMode 11 = .ok (.iload_n 3, 1) := by decide +kernel
theorem dX6_partsInMode_12 : decode cX6_partsInMode 12 = .ok (.invokevirtual 135, 3) := by decide +kernel
theorem dX6_partsInMode_15 : decode cX6_partsInMode 15 = .ok (.ifCond .eq 18, 3) := by decide +kernel
theorem dX6_partsInMode_18 : decode cX6_partsInMode 18 = .ok (.aload_n 0, 1) := by decide +kernel
theorem dX6_partsInMode_19 : decode cX6_partsInMode 19 = .ok (.getfield 49, 3) := by decide +kernel
theorem dX6_partsInMode_22 : decode cX6_partsInMode 22 = .ok (.iload_n 3, 1) := by decide +kernel
theorem dX6_partsInMode_23 : decode cX6_partsInMode 23 = .ok (.invokestatic 64, 3) := by decide +kernel
theorem dX6_partsInMode_26 : decode cX6_partsInMode 26 = .ok (.iload_n 1, 1) := by decide +kernel
theorem dX6_partsInMode_27 : decode cX6_partsInMode 27 = .ok (.if_icmp .ne 6, 3) := by decide +kernel
theorem dX6_partsInMode_30 : decode cX6_partsInMode 30 = .ok (.iinc 2 1, 3) := by decide +kernel
theorem dX6_partsInMode_33 : decode cX6_partsInMode 33 = .ok (.iinc 3 1, 3) := by decide +kernel
theorem dX6_partsInMode_36 : decode cX6_partsInMode 36 = .ok (.goto (-32), 3) := by decide +kernel
theorem dX6_partsInMode_39 : decode cX6_partsInMode 39 = .ok (.iload_n 2, 1) := by decide +kernel
theorem dX6_partsInMode_40 : decode cX6_partsInMode 40 = .ok (.ireturn, 1) := by decide +kernel
theorem dX7_get_0 : decode cX7_get 0 = .ok (.aload_n 0, 1) := by decide +kernel
theorem dX7_get_1 : decode cX7_get 1 = .ok (.ifnull 19, 3) := by decide +kernel
theorem dX7_get_4 : decode cX7_get 4 = .ok (.iload_n 1, 1) := by decide +kernel
theorem dX7_get_5 : decode cX7_get 5 = .ok (.ifCond .lt 15, 3) := by decide +kernel
theorem dX7_get_8 : decode cX7_get 8 = .ok (.iload_n 1, 1) := by decide +kernel
theorem dX7_get_9 : decode cX7_get 9 = .ok (.aload_n 0, 1) := by decide +kernel
theorem dX7_get_10 : decode cX7_get 10 = .ok (.arraylength, 1) := by decide +kernel
theorem dX7_get_11 : decode cX7_get 11 = .ok (.if_icmp .ge 9, 3) := by decide +kernel
theorem dX7_get_14 : decode cX7_get 14 = .ok (.aload_n 0, 1) := by decide +kernel
theorem dX7_get_15 : decode cX7_get 15 = .ok (.iload_n 1, 1) := by decide +kernel
theorem dX7_get_16 : decode cX7_get 16 = .ok (.iaload, 1) := by decide +kernel
theorem dX7_get_17 : decode cX7_get 17 = .ok (.goto 4, 3) := by decide +kernel
theorem dX7_get_20 : decode cX7_get 20 = .ok (.iconst 0, 1) := by decide +kernel
theorem dX7_get_21 : decode cX7_get 21 = .ok (.ireturn, 1) := by decide +kernel
theorem dX7_put_0 : decode cX7_put 0 = .ok (.aload_n 0, 1) := by decide +kernel
theorem dX7_put_1 : decode cX7_put 1 = .ok (.ifnull 17, 3) := by decide +kernel
theorem dX7_put_4 : decode cX7_put 4 = .ok (.iload_n 1, 1) := by decide +kernel
theorem dX7_put_5 : decode cX7_put 5 = .ok (.ifCond .lt 13, 3) := by decide +kernel
theorem dX7_put_8 : decode cX7_put 8 = .ok (.iload_n 1, 1) := by decide +kernel
theorem dX7_put_9 : decode cX7_put 9 = .ok (.aload_n 0, 1) := by decide +kernel
theorem dX7_put_10 : decode cX7_put 10 = .ok (.arraylength, 1) := by decide +kernel
theorem dX7_put_11 : decode cX7_put 11 = .ok (.if_icmp .ge 7, 3) := by decide +kernel
theorem dX7_put_14 : decode cX7_put 14 = .ok (.aload_n 0, 1) := by decide +kernel
theorem dX7_put_15 : decode cX7_put 15 = .ok (.iload_n 1, 1) := by decide +kernel
theorem dX7_put_16 : decode cX7_put 16 = .ok (.iload_n 2, 1) := by decide +kernel
theorem dX7_put_17 : decode cX7_put 17 = .ok (.iastore, 1) := by decide +kernel
theorem dX7_put_18 : decode cX7_put 18 = .ok (.return_, 1) := by decide +kernel
theorem dX7_set_0 : decode cX7_set 0 = .ok (.iconst 0, 1) := by decide +kernel
theorem dX7_set_1 : decode cX7_set 1 = .ok (.istore_n 2, 1) := by decide +kernel
theorem dX7_set_2 : decode cX7_set 2 = .ok (.iload_n 2, 1) := by decide +kernel
theorem dX7_set_3 : decode cX7_set 3 = .ok (.aload_n 0, 1) := by decide +kernel
theorem dX7_set_4 : decode cX7_set 4 = .ok (.arraylength, 1) := by decide +kernel
theorem dX7_set_5 : decode cX7_set 5 = .ok (.if_icmp .ge 13, 3) := by decide +kernel
theorem dX7_set_8 : decode cX7_set 8 = .ok (.aload_n 0, 1) := by decide +kernel
theorem dX7_set_9 : decode cX7_set 9 = .ok (.iload_n 2, 1) := by decide +kernel
theorem dX7_set_10 : decode cX7_set 10 = .ok (.iload_n 1, 1) := by decide +kernel
theorem dX7_set_11 : decode cX7_set 11 = .ok (.iastore, 1) := by decide +kernel
theorem dX7_set_12 : decode cX7_set 12 = .ok (.iinc 2 1, 3) := by decide +kernel
theorem dX7_set_15 : decode cX7_set 15 = .ok (.goto (-13), 3) := by decide +kernel
theorem dX7_set_18 : decode cX7_set 18 = .ok (.return_, 1) := by decide +kernel
theorem dX7_copy_0 : decode cX7_copy 0 = .ok (.iconst 0, 1) := by decide +kernel
theorem dX7_copy_1 : decode cX7_copy 1 = .ok (.istore_n 2, 1) := by decide +kernel
theorem dX7_copy_2 : decode cX7_copy 2 = .ok (.iload_n 2, 1) := by decide +kernel
theorem dX7_copy_3 : decode cX7_copy 3 = .ok (.aload_n 0, 1) := by decide +kernel
theorem dX7_copy_4 : decode cX7_copy 4 = .ok (.arraylength, 1) := by decide +kernel
theorem dX7_copy_5 : decode cX7_copy 5 = .ok (.if_icmp .ge 21, 3) := by decide +kernel
theorem dX7_copy_8 : decode cX7_copy 8 = .ok (.iload_n 2, 1) := by decide +kernel
theorem dX7_copy_9 : decode cX7_copy 9 = .ok (.aload_n 1, 1) := by decide +kernel
theorem dX7_copy_10 : decode cX7_copy 10 = .ok (.arraylength, 1) := by decide +kernel
theorem dX7_copy_11 : decode cX7_copy 11 = .ok (.if_icmp .ge 15, 3) := by decide +kernel
theorem dX7_copy_14 : decode cX7_copy 14 = .ok (.aload_n 1, 1) := by decide +kernel
theorem dX7_copy_15 : decode cX7_copy 15 = .ok (.iload_n 2, 1) := by decide +kernel
theorem dX7_copy_16 : decode cX7_copy 16 = .ok (.aload_n 0, 1) := by decide +kernel
theorem dX7_copy_17 : decode cX7_copy 17 = .ok (.iload_n 2, 1) := by decide +kernel
theorem dX7_copy_18 : decode cX7_copy 18 = .ok (.iaload, 1) := by decide +kernel
theorem dX7_copy_19 : decode cX7_copy 19 = .ok (.iastore, 1) := by decide +kernel
theorem dX7_copy_20 : decode cX7_copy 20 = .ok (.iinc 2 1, 3) := by decide +kernel
theorem dX7_copy_23 : decode cX7_copy 23 = .ok (.goto (-21), 3) := by decide +kernel
theorem dX7_copy_26 : decode cX7_copy 26 = .ok (.return_, 1) := by decide +kernel
theorem dX7_shift_0 : decode cX7_shift 0 = .ok (.aload_n 0, 1) := by decide +kernel
theorem dX7_shift_1 : decode cX7_shift 1 = .ok (.arraylength, 1) := by decide +kernel
theorem dX7_shift_2 : decode cX7_shift 2 = .ok (.iconst 1, 1) := by decide +kernel
theorem dX7_shift_3 : decode cX7_shift 3 = .ok (.isub, 1) := by decide +kernel
theorem dX7_shift_4 : decode cX7_shift 4 = .ok (.istore_n 2, 1) := by decide +kernel
theorem dX7_shift_5 : decode cX7_shift 5 = .ok (.iload_n 2, 1) := by decide +kernel
theorem dX7_shift_6 : decode cX7_shift 6 = .ok (.iload_n 1, 1) := by decide +kernel
theorem dX7_shift_7 : decode cX7_shift 7 = .ok (.if_icmp .lt 21, 3) := by decide +kernel
theorem dX7_shift_10 : decode cX7_shift 10 = .ok (.iload_n 1, 1) := by decide +kernel
theorem dX7_shift_11 : decode cX7_shift 11 = .ok (.ifCond .le 17, 3) := by decide +kernel
theorem dX7_shift_14 : decode cX7_shift 14 = .ok (.aload_n 0, 1) := by decide +kernel
theorem dX7_shift_15 : decode cX7_shift 15 = .ok (.iload_n 2, 1) := by decide +kernel
theorem dX7_shift_16 : decode cX7_shift 16 = .ok (.aload_n 0, 1) := by decide +kernel
theorem dX7_shift_17 : decode cX7_shift 17 = .ok (.iload_n 2, 1) := by decide +kernel
theorem dX7_shift_18 : decode cX7_shift 18 = .ok (.iload_n 1, 1) := by decide +kernel
theorem dX7_shift_19 : decode cX7_shift 19 = .ok (.isub, 1) := by decide +kernel
theorem dX7_shift_20 : decode cX7_shift 20 = .ok (.iaload, 1) := by decide +kernel
theorem dX7_shift_21 : decode cX7_shift 21 = .ok (.iastore, 1) := by decide +kernel
theorem dX7_shift_22 : decode cX7_shift 22 = .ok (.iinc 2 (-1), 3) := by decide +kernel
theorem dX7_shift_25 : decode cX7_shift 25 = .ok (.goto (-20), 3) := by decide +kernel
theorem dX7_shift_28 : decode cX7_shift 28 = .ok (.return_, 1) := by decide +kernel
theorem dX8_init_0 : decode cX8_init 0 = .ok (.aload_n 0, 1) := by decide +kernel
theorem dX8_init_1 : decode cX8_init 1 = .ok (.invokespecial 3, 3) := by decide +kernel
theorem dX8_init_4 : decode cX8_init 4 = .ok (.aload_n 0, 1) := by decide +kernel
theorem dX8_init_5 : decode cX8_init 5 = .ok (.new 9, 3) := by decide +kernel
theorem dX8_init_8 : decode cX8_init 8 = .ok (.dup, 1) := by decide +kernel
theorem dX8_init_9 : decode cX8_init 9 = .ok (.invokespecial 11, 3) := by decide +kernel
theorem dX8_init_12 : decode cX8_init 12 = .ok (.putfield 12, 3) := by decide +kernel
theorem dX8_init_15 : decode cX8_init 15 = .ok (.aload_n 0, 1) := by decide +kernel
theorem dX8_init_16 : decode cX8_init 16 = .ok (.new 9, 3) := by decide +kernel
theorem dX8_init_19 : decode cX8_init 19 = .ok (.dup, 1) := by decide +kernel
theorem dX8_init_20 : decode cX8_init 20 = .ok (.invokespecial 11, 3) := by decide +kernel
theorem dX8_init_23 : decode cX8_init 23 = .ok (.putfield 18, 3) := by decide +kernel
theorem dX8_init_26 : decode cX8_init 26 = .ok (.aload_n 0, 1) := by decide +kernel
theorem dX8_init_27 : decode cX8_init 27 = .ok (.aload_n 0, 1) := by decide +kernel
theorem dX8_init_28 : decode cX8_init 28 = .ok (.getfield 12, 3) := by decide +kernel
theorem dX8_init_31 : decode cX8_init 31 = .ok (.putfield 21, 3) := by decide +kernel
theorem dX8_init_34 : decode cX8_init 34 = .ok (.aload_n 0, 1) := by decide +kernel
theorem dX8_init_35 : decode cX8_init 35 = .ok (.new 24, 3) := by decide +kernel
theorem dX8_init_38 : decode cX8_init 38 = .ok (.dup, 1) := by decide +kernel
theorem dX8_init_39 : decode cX8_init 39 = .ok (.invokespecial 26, 3) := by decide +kernel
theorem dX8_init_42 : decode cX8_init 42 = .ok (.putfield 27, 3) := by decide +kernel
theorem dX8_init_45 : decode cX8_init 45 = .ok (.return_, 1) := by decide +kernel
theorem dX8_writeSlice_0 : decode cX8_writeSlice 0 = .ok (.iconst 0, 1) := by decide +kernel
theorem dX8_writeSlice_1 : decode cX8_writeSlice 1 = .ok (.iconst 0, 1) := by decide +kernel
theorem dX8_writeSlice_2 : decode cX8_writeSlice 2 = .ok (.invokestatic 31, 3) := by decide +kernel
theorem dX8_writeSlice_5 : decode cX8_writeSlice 5 = .ok (.istore_n 3, 1) := by decide +kernel
theorem dX8_writeSlice_6 : decode cX8_writeSlice 6 = .ok (.iconst 0, 1) := by decide +kernel
theorem dX8_writeSlice_7 : decode cX8_writeSlice 7 = .ok (.iconst 0, 1) := by decide +kernel
theorem dX8_writeSlice_8 : decode cX8_writeSlice 8 = .ok (.invokestatic 31, 3) := by decide +kernel
theorem dX8_writeSlice_11 : decode cX8_writeSlice 11 = .ok (.istore 4, 2) := by decide +kernel
theorem dX8_writeSlice_13 : decode cX8_writeSlice 13 = .ok (.aload_n 0, 1) := by decide +kernel
theorem dX8_writeSlice_14 : decode cX8_writeSlice 14 = .ok (.iload_n 2, 1) := by decide +kernel
theorem dX8_writeSlice_15 : decode cX8_writeSlice 15 = .ok (.ifCond .ne 10, 3) := by decide +kernel
theorem dX8_writeSlice_18 : decode cX8_writeSlice 18 = .ok (.aload_n 0, 1) := by decide +kernel
theorem dX8_writeSlice_19 : decode cX8_writeSlice 19 = .ok (.getfield 12, 3) := by decide +kernel
theorem dX8_writeSlice_22 : decode cX8_writeSlice 22 = .ok (.goto 7, 3) := by decide +kernel
theorem dX8_writeSlice_25 : decode cX8_writeSlice 25 = .ok (.aload_n 0, 1) := by decide +kernel
theorem dX8_writeSlice_26 : decode cX8_writeSlice 26 = .ok (.getfield 18, 3) := by decide +kernel
theorem dX8_writeSlice_29 : decode cX8_writeSlice 29 = .ok (.putfield 21, 3) := by decide +kernel
theorem dX8_writeSlice_32 : decode cX8_writeSlice 32 = .ok (.aload_n 0, 1) := by decide +kernel
theorem dX8_writeSlice_33 : decode cX8_writeSlice 33 = .ok (.getfield 21, 3) := by decide +kernel
theorem dX8_writeSlice_36 : decode cX8_writeSlice 36 = .ok (.invokevirtual 37, 3) := by decide +kernel
theorem dX8_writeSlice_39 : decode cX8_writeSlice 39 = .ok (.iconst 0, 1) := by decide +kernel
theorem dX8_writeSlice_40 : decode cX8_writeSlice 40 = .ok (.istore 5, 2) := by decide +kernel
theorem dX8_writeSlice_42 : decode cX8_writeSlice 42 = .ok (.iload 5, 2) := by decide +kernel
theorem dX8_writeSlice_44 : decode cX8_writeSlice 44 = .ok (.bipush 16, 2) := by decide +kernel
theorem dX8_writeSlice_46 : decode cX8_writeSlice 46 = .ok (.if_icmp .ge 142, 3) := by decide +kernel
theorem dX8_writeSlice_49 : decode cX8_writeSlice 49 = .ok (.aload_n 1, 1) := by decide +kernel
theorem dX8_writeSlice_50 : decode cX8_writeSlice 50 = .ok (.iload 5, 2) := by decide +kernel
theorem dX8_writeSlice_52 : decode cX8_writeSlice 52 = .ok (.invokestatic 40, 3) := by decide +kernel
theorem dX8_writeSlice_55 : decode cX8_writeSlice 55 = .ok (.invokevirtual 44, 3) := by decide +kernel
theorem dX8_writeSlice_58 : decode cX8_writeSlice 58 = .ok (.iload_n 2, 1) := by decide +kernel
theorem dX8_writeSlice_59 : decode cX8_writeSlice 59 = .ok (.if_icmp .eq 6, 3) := by decide +kernel
theorem dX8_writeSlice_62 : decode cX8_writeSlice 62 = .ok (.goto 120, 3) := by decide +kernel
theorem dX8_writeSlice_65 : decode cX8_writeSlice 65 = .ok (.iload 5, 2) := by decide +kernel
theorem dX8_writeSlice_67 : decode cX8_writeSlice 67 = .ok (.invokestatic 49, 3) := by decide +kernel
theorem dX8_writeSlice_70 : decode cX8_writeSlice 70 = .ok (.ifCond .eq 25, 3) := by decide +kernel
theorem dX8_writeSlice_73 : decode cX8_writeSlice 73 = .ok (.aload_n 1, 1) := by decide +kernel
theorem dX8_writeSlice_74 : decode cX8_writeSlice 74 = .ok (.iconst 1, 1) := by decide +kernel
theorem dX8_writeSlice_75 : decode cX8_writeSlice 75 = .ok (.invokevirtual 53, 3) := by decide +kernel
theorem dX8_writeSlice_78 : decode cX8_writeSlice 78 = .ok (.ifCond .eq 17, 3) := by decide +kernel
theorem dX8_writeSlice_81 : decode cX8_writeSlice 81 = .ok (.aload_n 0, 1) := by decide +kernel
theorem dX8_writeSlice_82 : decode cX8_writeSlice 82 = .ok (.getfield 21, 3) := by decide +kernel
theorem dX8_writeSlice_85 : decode cX8_writeSlice 85 = .ok (.iconst 0, 1) := by decide +kernel
theorem dX8_writeSlice_86 : decode cX8_writeSlice 86 = .ok (.aload_n 1, 1) := by decide +kernel
theorem dX8_writeSlice_87 : decode cX8_writeSlice 87 = .ok (.iload 5, 2) := by decide +kernel
theorem dX8_writeSlice_89 : decode cX8_writeSlice 89 = .ok (.invokevirtual 56, 3) := by decide +kernel
theorem dX8_writeSlice_92 : decode cX8_writeSlice 92 = .ok (.invokevirtual 59, 3) := by decide +kernel
theorem dX8_writeSlice_95 : decode cX8_writeSlice 95 = .ok (.aload_n 1, 1) := by decide +kernel
theorem dX8_writeSlice_96 : decode cX8_writeSlice 96 = .ok (.iload 5, 2) := by decide +kernel
theorem dX8_writeSlice_98 : decode cX8_writeSlice 98 = .ok (.invokevirtual 63, 3) := by decide +kernel
theorem dX8_writeSlice_101 : decode cX8_writeSlice 101 = .ok (.ifCond .eq 60, 3) := by decide +kernel
theorem dX8_writeSlice_104 : decode cX8_writeSlice 104 = .ok (.aload_n 1, 1) := by decide +kernel
theorem dX8_writeSlice_105 : decode cX8_writeSlice 105 = .ok (.aload_n 0, 1) := by decide +kernel
theorem dX8_writeSlice_106 : decode cX8_writeSlice 106 = .ok (.getfield 27, 3) := by decide +kernel
theorem dX8_writeSlice_109 : decode cX8_writeSlice 109 = .ok (.iload 5, 2) := by decide +kernel
theorem dX8_writeSlice_111 : decode cX8_writeSlice 111 = .ok (.invokevirtual 66, 3) := by decide +kernel
theorem dX8_writeSlice_114 : decode cX8_writeSlice 114 = .ok (.aload_n 0, 1) := by decide +kernel
theorem dX8_writeSlice_115 : decode cX8_writeSlice 115 = .ok (.aload_n 1, 1) := by decide +kernel
theorem dX8_writeSlice_116 : decode cX8_writeSlice 116 = .ok (.invokevirtual 70, 3) := by decide +kernel
theorem dX8_writeSlice_119 : decode cX8_writeSlice 119 = .ok (.aload_n 0, 1) := by decide +kernel
theorem dX8_writeSlice_120 : decode cX8_writeSlice 120 = .ok (.aload_n 0, 1) := by decide +kernel
theorem dX8_writeSlice_121 : decode cX8_writeSlice 121 = .ok (.getfield 27, 3) := by decide +kernel
theorem dX8_writeSlice_124 : decode cX8_writeSlice 124 = .ok (.invokevirtual 74, 3) := by decide +kernel
theorem dX8_writeSlice_127 : decode cX8_writeSlice 127 = .ok (.aload_n 0, 1) := by decide +kernel
theorem dX8_writeSlice_128 : decode cX8_writeSlice 128 = .ok (.getfield 27, 3) := by decide +kernel
theorem dX8_writeSlice_131 : decode cX8_writeSlice 131 = .ok (.getfield 78, 3) := by decide +kernel
theorem dX8_writeSlice_134 : decode cX8_writeSlice 134 = .ok (.iload_n 3, 1) := by decide +kernel
theorem dX8_writeSlice_135 : decode cX8_writeSlice 135 = .ok (.invokevirtual 82, 3) := by decide +kernel
theorem dX8_writeSlice_138 : decode cX8_writeSlice 138 = .ok (.istore_n 3, 1) := by decide +kernel
theorem dX8_writeSlice_139 : decode cX8_writeSlice 139 = .ok (.aload_n 0, 1) := by decide +kernel
theorem dX8_writeSlice_140 : decode cX8_writeSlice 140 = .ok (.aload_n 0, 1) := by decide +kernel
theorem dX8_writeSlice_141 : decode cX8_writeSlice 141 = .ok (.getfield 27, 3) := by decide +kernel
theorem dX8_writeSlice_144 : decode cX8_writeSlice 144 = .ok (.invokevirtual 86, 3) := by decide +kernel
theorem dX8_writeSlice_147 : decode cX8_writeSlice 147 = .ok (.aload_n 0, 1) := by decide +kernel
theorem dX8_writeSlice_148 : decode cX8_writeSlice 148 = .ok (.getfield 27, 3) := by decide +kernel
theorem dX8_writeSlice_151 : decode cX8_writeSlice 151 = .ok (.getfield 89, 3) := by decide +kernel
theorem dX8_writeSlice_154 : decode cX8_writeSlice 154 = .ok (.iload 4, 2) := by decide +kernel
theorem dX8_writeSlice_156 : decode cX8_writeSlice 156 = .ok (.invokevirtual 82, 3) := by decide +kernel
theorem dX8_writeSlice_159 : decode cX8_writeSlice 159 = .ok (.istore 4, 2) := by decide +kernel
theorem dX8_writeSlice_161 : decode cX8_writeSlice 161 = .ok (.aload_n 0, 1) := by decide +kernel
theorem dX8_writeSlice_162 : decode cX8_writeSlice 162 = .ok (.aload_n 1, 1) := by decide +kernel
theorem dX8_writeSlice_163 : decode cX8_writeSlice 163 = .ok (.getfield 92, 3) := by decide +kernel
theorem dX8_writeSlice_166 : decode cX8_writeSlice 166 = .ok (.iload 5, 2) := by decide +kernel
theorem dX8_writeSlice_168 : decode cX8_writeSlice 168 = .ok (.invokestatic 96, 3) := by decide +kernel
theorem dX8_writeSlice_171 : decode cX8_writeSlice 171 = .ok (.iload 5, 2) := by decide +kernel
theorem dX8_writeSlice_173 : decode cX8_writeSlice 173 = .ok (.invokestatic 40, 3) := by decide +kernel
theorem dX8_writeSlice_176 : decode cX8_writeSlice 176 = .ok (.invokestatic 99, 3) := by decide +kernel
theorem dX8_writeSlice_179 : decode cX8_writeSlice 179 = .ok (.invokevirtual 102, 3) := by decide +kernel
theorem dX8_writeSlice_182 : decode cX8_writeSlice 182 = .ok (.iinc 5 1, 3) := by decide +kernel
theorem dX8_writeSlice_185 : decode cX8_writeSlice 185 = .ok (.goto (-143), 3) := by decide +kernel
theorem dX8_writeSlice_188 : decode cX8_writeSlice 188 = .ok (.iload_n 2, 1) := by decide +kernel
theorem dX8_writeSlice_189 : decode cX8_writeSlice 189 = .ok (.aload_n 1, 1) := by decide +kernel
theorem dX8_writeSlice_190 : decode cX8_writeSlice 190 = .ok (.getfield 106, 3) := by decide +kernel
theorem dX8_writeSlice_193 : decode cX8_writeSlice 193 = .ok (.if_icmp .ge 10, 3) := by decide +kernel
theorem dX8_writeSlice_196 : decode cX8_writeSlice 196 = .ok (.aload_n 0, 1) := by decide +kernel
theorem dX8_writeSlice_197 : decode cX8_writeSlice 197 = .ok (.getfield 21, 3) := by decide +kernel
theorem dX8_writeSlice_200 : decode cX8_writeSlice 200 = .ok (.invokevirtual 109, 3) := by decide +kernel
theorem dX8_writeSlice_203 : decode cX8_writeSlice 203 = .ok (.return_, 1) := by decide +kernel
theorem dX8_bits_0 : decode cX8_bits 0 = .ok (.bipush 8, 2) := by decide +kernel
theorem dX8_bits_2 : decode cX8_bits 2 = .ok (.aload_n 0, 1) := by decide +kernel
theorem dX8_bits_3 : decode cX8_bits 3 = .ok (.getfield 12, 3) := by decide +kernel
theorem dX8_bits_6 : decode cX8_bits 6 = .ok (.getfield 112, 3) := by decide +kernel
theorem dX8_bits_9 : decode cX8_bits 9 = .ok (.aload_n 0, 1) := by decide +kernel
theorem dX8_bits_10 : decode cX8_bits 10 = .ok (.getfield 18, 3) := by decide +kernel
theorem dX8_bits_13 : decode cX8_bits 13 = .ok (.getfield 112, 3) := by decide +kernel
theorem dX8_bits_16 : decode cX8_bits 16 = .ok (.iadd, 1) := by decide +kernel
theorem dX8_bits_17 : decode cX8_bits 17 = .ok (.imul, 1) := by decide +kernel
theorem dX8_bits_18 : decode cX8_bits 18 = .ok (.ireturn, 1) := by decide +kernel
theorem dX8_slice_0 : decode cX8_slice 0 = .ok (.iload_n 1, 1) := by decide +kernel
theorem dX8_slice_1 : decode cX8_slice 1 = .ok (.ifCond .ne 13, 3) := by decide +kernel
theorem dX8_slice_4 : decode cX8_slice 4 = .ok (.aload_n 0, 1) := by decide +kernel
theorem dX8_slice_5 : decode cX8_slice 5 = .ok (.getfield 12, 3) := by decide +kernel
theorem dX8_slice_8 : decode cX8_slice 8 = .ok (.invokevirtual 115, 3) := by decide +kernel
theorem dX8_slice_11 : decode cX8_slice 11 = .ok (.goto 10, 3) := by decide +kernel
theorem dX8_slice_14 : decode cX8_slice 14 = .ok (.aload_n 0, 1) := by decide +kernel
theorem dX8_slice_15 : decode cX8_slice 15 = .ok (.getfield 18, 3) := by decide +kernel
theorem dX8_slice_18 : decode cX8_slice 18 = .ok (.invokevirtual 115, 3) := by decide +kernel
theorem dX8_slice_21 : decode cX8_slice 21 = .ok (.areturn, 1) := by decide +kernel
theorem dX8_writeMode_0 : decode cX8_writeMode 0 = .ok (.aload_n 1, 1) := by decide +kernel
theorem dX8_writeMode_1 : decode cX8_writeMode 1 = .ok (.invokevirtual 119, 3) := by decide +kernel
theorem dX8_writeMode_4 : decode cX8_writeMode 4 = .ok (.ifCond .eq 26, 3) := by decide +kernel
theorem dX8_writeMode_7 : decode cX8_writeMode 7 = .ok (.aload_n 0, 1) := by decide +kernel
theorem dX8_writeMode_8 : decode cX8_writeMode 8 = .ok (.getfield 21, 3) := by decide +kernel
theorem dX8_writeMode_11 : decode cX8_writeMode 11 = .ok (.iconst 1, 1) := by decide +kernel
theorem dX8_writeMode_12 : decode cX8_writeMode 12 = .ok (.aload_n 0, 1) := by decide +kernel
theorem dX8_writeMode_13 : decode cX8_writeMode 13 = .ok (.getfield 27, 3) := by decide +kernel
theorem dX8_writeMode_16 : decode cX8_writeMode 16 = .ok (.invokevirtual 122, 3) := by decide +kernel
theorem dX8_writeMode_19 : decode cX8_writeMode 19 = .ok (.ifCond .ne 7, 3) := by decide +kernel
theorem dX8_writeMode_22 : decode cX8_writeMode 22 = .ok (.iconst 1, 1) := by decide +kernel
theorem dX8_writeMode_23 : decode cX8_writeMode 23 = .ok (.goto 4, 3) := by decide +kernel
theorem dX8_writeMode_26 : decode cX8_writeMode 26 = .ok (.iconst 0, 1) := by decide +kernel
theorem dX8_writeMode_27 : decode cX8_writeMode 27 = .ok (.invokevirtual 59, 3) := by decide +kernel
theorem dX8_writeMode_30 : decode cX8_writeMode 30 = .ok (.aload_n 0, 1) := by decide +kernel
theorem dX8_writeMode_31 : decode cX8_writeMode 31 = .ok (.getfield 27, 3) := by decide +kernel
theorem dX8_writeMode_34 : decode cX8_writeMode 34 = .ok (.invokevirtual 122, 3) := by decide +kernel
theorem dX8_writeMode_37 : decode cX8_writeMode 37 = .ok (.ifCond .eq 72, 3) := by decide +kernel
theorem dX8_writeMode_40 : decode cX8_writeMode 40 = .ok (.aload_n 0, 1) := by decide +kernel
theorem dX8_writeMode_41 : decode cX8_writeMode 41 = .ok (.getfield 21, 3) := by decide +kernel
theorem dX8_writeMode_44 : decode cX8_writeMode 44 = .ok (.iconst 4, 1) := by decide +kernel
theorem dX8_writeMode_45 : decode cX8_writeMode 45 = .ok (.aload_n 0, 1) := by decide +kernel
theorem dX8_writeMode_46 : decode cX8_writeMode 46 = .ok (.getfield 27, 3) := by decide +kernel
theorem dX8_writeMode_49 : decode cX8_writeMode 49 = .ok (.getfield 125, 3) := by decide +kernel
theorem dX8_writeMode_52 : decode cX8_writeMode 52 = .ok (.iconst 2, 1) := by decide +kernel
theorem dX8_writeMode_53 : decode cX8_writeMode 53 = .ok (.if_icmp .lt 7, 3) := by decide +kernel
theorem dX8_writeMode_56 : decode cX8_writeMode 56 = .ok (.iconst 1, 1) := by decide +kernel
theorem dX8_writeMode_57 : decode cX8_writeMode 57 = .ok (.goto 4, 3) := by decide +kernel
theorem dX8_writeMode_60 : decode cX8_writeMode 60 = .ok (.iconst 0, 1) := by decide +kernel
theorem dX8_writeMode_61 : decode cX8_writeMode 61 = .ok (.invokevirtual 59, 3) := by decide +kernel
theorem dX8_writeMode_64 : decode cX8_writeMode 64 = .ok (.aload_n 0, 1) := by decide +kernel
theorem dX8_writeMode_65 : decode cX8_writeMode 65 = .ok (.getfield 21, 3) := by decide +kernel
theorem dX8_writeMode_68 : decode cX8_writeMode 68 = .ok (.aload_n 0, 1) := by decide +kernel
theorem dX8_writeMode_69 : decode cX8_writeMode 69 = .ok (.getfield 27, 3) := by decide +kernel
theorem dX8_writeMode_72 : decode cX8_writeMode 72 = .ok (.getfield 125, 3) := by decide +kernel
theorem dX8_writeMode_75 : decode cX8_writeMode 75 = .ok (.iconst 2, 1) := by decide +kernel
theorem dX8_writeMode_76 : decode cX8_writeMode 76 = .ok (.if_icmp .lt 8, 3) := by decide +kernel
theorem dX8_writeMode_79 : decode cX8_writeMode 79 = .ok (.bipush 6, 2) := by decide +kernel
theorem dX8_writeMode_81 : decode cX8_writeMode 81 = .ok (.goto 4, 3) := by decide +kernel
theorem dX8_writeMode_84 : decode cX8_writeMode 84 = .ok (.iconst 5, 1) := by decide +kernel
theorem dX8_writeMode_85 : decode cX8_writeMode 85 = .ok (.aload_n 0, 1) := by decide +kernel
theorem dX8_writeMode_86 : decode cX8_writeMode 86 = .ok (.getfield 27, 3) := by decide +kernel
theorem dX8_writeMode_89 : decode cX8_writeMode 89 = .ok (.getfield 125, 3) := by decide +kernel
theorem dX8_writeMode_92 : decode cX8_writeMode 92 = .ok (.iconst 2, 1) := by decide +kernel
theorem dX8_writeMode_93 : decode cX8_writeMode 93 = .ok (.irem, 1) := by decide +kernel
theorem dX8_writeMode_94 : decode cX8_writeMode 94 = .ok (.iconst 1, 1) := by decide +kernel
theorem dX8_writeMode_95 : decode cX8_writeMode 95 = .ok (.if_icmp .ne 7, 3) := by decide +kernel
theorem dX8_writeMode_98 : decode cX8_writeMode 98 = .ok (.iconst 1, 1) := by decide +kernel
theorem dX8_writeMode_99 : decode cX8_writeMode 99 = .ok (.goto 4, 3) := by decide +kernel
theorem dX8_writeMode_102 : decode cX8_writeMode 102 = .ok (.iconst 0, 1) := by decide +kernel
theorem dX8_writeMode_103 : decode cX8_writeMode 103 = .ok (.invokevirtual 59, 3) := by decide +kernel
theorem dX8_writeMode_106 : decode cX8_writeMode 106 = .ok (.goto 71, 3) := by decide +kernel
theorem dX8_writeMode_109 : decode cX8_writeMode 109 = .ok (.aload_n 1, 1) := by decide +kernel
theorem dX8_writeMode_110 : decode cX8_writeMode 110 = .ok (.invokevirtual 128, 3) := by decide +kernel
theorem dX8_writeMode_113 : decode cX8_writeMode 113 = .ok (.ifCond .eq 64, 3) := by decide +kernel
theorem dX8_writeMode_116 : decode cX8_writeMode 116 = .ok (.aload_n 0, 1) := by decide +kernel
theorem dX8_writeMode_117 : decode cX8_writeMode 117 = .ok (.getfield 21, 3) := by decide +kernel
theorem dX8_writeMode_120 : decode cX8_writeMode 120 = .ok (.iconst 2, 1) := by decide +kernel
theorem dX8_writeMode_121 : decode cX8_writeMode 121 = .ok (.aload_n 0, 1) := by decide +kernel
theorem dX8_writeMode_122 : decode cX8_writeMode 122 = .ok (.getfield 27, 3) := by decide +kernel
theorem dX8_writeMode_125 : decode cX8_writeMode 125 = .ok (.getfield 125, 3) := by decide +kernel
theorem dX8_writeMode_128 : decode cX8_writeMode 128 = .ok (.bipush 6, 2) := by decide +kernel
theorem dX8_writeMode_130 : decode cX8_writeMode 130 = .ok (.if_icmp .ne 7, 3) := by decide +kernel
theorem dX8_writeMode_133 : decode cX8_writeMode 133 = .ok (.iconst 1, 1) := by decide +kernel
theorem dX8_writeMode_134 : decode cX8_writeMode 134 = .ok (.goto 4, 3) := by decide +kernel
theorem dX8_writeMode_137 : decode cX8_writeMode 137 = .ok (.iconst 0, 1) := by decide +kernel
theorem dX8_writeMode_138 : decode cX8_writeMode 138 = .ok (.invokevirtual 59, 3) := by decide +kernel
theorem dX8_writeMode_141 : decode cX8_writeMode 141 = .ok (.aload_n 0, 1) := by decide +kernel
theorem dX8_writeMode_142 : decode cX8_writeMode 142 = .ok (.getfield 27, 3) := by decide +kernel
theorem dX8_writeMode_145 : decode cX8_writeMode 145 = .ok (.getfield 125, 3) := by decide +kernel
theorem dX8_writeMode_148 : decode cX8_writeMode 148 = .ok (.bipush 6, 2) := by decide +kernel
theorem dX8_writeMode_150 : decode cX8_writeMode 150 = .ok (.if_icmp .eq 27, 3) := by decide +kernel
theorem dX8_writeMode_153 : decode cX8_writeMode 153 = .ok (.aload_n 0, 1) := by decide +kernel
theorem dX8_writeMode_154 : decode cX8_writeMode 154 = .ok (.getfield 21, 3) := by decide +kernel
theorem dX8_writeMode_157 : decode cX8_writeMode 157 = .ok (.iconst 3, 1) := by decide +kernel
theorem dX8_writeMode_158 : decode cX8_writeMode 158 = .ok (.aload_n 0, 1) := by decide +kernel
theorem dX8_writeMode_159 : decode cX8_writeMode 159 = .ok (.getfield 27, 3) := by decide +kernel
theorem dX8_writeMode_162 : decode cX8_writeMode 162 = .ok (.getfield 125, 3) := by decide +kernel
theorem dX8_writeMode_165 : decode cX8_writeMode 165 = .ok (.iconst 5, 1) := by decide +kernel
theorem dX8_writeMode_166 : decode cX8_writeMode 166 = .ok (.if_icmp .ne 7, 3) := by decide +kernel
theorem dX8_writeMode_169 : decode cX8_writeMode 169 = .ok (.iconst 1, 1) := by decide +kernel
theorem dX8_writeMode_170 : decode cX8_writeMode 170 = .ok (.goto 4, 3) := by decide +kernel
theorem dX8_writeMode_173 : decode cX8_writeMode 173 = .ok (.iconst 0, 1) := by decide +kernel
theorem dX8_writeMode_174 : decode cX8_writeMode 174 = .ok (.invokevirtual 59, 3) := by decide +kernel
theorem dX8_writeMode_177 : decode cX8_writeMode 177 = .ok (.return_, 1) := by decide +kernel
theorem dX8_writeVector_0 : decode cX8_writeVector 0 = .ok (.iload_n 1, 1) := by decide +kernel
theorem dX8_writeVector_1 : decode cX8_writeVector 1 = .ok (.ifCond .ne 5, 3) := by decide +kernel
theorem dX8_writeVector_4 : decode cX8_writeVector 4 = .ok (.iload_n 3, 1) := by decide +kernel
theorem dX8_writeVector_5 : decode cX8_writeVector 5 = .ok (.ireturn, 1) := by decide +kernel
theorem dX8_writeVector_6 : decode cX8_writeVector 6 = .ok (.iload_n 2, 1) := by decide +kernel
theorem dX8_writeVector_7 : decode cX8_writeVector 7 = .ok (.invokestatic 131, 3) := by decide +kernel
theorem dX8_writeVector_10 : decode cX8_writeVector 10 = .ok (.iload_n 3, 1) := by decide +kernel
theorem dX8_writeVector_11 : decode cX8_writeVector 11 = .ok (.invokestatic 131, 3) := by decide +kernel
theorem dX8_writeVector_14 : decode cX8_writeVector 14 = .ok (.isub, 1) := by decide +kernel
theorem dX8_writeVector_15 : decode cX8_writeVector 15 = .ok (.istore 4, 2) := by decide +kernel
theorem dX8_writeVector_17 : decode cX8_writeVector 17 = .ok (.aload_n 0, 1) := by decide +kernel
theorem dX8_writeVector_18 : decode cX8_writeVector 18 = .ok (.getfield 21, 3) := by decide +kernel
theorem dX8_writeVector_21 : decode cX8_writeVector 21 = .ok (.bipush 8, 2) := by decide +kernel
theorem dX8_writeVector_23 : decode cX8_writeVector 23 = .ok (.iload 4, 2) := by decide +kernel
theorem dX8_writeVector_25 : decode cX8_writeVector 25 = .ok (.invokestatic 134, 3) := by decide +kernel
theorem dX8_writeVector_28 : decode cX8_writeVector 28 = .ok (.invokevirtual 139, 3) := by decide +kernel
theorem dX8_writeVector_31 : decode cX8_writeVector 31 = .ok (.iload 4, 2) := by decide +kernel
theorem dX8_writeVector_33 : decode cX8_writeVector 33 = .ok (.ifCond .eq 20, 3) := by decide +kernel
theorem dX8_writeVector_36 : decode cX8_writeVector 36 = .ok (.aload_n 0, 1) := by decide +kernel
theorem dX8_writeVector_37 : decode cX8_writeVector 37 = .ok (.getfield 21, 3) := by decide +kernel
theorem dX8_writeVector_40 : decode cX8_writeVector 40 = .ok (.iload 4, 2) := by decide +kernel
theorem dX8_writeVector_42 : decode cX8_writeVector 42 = .ok (.ifCond .ge 7, 3) := by decide +kernel
theorem dX8_writeVector_45 : decode cX8_writeVector 45 = .ok (.iconst 1, 1) := by decide +kernel
theorem dX8_writeVector_46 : decode cX8_writeVector 46 = .ok (.goto 4, 3) := by decide +kernel
theorem dX8_writeVector_49 : decode cX8_writeVector 49 = .ok (.iconst 0, 1) := by decide +kernel
theorem dX8_writeVector_50 : decode cX8_writeVector 50 = .ok (.invokevirtual 143, 3) := by decide +kernel
theorem dX8_writeVector_53 : decode cX8_writeVector 53 = .ok (.iload_n 2, 1) := by decide +kernel
theorem dX8_writeVector_54 : decode cX8_writeVector 54 = .ok (.invokestatic 147, 3) := by decide +kernel
theorem dX8_writeVector_57 : decode cX8_writeVector 57 = .ok (.iload_n 3, 1) := by decide +kernel
theorem dX8_writeVector_58 : decode cX8_writeVector 58 = .ok (.invokestatic 147, 3) := by decide +kernel
theorem dX8_writeVector_61 : decode cX8_writeVector 61 = .ok (.isub, 1) := by decide +kernel
theorem dX8_writeVector_62 : decode cX8_writeVector 62 = .ok (.istore 5, 2) := by decide +kernel
theorem dX8_writeVector_64 : decode cX8_writeVector 64 = .ok (.aload_n 0, 1) := by decide +kernel
theorem dX8_writeVector_65 : decode cX8_writeVector 65 = .ok (.getfield 21, 3) := by decide +kernel
theorem dX8_writeVector_68 : decode cX8_writeVector 68 = .ok (.bipush 8, 2) := by decide +kernel
theorem dX8_writeVector_70 : decode cX8_writeVector 70 = .ok (.iload 5, 2) := by decide +kernel
theorem dX8_writeVector_72 : decode cX8_writeVector 72 = .ok (.invokestatic 134, 3) := by decide +kernel
theorem dX8_writeVector_75 : decode cX8_writeVector 75 = .ok (.invokevirtual 139, 3) := by decide +kernel
theorem dX8_writeVector_78 : decode cX8_writeVector 78 = .ok (.iload 5, 2) := by decide +kernel
theorem dX8_writeVector_80 : decode cX8_writeVector 80 = .ok (.ifCond .eq 20, 3) := by decide +kernel
theorem dX8_writeVector_83 : decode cX8_writeVector 83 = .ok (.aload_n 0, 1) := by decide +kernel
theorem dX8_writeVector_84 : decode cX8_writeVector 84 = .ok (.getfield 21, 3) := by decide +kernel
theorem dX8_writeVector_87 : decode cX8_writeVector 87 = .ok (.iload 5, 2) := by decide +kernel
theorem dX8_writeVector_89 : decode cX8_writeVector 89 = .ok (.ifCond .ge 7, 3) := by decide +kernel
theorem dX8_writeVector_92 : decode cX8_writeVector 92 = .ok (.iconst 1, 1) := by decide +kernel
theorem dX8_writeVector_93 : decode cX8_writeVector 93 = .ok (.goto 4, 3) := by decide +kernel
theorem dX8_writeVector_96 : decode cX8_writeVector 96 = .ok (.iconst 0, 1) := by decide +kernel
theorem dX8_writeVector_97 : decode cX8_writeVector 97 = .ok (.invokevirtual 143, 3) := by decide +kernel
theorem dX8_writeVector_100 : decode cX8_writeVector 100 = .ok (.iload_n 2, 1) := by decide +kernel
theorem dX8_writeVector_101 : decode cX8_writeVector 101 = .ok (.ireturn, 1) := by decide +kernel
theorem dX8_writeSquare_0 : decode cX8_writeSquare 0 = .ok (.iconst (-1), 1) := by decide +kernel
theorem dX8_writeSquare_1 : decode cX8_writeSquare 1 = .ok (.istore_n 3, 1) := by decide +kernel
theorem dX8_writeSquare_2 : decode cX8_writeSquare 2 = .ok (.iconst 0, 1) := by decide +kernel
theorem dX8_writeSquare_3 : decode cX8_writeSquare 3 = .ok (.istore 4, 2) := by decide +kernel
theorem dX8_writeSquare_5 : decode cX8_writeSquare 5 = .ok (.iload 4, 2) := by decide +kernel
theorem dX8_writeSquare_7 : decode cX8_writeSquare 7 = .ok (.getstatic 150, 3) := by decide +kernel
theorem dX8_writeSquare_10 : decode cX8_writeSquare 10 = .ok (.arraylength, 1) := by decide +kernel
theorem dX8_writeSquare_11 : decode cX8_writeSquare 11 = .ok (.if_icmp .ge 30, 3) := by decide +kernel
theorem dX8_writeSquare_14 : decode cX8_writeSquare 14 = .ok (.aload_n 1, 1) := by decide +kernel
theorem dX8_writeSquare_15 : decode cX8_writeSquare 15 = .ok (.iload_n 2, 1) := by decide +kernel
theorem dX8_writeSquare_16 : decode cX8_writeSquare 16 = .ok (.getstatic 150, 3) := by decide +kernel
theorem dX8_writeSquare_19 : decode cX8_writeSquare 19 = .ok (.iload 4, 2) := by decide +kernel
theorem dX8_writeSquare_21 : decode cX8_writeSquare 21 = .ok (.iaload, 1) := by decide +kernel
theorem dX8_writeSquare_22 : decode cX8_writeSquare 22 = .ok (.invokestatic 153, 3) := by decide +kernel
theorem dX8_writeSquare_25 : decode cX8_writeSquare 25 = .ok (.iadd, 1) := by decide +kernel
theorem dX8_writeSquare_26 : decode cX8_writeSquare 26 = .ok (.invokestatic 156, 3) := by decide +kernel
theorem dX8_writeSquare_29 : decode cX8_writeSquare 29 = .ok (.ifCond .eq 6, 3) := by decide +kernel
theorem dX8_writeSquare_32 : decode cX8_writeSquare 32 = .ok (.iload 4, 2) := by decide +kernel
theorem dX8_writeSquare_34 : decode cX8_writeSquare 34 = .ok (.istore_n 3, 1) := by decide +kernel
theorem dX8_writeSquare_35 : decode cX8_writeSquare 35 = .ok (.iinc 4 1, 3) := by decide +kernel
theorem dX8_writeSquare_38 : decode cX8_writeSquare 38 = .ok (.goto (-33), 3) := by decide +kernel
theorem dX8_writeSquare_41 : decode cX8_writeSquare 41 = .ok (.aload_n 0, 1) := by decide +kernel
theorem dX8_writeSquare_42 : decode cX8_writeSquare 42 = .ok (.getfield 21, 3) := by decide +kernel
theorem dX8_writeSquare_45 : decode cX8_writeSquare 45 = .ok (.bipush 7, 2) := by decide +kernel
theorem dX8_writeSquare_47 : decode cX8_writeSquare 47 = .ok (.iload_n 3, 1) := by decide +kernel
theorem dX8_writeSquare_48 : decode cX8_writeSquare 48 = .ok (.iconst (-1), 1) := by decide +kernel
theorem dX8_writeSquare_49 : decode cX8_writeSquare 49 = .ok (.if_icmp .eq 7, 3) := by decide +kernel
theorem dX8_writeSquare_52 : decode cX8_writeSquare 52 = .ok (.iconst 1, 1) := by decide +kernel
theorem dX8_writeSquare_53 : decode cX8_writeSquare 53 = .ok (.goto 4, 3) := by decide +kernel
theorem dX8_writeSquare_56 : decode cX8_writeSquare 56 = .ok (.iconst 0, 1) := by decide +kernel
theorem dX8_writeSquare_57 : decode cX8_writeSquare 57 = .ok (.invokevirtual 59, 3) := by decide +kernel
theorem dX8_writeSquare_60 : decode cX8_writeSquare 60 = .ok (.iload_n 3, 1) := by decide +kernel
theorem dX8_writeSquare_61 : decode cX8_writeSquare 61 = .ok (.iconst (-1), 1) := by decide +kernel
theorem dX8_writeSquare_62 : decode cX8_writeSquare 62 = .ok (.if_icmp .ne 4, 3) := by decide +kernel
theorem dX8_writeSquare_65 : decode cX8_writeSquare 65 = .ok (.return_, 1) := by decide +kernel
theorem dX8_writeSquare_66 : decode cX8_writeSquare 66 = .ok (.aload_n 0, 1) := by decide +kernel
theorem dX8_writeSquare_67 : decode cX8_writeSquare 67 = .ok (.iload_n 3, 1) := by decide +kernel
theorem dX8_writeSquare_68 : decode cX8_writeSquare 68 = .ok (.invokevirtual 162, 3) := by decide +kernel
theorem dX8_writeSquare_71 : decode cX8_writeSquare 71 = .ok (.iload_n 3, 1) := by decide +kernel
theorem dX8_writeSquare_72 : decode cX8_writeSquare 72 = .ok (.istore 4, 2) := by decide +kernel
theorem dX8_writeSquare_74 : decode cX8_writeSquare 74 = .ok (.iload 4, 2) := by decide +kernel
theorem dX8_writeSquare_76 : decode cX8_writeSquare 76 = .ok (.ifCond .lt 94, 3) := by decide +kernel
theorem dX8_writeSquare_79 : decode cX8_writeSquare 79 = .ok (.aload_n 1, 1) := by decide +kernel
theorem dX8_writeSquare_80 : decode cX8_writeSquare 80 = .ok (.iload_n 2, 1) := by decide +kernel
theorem dX8_writeSquare_81 : decode cX8_writeSquare 81 = .ok (.getstatic 150, 3) := by decide +kernel
theorem dX8_writeSquare_84 : decode cX8_writeSquare 84 = .ok (.iload 4, 2) := by decide +kernel
theorem dX8_writeSquare_86 : decode cX8_writeSquare 86 = .ok (.invokestatic 156, 3) := by decide +kernel
theorem dX8_writeSquare_89 : decode cX8_writeSquare 89 = .ok (.invokestatic 153, 3) := by decide +kernel
theorem dX8_writeSquare_92 : decode cX8_writeSquare 92 = .ok (.iadd, 1) := by decide +kernel
theorem dX8_writeSquare_93 : decode cX8_writeSquare 93 = .ok (.invokestatic 156, 3) := by decide +kernel
theorem dX8_writeSquare_96 : decode cX8_writeSquare 96 = .ok (.istore 5, 2) := by decide +kernel
theorem dX8_writeSquare_98 : decode cX8_writeSquare 98 = .ok (.iload 4, 2) := by decide +kernel
theorem dX8_writeSquare_100 : decode cX8_writeSquare 100 = .ok (.iload_n 3, 1) := by decide +kernel
theorem dX8_writeSquare_101 : decode cX8_writeSquare 101 = .ok (.if_icmp .eq 25, 3) := by decide +kernel
theorem dX8_writeSquare_104 : decode cX8_writeSquare 104 = .ok (.aload_n 0, 1) := by decide +kernel
theorem dX8_writeSquare_105 : decode cX8_writeSquare 105 = .ok (.getfield 21, 3) := by decide +kernel
theorem dX8_writeSquare_108 : decode cX8_writeSquare 108 = .ok (.bipush 48, 2) := by decide +kernel
theorem dX8_writeSquare_110 : decode cX8_writeSquare 110 = .ok (.iload 4, 2) := by decide +kernel
theorem dX8_writeSquare_112 : decode cX8_writeSquare 112 = .ok (.iadd, 1) := by decide +kernel
theorem dX8_writeSquare_113 : decode cX8_writeSquare 113 = .ok (.iload 5, 2) := by decide +kernel
theorem dX8_writeSquare_115 : decode cX8_writeSquare 115 = .ok (.ifCond .eq 7, 3) := by decide +kernel
theorem dX8_writeSquare_118 : decode cX8_writeSquare 118 = .ok (.iconst 1, 1) := by decide +kernel
theorem dX8_writeSquare_119 : decode cX8_writeSquare 119 = .ok (.goto 4, 3) := by decide +kernel
theorem dX8_writeSquare_122 : decode cX8_writeSquare 122 = .ok (.iconst 0, 1) := by decide +kernel
theorem dX8_writeSquare_123 : decode cX8_writeSquare 123 = .ok (.invokevirtual 59, 3) := by decide +kernel
theorem dX8_writeSquare_126 : decode cX8_writeSquare 126 = .ok (.iload 5, 2) := by decide +kernel
theorem dX8_writeSquare_128 : decode cX8_writeSquare 128 = .ok (.ifCond .eq 36, 3) := by decide +kernel
theorem dX8_writeSquare_131 : decode cX8_writeSquare 131 = .ok (.aload_n 0, 1) := by decide +kernel
theorem dX8_writeSquare_132 : decode cX8_writeSquare 132 = .ok (.getfield 21, 3) := by decide +kernel
theorem dX8_writeSquare_135 : decode cX8_writeSquare 135 = .ok (.iload 5, 2) := by decide +kernel
theorem dX8_writeSquare_137 : decode cX8_writeSquare 137 = .ok (.ifCond .ge 7, 3) := by decide +kernel
theorem dX8_writeSquare_140 : decode cX8_writeSquare 140 = .ok (.iconst 1, 1) := by decide +kernel
theorem dX8_writeSquare_141 : decode cX8_writeSquare 141 = .ok (.goto 4, 3) := by decide +kernel
theorem dX8_writeSquare_144 : decode cX8_writeSquare 144 = .ok (.iconst 0, 1) := by decide +kernel
theorem dX8_writeSquare_145 : decode cX8_writeSquare 145 = .ok (.invokevirtual 143, 3) := by decide +kernel
theorem dX8_writeSquare_148 : decode cX8_writeSquare 148 = .ok (.aload_n 0, 1) := by decide +kernel
theorem dX8_writeSquare_149 : decode cX8_writeSquare 149 = .ok (.getfield 21, 3) := by decide +kernel
theorem dX8_writeSquare_152 : decode cX8_writeSquare 152 = .ok (.bipush 64, 2) := by decide +kernel
theorem dX8_writeSquare_154 : decode cX8_writeSquare 154 = .ok (.iload 5, 2) := by decide +kernel
theorem dX8_writeSquare_156 : decode cX8_writeSquare 156 = .ok (.invokestatic 134, 3) := by decide +kernel
theorem dX8_writeSquare_159 : decode cX8_writeSquare 159 = .ok (.iconst 1, 1) := by decide +kernel
theorem dX8_writeSquare_160 : decode cX8_writeSquare 160 = .ok (.isub, 1) := by decide +kernel
theorem dX8_writeSquare_161 : decode cX8_writeSquare 161 = .ok (.invokevirtual 139, 3) := by decide +kernel
theorem dX8_writeSquare_164 : decode cX8_writeSquare 164 = .ok (.iinc 4 (-1), 3) := by decide +kernel
theorem dX8_writeSquare_167 : decode cX8_writeSquare 167 = .ok (.goto (-93), 3) := by decide +kernel
theorem dX8_writeSquare_170 : decode cX8_writeSquare 170 = .ok (.return_, 1) := by decide +kernel
theorem dX8_writeLastPlace_0 : decode cX8_writeLastPlace 0 = .ok (.iconst 1, 1) := by decide +kernel
theorem dX8_writeLastPlace_1 : decode cX8_writeLastPlace 1 = .ok (.istore_n 2, 1) := by decide +kernel
theorem dX8_writeLastPlace_2 : decode cX8_writeLastPlace 2 = .ok (.iconst 3, 1) := by decide +kernel
theorem dX8_writeLastPlace_3 : decode cX8_writeLastPlace 3 = .ok (.istore_n 3, 1) := by decide +kernel
theorem dX8_writeLastPlace_4 : decode cX8_writeLastPlace 4 = .ok (.iload_n 3, 1) := by decide +kernel
theorem dX8_writeLastPlace_5 : decode cX8_writeLastPlace 5 = .ok (.ifCond .lt 44, 3) := by decide +kernel
theorem dX8_writeLastPlace_8 : decode cX8_writeLastPlace 8 = .ok (.iload_n 1, 1) := by decide +kernel
theorem dX8_writeLastPlace_9 : decode cX8_writeLastPlace 9 = .ok (.iload_n 3, 1) := by decide +kernel
theorem dX8_writeLastPlace_10 : decode cX8_writeLastPlace 10 = .ok (.ishr, 1) := by decide +kernel
theorem dX8_writeLastPlace_11 : decode cX8_writeLastPlace 11 = .ok (.iconst 1, 1) := by decide +kernel
theorem dX8_writeLastPlace_12 : decode cX8_writeLastPlace 12 = .ok (.iand, 1) := by decide +kernel
theorem dX8_writeLastPlace_13 : decode cX8_writeLastPlace 13 = .ok (.istore 4, 2) := by decide +kernel
theorem dX8_writeLastPlace_15 : decode cX8_writeLastPlace 15 = .ok (.aload_n 0, 1) := by decide +kernel
theorem dX8_writeLastPlace_16 : decode cX8_writeLastPlace 16 = .ok (.getfield 21, 3) := by decide +kernel
theorem dX8_writeLastPlace_19 : decode cX8_writeLastPlace 19 = .ok (.bipush 32, 2) := by decide +kernel
theorem dX8_writeLastPlace_21 : decode cX8_writeLastPlace 21 = .ok (.iload_n 2, 1) := by decide +kernel
theorem dX8_writeLastPlace_22 : decode cX8_writeLastPlace 22 = .ok (.iadd, 1) := by decide +kernel
theorem dX8_writeLastPlace_23 : decode cX8_writeLastPlace 23 = .ok (.iload 4, 2) := by decide +kernel
theorem dX8_writeLastPlace_25 : decode cX8_writeLastPlace 25 = .ok (.ifCond .eq 7, 3) := by decide +kernel
theorem dX8_writeLastPlace_28 : decode cX8_writeLastPlace 28 = .ok (.iconst 1, 1) := by decide +kernel
theorem dX8_writeLastPlace_29 : decode cX8_writeLastPlace 29 = .ok (.goto 4, 3) := by decide +kernel
theorem dX8_writeLastPlace_32 : decode cX8_writeLastPlace 32 = .ok (.iconst 0, 1) := by decide +kernel
theorem dX8_writeLastPlace_33 : decode cX8_writeLastPlace 33 = .ok (.invokevirtual 59, 3) := by decide +kernel
theorem dX8_writeLastPlace_36 : decode cX8_writeLastPlace 36 = .ok (.iconst 2, 1) := by decide +kernel
theorem dX8_writeLastPlace_37 : decode cX8_writeLastPlace 37 = .ok (.iload_n 2, 1) := by decide +kernel
theorem dX8_writeLastPlace_38 : decode cX8_writeLastPlace 38 = .ok (.imul, 1) := by decide +kernel
theorem dX8_writeLastPlace_39 : decode cX8_writeLastPlace 39 = .ok (.iload 4, 2) := by decide +kernel
theorem dX8_writeLastPlace_41 : decode cX8_writeLastPlace 41 = .ok (.iadd, 1) := by decide +kernel
theorem dX8_writeLastPlace_42 : decode cX8_writeLastPlace 42 = .ok (.istore_n 2, 1) := by decide +kernel
theorem dX8_writeLastPlace_43 : decode cX8_writeLastPlace 43 = .ok (.iinc 3 (-1), 3) := by decide +kernel
theorem dX8_writeLastPlace_46 : decode cX8_writeLastPlace 46 = .ok (.goto (-42), 3) := by decide +kernel
theorem dX8_writeLastPlace_49 : decode cX8_writeLastPlace 49 = .ok (.return_, 1) := by decide +kernel
theorem dX9_of_0 : decode cX9_of 0 = .ok (.bipush 100, 2) := by decide +kernel
theorem dX9_of_2 : decode cX9_of 2 = .ok (.iload_n 0, 1) := by decide +kernel
theorem dX9_of_3 : decode cX9_of 3 = .ok (.bipush 8, 2) := by decide +kernel
theorem dX9_of_5 : decode cX9_of 5 = .ok (.iadd, 1) := by decide +kernel
theorem dX9_of_6 : decode cX9_of 6 = .ok (.imul, 1) := by decide +kernel
theorem dX9_of_7 : decode cX9_of 7 = .ok (.iload_n 1, 1) := by decide +kernel
theorem dX9_of_8 : decode cX9_of 8 = .ok (.iadd, 1) := by decide +kernel
theorem dX9_of_9 : decode cX9_of 9 = .ok (.bipush 8, 2) := by decide +kernel
theorem dX9_of_11 : decode cX9_of 11 = .ok (.iadd, 1) := by decide +kernel
theorem dX9_of_12 : decode cX9_of 12 = .ok (.ireturn, 1) := by decide +kernel
theorem dX9_right_0 : decode cX9_right 0 = .ok (.iload_n 0, 1) := by decide +kernel
theorem dX9_right_1 : decode cX9_right 1 = .ok (.bipush 100, 2) := by decide +kernel
theorem dX9_right_3 : decode cX9_right 3 = .ok (.idiv, 1) := by decide +kernel
theorem dX9_right_4 : decode cX9_right 4 = .ok (.bipush 8, 2) := by decide +kernel
theorem dX9_right_6 : decode cX9_right 6 = .ok (.isub, 1) := by decide +kernel
theorem dX9_right_7 : decode cX9_right 7 = .ok (.ireturn, 1) := by decide +kernel
theorem dX9_down_0 : decode cX9_down 0 = .ok (.iload_n 0, 1) := by decide +kernel
theorem dX9_down_1 : decode cX9_down 1 = .ok (.bipush 100, 2) := by decide +kernel
theorem dX9_down_3 : decode cX9_down 3 = .ok (.irem, 1) := by decide +kernel
theorem dX9_down_4 : decode cX9_down 4 = .ok (.bipush 8, 2) := by decide +kernel
theorem dX9_down_6 : decode cX9_down 6 = .ok (.isub, 1) := by decide +kernel
theorem dX9_down_7 : decode cX9_down 7 = .ok (.ireturn, 1) := by decide +kernel
theorem dX9_length_0 : decode cX9_length 0 = .ok (.iload_n 0, 1) := by decide +kernel
theorem dX9_length_1 : decode cX9_length 1 = .ok (.invokestatic 9, 3) := by decide +kernel
theorem dX9_length_4 : decode cX9_length 4 = .ok (.invokestatic 15, 3) := by decide +kernel
theorem dX9_length_7 : decode cX9_length 7 = .ok (.iload_n 0, 1) := by decide +kernel
theorem dX9_length_8 : decode cX9_length 8 = .ok (.invokestatic 20, 3) := by decide +kernel
theorem dX9_length_11 : decode cX9_length 11 = .ok (.invokestatic 15, 3) := by decide +kernel
theorem dX9_length_14 : decode cX9_length 14 = .ok (.iadd, 1) := by decide +kernel
theorem dX9_length_15 : decode cX9_length 15 = .ok (.ireturn, 1) := by decide +kernel
theorem dX10_init_0 : decode cX10_init 0 = .ok (.aload_n 0, 1) := by decide +kernel
theorem dX10_init_1 : decode cX10_init 1 = .ok (.invokespecial 1, 3) := by decide +kernel
theorem dX10_init_4 : decode cX10_init 4 = .ok (.aload_n 0, 1) := by decide +kernel
theorem dX10_init_5 : decode cX10_init 5 = .ok (.bipush 70, 2) := by decide +kernel
theorem dX10_init_7 : decode cX10_init 7 = .ok (.newarray .int, 2) := by decide +kernel
theorem dX10_init_9 : decode cX10_init 9 = .ok (.putfield 9, 3) := by decide +kernel
theorem dX10_init_12 : decode cX10_init 12 = .ok (.aload_n 0, 1) := by decide +kernel
theorem dX10_init_13 : decode cX10_init 13 = .ok (.sipush 4096, 3) := by decide +kernel
theorem dX10_init_16 : decode cX10_init 16 = .ok (.newarray .int, 2) := by decide +kernel
theorem dX10_init_18 : decode cX10_init 18 = .ok (.putfield 13, 3) := by decide +kernel
theorem dX10_init_21 : decode cX10_init 21 = .ok (.aload_n 0, 1) := by decide +kernel
theorem dX10_init_22 : decode cX10_init 22 = .ok (.iconst 0, 1) := by decide +kernel
theorem dX10_init_23 : decode cX10_init 23 = .ok (.putfield 16, 3) := by decide +kernel
theorem dX10_init_26 : decode cX10_init 26 = .ok (.aload_n 0, 1) := by decide +kernel
theorem dX10_init_27 : decode cX10_init 27 = .ok (.lconst 0, 1) := by decide +kernel
theorem dX10_init_28 : decode cX10_init 28 = .ok (.putfield 20, 3) := by decide +kernel
theorem dX10_init_31 : decode cX10_init 31 = .ok (.aload_n 0, 1) := by decide +kernel
theorem dX10_init_32 : decode cX10_init 32 = .ok (.ldc2_w 24, 3) := by decide +kernel
theorem dX10_init_35 : decode cX10_init 35 = .ok (.putfield 26, 3) := by decide +kernel
theorem dX10_init_38 : decode cX10_init 38 = .ok (.return_, 1) := by decide +kernel
theorem dX10_start_0 : decode cX10_start 0 = .ok (.aload_n 0, 1) := by decide +kernel
theorem dX10_start_1 : decode cX10_start 1 = .ok (.getfield 9, 3) := by decide +kernel
theorem dX10_start_4 : decode cX10_start 4 = .ok (.sipush 1024, 3) := by decide +kernel
theorem dX10_start_7 : decode cX10_start 7 = .ok (.invokestatic 29, 3) := by decide +kernel
theorem dX10_start_10 : decode cX10_start 10 = .ok (.aload_n 0, 1) := by decide +kernel
theorem dX10_start_11 : decode cX10_start 11 = .ok (.iconst 0, 1) := by decide +kernel
theorem dX10_start_12 : decode cX10_start 12 = .ok (.putfield 16, 3) := by decide +kernel
theorem dX10_start_15 : decode cX10_start 15 = .ok (.aload_n 0, 1) := by decide +kernel
theorem dX10_start_16 : decode cX10_start 16 = .ok (.lconst 0, 1) := by decide +kernel
theorem dX10_start_17 : decode cX10_start 17 = .ok (.putfield 20, 3) := by decide +kernel
theorem dX10_start_20 : decode cX10_start 20 = .ok (.aload_n 0, 1) := by decide +kernel
theorem dX10_start_21 : decode cX10_start 21 = .ok (.ldc2_w 24, 3) := by decide +kernel
theorem dX10_start_24 : decode cX10_start 24 = .ok (.putfield 26, 3) := by decide +kernel
theorem dX10_start_27 : decode cX10_start 27 = .ok (.return_, 1) := by decide +kernel
theorem dX10_bit_0 : decode cX10_bit 0 = .ok (.aload_n 0, 1) := by decide +kernel
theorem dX10_bit_1 : decode cX10_bit 1 = .ok (.getfield 9, 3) := by decide +kernel
theorem dX10_bit_4 : decode cX10_bit 4 = .ok (.iload_n 1, 1) := by decide +kernel
theorem dX10_bit_5 : decode cX10_bit 5 = .ok (.invokestatic 35, 3) := by decide +kernel
theorem dX10_bit_8 : decode cX10_bit 8 = .ok (.istore_n 3, 1) := by decide +kernel
theorem dX10_bit_9 : decode cX10_bit 9 = .ok (.aload_n 0, 1) := by decide +kernel
theorem dX10_bit_10 : decode cX10_bit 10 = .ok (.getfield 26, 3) := by decide +kernel
theorem dX10_bit_13 : decode cX10_bit 13 = .ok (.ldc2_w 39, 3) := by decide +kernel
theorem dX10_bit_16 : decode cX10_bit 16 = .ok (.ldiv, 1) := by decide +kernel
theorem dX10_bit_17 : decode cX10_bit 17 = .ok (.iload_n 3, 1) := by decide +kernel
theorem dX10_bit_18 : decode cX10_bit 18 = .ok (.i2l, 1) := by decide +kernel
theorem dX10_bit_19 : decode cX10_bit 19 = .ok (.lmul, 1) := by decide +kernel
theorem dX10_bit_20 : decode cX10_bit 20 = .ok (.lstore 4, 2) := by decide +kernel
theorem dX10_bit_22 : decode cX10_bit 22 = .ok (.iload_n 2, 1) := by decide +kernel
theorem dX10_bit_23 : decode cX10_bit 23 = .ok (.ifCond .eq 33, 3) := by decide +kernel
theorem dX10_bit_26 : decode cX10_bit 26 = .ok (.aload_n 0, 1) := by decide +kernel
theorem dX10_bit_27 : decode cX10_bit 27 = .ok (.getfield 9, 3) := by decide +kernel
theorem dX10_bit_30 : decode cX10_bit 30 = .ok (.iload_n 1, 1) := by decide +kernel
theorem dX10_bit_31 : decode cX10_bit 31 = .ok (.iload_n 3, 1) := by decide +kernel
theorem dX10_bit_32 : decode cX10_bit 32 = .ok (.iload_n 3, 1) := by decide +kernel
theorem dX10_bit_33 : decode cX10_bit 33 = .ok (.bipush 32, 2) := by decide +kernel
theorem dX10_bit_35 : decode cX10_bit 35 = .ok (.idiv, 1) := by decide +kernel
theorem dX10_bit_36 : decode cX10_bit 36 = .ok (.isub, 1) := by decide +kernel
theorem dX10_bit_37 : decode cX10_bit 37 = .ok (.invokestatic 41, 3) := by decide +kernel
theorem dX10_bit_40 : decode cX10_bit 40 = .ok (.aload_n 0, 1) := by decide +kernel
theorem dX10_bit_41 : decode cX10_bit 41 = .ok (.lload 4, 2) := by decide +kernel
theorem dX10_bit_43 : decode cX10_bit 43 = .ok (.aload_n 0, 1) := by decide +kernel
theorem dX10_bit_44 : decode cX10_bit 44 = .ok (.getfield 26, 3) := by decide +kernel
theorem dX10_bit_47 : decode cX10_bit 47 = .ok (.lload 4, 2) := by decide +kernel
theorem dX10_bit_49 : decode cX10_bit 49 = .ok (.lsub, 1) := by decide +kernel
theorem dX10_bit_50 : decode cX10_bit 50 = .ok (.invokevirtual 45, 3) := by decide +kernel
theorem dX10_bit_53 : decode cX10_bit 53 = .ok (.goto 28, 3) := by decide +kernel
theorem dX10_bit_56 : decode cX10_bit 56 = .ok (.aload_n 0, 1) := by decide +kernel
theorem dX10_bit_57 : decode cX10_bit 57 = .ok (.getfield 9, 3) := by decide +kernel
theorem dX10_bit_60 : decode cX10_bit 60 = .ok (.iload_n 1, 1) := by decide +kernel
theorem dX10_bit_61 : decode cX10_bit 61 = .ok (.iload_n 3, 1) := by decide +kernel
theorem dX10_bit_62 : decode cX10_bit 62 = .ok (.sipush 2048, 3) := by decide +kernel
theorem dX10_bit_65 : decode cX10_bit 65 = .ok (.iload_n 3, 1) := by decide +kernel
