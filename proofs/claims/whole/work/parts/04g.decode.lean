theorem dX12_send_12 : decode cX12_send 12 = .ok (.iconst 1, 1) := by decide +kernel
theorem dX12_send_13 : decode cX12_send 13 = .ok (.goto 34, 3) := by decide +kernel
theorem dX12_send_16 : decode cX12_send 16 = .ok (.iload_n 1, 1) := by decide +kernel
theorem dX12_send_17 : decode cX12_send 17 = .ok (.iconst 0, 1) := by decide +kernel
theorem dX12_send_18 : decode cX12_send 18 = .ok (.aload_n 0, 1) := by decide +kernel
theorem dX12_send_19 : decode cX12_send 19 = .ok (.getfield 49, 3) := by decide +kernel
theorem dX12_send_22 : decode cX12_send 22 = .ok (.aload_n 0, 1) := by decide +kernel
theorem dX12_send_23 : decode cX12_send 23 = .ok (.getfield 355, 3) := by decide +kernel
theorem dX12_send_26 : decode cX12_send 26 = .ok (.iaload, 1) := by decide +kernel
theorem dX12_send_27 : decode cX12_send 27 = .ok (.iconst 2, 1) := by decide +kernel
theorem dX12_send_28 : decode cX12_send 28 = .ok (.if_icmp .ne 7, 3) := by decide +kernel
theorem dX12_send_31 : decode cX12_send 31 = .ok (.iconst 3, 1) := by decide +kernel
theorem dX12_send_32 : decode cX12_send 32 = .ok (.goto 4, 3) := by decide +kernel
theorem dX12_send_35 : decode cX12_send 35 = .ok (.iconst 1, 1) := by decide +kernel
theorem dX12_send_36 : decode cX12_send 36 = .ok (.invokestatic 113, 3) := by decide +kernel
theorem dX12_send_39 : decode cX12_send 39 = .ok (.ifCond .ne 7, 3) := by decide +kernel
theorem dX12_send_42 : decode cX12_send 42 = .ok (.iconst 2, 1) := by decide +kernel
theorem dX12_send_43 : decode cX12_send 43 = .ok (.goto 4, 3) := by decide +kernel
theorem dX12_send_46 : decode cX12_send 46 = .ok (.iconst 0, 1) := by decide +kernel
theorem dX12_send_47 : decode cX12_send 47 = .ok (.putfield 110, 3) := by decide +kernel
theorem dX12_send_50 : decode cX12_send 50 = .ok (.aload_n 0, 1) := by decide +kernel
theorem dX12_send_51 : decode cX12_send 51 = .ok (.getfield 110, 3) := by decide +kernel
theorem dX12_send_54 : decode cX12_send 54 = .ok (.ifCond .le 6, 3) := by decide +kernel
theorem dX12_send_57 : decode cX12_send 57 = .ok (.bipush 32, 2) := by decide +kernel
theorem dX12_send_59 : decode cX12_send 59 = .ok (.ireturn, 1) := by decide +kernel
theorem dX12_send_60 : decode cX12_send 60 = .ok (.iload_n 1, 1) := by decide +kernel
theorem dX12_send_61 : decode cX12_send 61 = .ok (.ifCond .ne 39, 3) := by decide +kernel
theorem dX12_send_64 : decode cX12_send 64 = .ok (.aload_n 0, 1) := by decide +kernel
theorem dX12_send_65 : decode cX12_send 65 = .ok (.aload_n 0, 1) := by decide +kernel
theorem dX12_send_66 : decode cX12_send 66 = .ok (.getfield 56, 3) := by decide +kernel
theorem dX12_send_69 : decode cX12_send 69 = .ok (.aload_n 0, 1) := by decide +kernel
theorem dX12_send_70 : decode cX12_send 70 = .ok (.getfield 355, 3) := by decide +kernel
theorem dX12_send_73 : decode cX12_send 73 = .ok (.iaload, 1) := by decide +kernel
theorem dX12_send_74 : decode cX12_send 74 = .ok (.invokevirtual 358, 3) := by decide +kernel
theorem dX12_send_77 : decode cX12_send 77 = .ok (.ifCond .eq 23, 3) := by decide +kernel
theorem dX12_send_80 : decode cX12_send 80 = .ok (.aload_n 0, 1) := by decide +kernel
theorem dX12_send_81 : decode cX12_send 81 = .ok (.aload_n 0, 1) := by decide +kernel
theorem dX12_send_82 : decode cX12_send 82 = .ok (.getfield 59, 3) := by decide +kernel
theorem dX12_send_85 : decode cX12_send 85 = .ok (.aload_n 0, 1) := by decide +kernel
theorem dX12_send_86 : decode cX12_send 86 = .ok (.getfield 355, 3) := by decide +kernel
theorem dX12_send_89 : decode cX12_send 89 = .ok (.iaload, 1) := by decide +kernel
theorem dX12_send_90 : decode cX12_send 90 = .ok (.invokevirtual 358, 3) := by decide +kernel
theorem dX12_send_93 : decode cX12_send 93 = .ok (.ifCond .eq 7, 3) := by decide +kernel
theorem dX12_send_96 : decode cX12_send 96 = .ok (.iconst 1, 1) := by decide +kernel
theorem dX12_send_97 : decode cX12_send 97 = .ok (.goto 4, 3) := by decide +kernel
theorem dX12_send_100 : decode cX12_send 100 = .ok (.iconst 0, 1) := by decide +kernel
theorem dX12_send_101 : decode cX12_send 101 = .ok (.istore_n 2, 1) := by decide +kernel
theorem dX12_send_102 : decode cX12_send 102 = .ok (.aload_n 0, 1) := by decide +kernel
theorem dX12_send_103 : decode cX12_send 103 = .ok (.aload_n 0, 1) := by decide +kernel
theorem dX12_send_104 : decode cX12_send 104 = .ok (.aload_n 0, 1) := by decide +kernel
theorem dX12_send_105 : decode cX12_send 105 = .ok (.getfield 355, 3) := by decide +kernel
theorem dX12_send_108 : decode cX12_send 108 = .ok (.iload_n 1, 1) := by decide +kernel
theorem dX12_send_109 : decode cX12_send 109 = .ok (.invokevirtual 361, 3) := by decide +kernel
theorem dX12_send_112 : decode cX12_send 112 = .ok (.putfield 344, 3) := by decide +kernel
theorem dX12_send_115 : decode cX12_send 115 = .ok (.aload_n 0, 1) := by decide +kernel
theorem dX12_send_116 : decode cX12_send 116 = .ok (.aload_n 0, 1) := by decide +kernel
theorem dX12_send_117 : decode cX12_send 117 = .ok (.getfield 355, 3) := by decide +kernel
theorem dX12_send_120 : decode cX12_send 120 = .ok (.putfield 101, 3) := by decide +kernel
theorem dX12_send_123 : decode cX12_send 123 = .ok (.aload_n 0, 1) := by decide +kernel
theorem dX12_send_124 : decode cX12_send 124 = .ok (.iload_n 2, 1) := by decide +kernel
theorem dX12_send_125 : decode cX12_send 125 = .ok (.putfield 365, 3) := by decide +kernel
theorem dX12_send_128 : decode cX12_send 128 = .ok (.aload_n 0, 1) := by decide +kernel
theorem dX12_send_129 : decode cX12_send 129 = .ok (.dup, 1) := by decide +kernel
theorem dX12_send_130 : decode cX12_send 130 = .ok (.getfield 368, 3) := by decide +kernel
theorem dX12_send_133 : decode cX12_send 133 = .ok (.iconst 1, 1) := by decide +kernel
theorem dX12_send_134 : decode cX12_send 134 = .ok (.iadd, 1) := by decide +kernel
theorem dX12_send_135 : decode cX12_send 135 = .ok (.putfield 368, 3) := by decide +kernel
theorem dX12_send_138 : decode cX12_send 138 = .ok (.aload_n 0, 1) := by decide +kernel
theorem dX12_send_139 : decode cX12_send 139 = .ok (.dup, 1) := by decide +kernel
theorem dX12_send_140 : decode cX12_send 140 = .ok (.getfield 371, 3) := by decide +kernel
theorem dX12_send_143 : decode cX12_send 143 = .ok (.iload_n 2, 1) := by decide +kernel
theorem dX12_send_144 : decode cX12_send 144 = .ok (.ifCond .eq 7, 3) := by decide +kernel
theorem dX12_send_147 : decode cX12_send 147 = .ok (.iconst 1, 1) := by decide +kernel
theorem dX12_send_148 : decode cX12_send 148 = .ok (.goto 4, 3) := by decide +kernel
theorem dX12_send_151 : decode cX12_send 151 = .ok (.iconst 0, 1) := by decide +kernel
theorem dX12_send_152 : decode cX12_send 152 = .ok (.iadd, 1) := by decide +kernel
theorem dX12_send_153 : decode cX12_send 153 = .ok (.putfield 371, 3) := by decide +kernel
theorem dX12_send_156 : decode cX12_send 156 = .ok (.aload_n 0, 1) := by decide +kernel
theorem dX12_send_157 : decode cX12_send 157 = .ok (.getfield 52, 3) := by decide +kernel
theorem dX12_send_160 : decode cX12_send 160 = .ok (.aload_n 0, 1) := by decide +kernel
theorem dX12_send_161 : decode cX12_send 161 = .ok (.getfield 355, 3) := by decide +kernel
theorem dX12_send_164 : decode cX12_send 164 = .ok (.baload, 1) := by decide +kernel
theorem dX12_send_165 : decode cX12_send 165 = .ok (.ifCond .eq 81, 3) := by decide +kernel
theorem dX12_send_168 : decode cX12_send 168 = .ok (.aload_n 0, 1) := by decide +kernel
theorem dX12_send_169 : decode cX12_send 169 = .ok (.getfield 341, 3) := by decide +kernel
theorem dX12_send_172 : decode cX12_send 172 = .ok (.iconst 2, 1) := by decide +kernel
theorem dX12_send_173 : decode cX12_send 173 = .ok (.invokestatic 3, 3) := by decide +kernel
theorem dX12_send_176 : decode cX12_send 176 = .ok (.istore_n 3, 1) := by decide +kernel
theorem dX12_send_177 : decode cX12_send 177 = .ok (.iload_n 3, 1) := by decide +kernel
theorem dX12_send_178 : decode cX12_send 178 = .ok (.ifCond .le 37, 3) := by decide +kernel
theorem dX12_send_181 : decode cX12_send 181 = .ok (.aload_n 0, 1) := by decide +kernel
theorem dX12_send_182 : decode cX12_send 182 = .ok (.getfield 104, 3) := by decide +kernel
theorem dX12_send_185 : decode cX12_send 185 = .ok (.iload_n 3, 1) := by decide +kernel
theorem dX12_send_186 : decode cX12_send 186 = .ok (.aload_n 0, 1) := by decide +kernel
theorem dX12_send_187 : decode cX12_send 187 = .ok (.getfield 104, 3) := by decide +kernel
theorem dX12_send_190 : decode cX12_send 190 = .ok (.iload_n 3, 1) := by decide +kernel
theorem dX12_send_191 : decode cX12_send 191 = .ok (.iconst 1, 1) := by decide +kernel
theorem dX12_send_192 : decode cX12_send 192 = .ok (.isub, 1) := by decide +kernel
theorem dX12_send_193 : decode cX12_send 193 = .ok (.aaload, 1) := by decide +kernel
theorem dX12_send_194 : decode cX12_send 194 = .ok (.aastore, 1) := by decide +kernel
theorem dX12_send_195 : decode cX12_send 195 = .ok (.aload_n 0, 1) := by decide +kernel
theorem dX12_send_196 : decode cX12_send 196 = .ok (.getfield 107, 3) := by decide +kernel
theorem dX12_send_199 : decode cX12_send 199 = .ok (.iload_n 3, 1) := by decide +kernel
theorem dX12_send_200 : decode cX12_send 200 = .ok (.aload_n 0, 1) := by decide +kernel
theorem dX12_send_201 : decode cX12_send 201 = .ok (.getfield 107, 3) := by decide +kernel
theorem dX12_send_204 : decode cX12_send 204 = .ok (.iload_n 3, 1) := by decide +kernel
theorem dX12_send_205 : decode cX12_send 205 = .ok (.iconst 1, 1) := by decide +kernel
theorem dX12_send_206 : decode cX12_send 206 = .ok (.isub, 1) := by decide +kernel
theorem dX12_send_207 : decode cX12_send 207 = .ok (.baload, 1) := by decide +kernel
theorem dX12_send_208 : decode cX12_send 208 = .ok (.bastore, 1) := by decide +kernel
theorem dX12_send_209 : decode cX12_send 209 = .ok (.iinc 3 (-1), 3) := by decide +kernel
theorem dX12_send_212 : decode cX12_send 212 = .ok (.goto (-35), 3) := by decide +kernel
theorem dX12_send_215 : decode cX12_send 215 = .ok (.aload_n 0, 1) := by decide +kernel
theorem dX12_send_216 : decode cX12_send 216 = .ok (.getfield 104, 3) := by decide +kernel
theorem dX12_send_219 : decode cX12_send 219 = .ok (.iconst 0, 1) := by decide +kernel
theorem dX12_send_220 : decode cX12_send 220 = .ok (.aload_n 0, 1) := by decide +kernel
theorem dX12_send_221 : decode cX12_send 221 = .ok (.getfield 344, 3) := by decide +kernel
theorem dX12_send_224 : decode cX12_send 224 = .ok (.aastore, 1) := by decide +kernel
theorem dX12_send_225 : decode cX12_send 225 = .ok (.aload_n 0, 1) := by decide +kernel
theorem dX12_send_226 : decode cX12_send 226 = .ok (.getfield 107, 3) := by decide +kernel
theorem dX12_send_229 : decode cX12_send 229 = .ok (.iconst 0, 1) := by decide +kernel
theorem dX12_send_230 : decode cX12_send 230 = .ok (.iload_n 2, 1) := by decide +kernel
theorem dX12_send_231 : decode cX12_send 231 = .ok (.bastore, 1) := by decide +kernel
theorem dX12_send_232 : decode cX12_send 232 = .ok (.aload_n 0, 1) := by decide +kernel
theorem dX12_send_233 : decode cX12_send 233 = .ok (.iconst 3, 1) := by decide +kernel
theorem dX12_send_234 : decode cX12_send 234 = .ok (.aload_n 0, 1) := by decide +kernel
theorem dX12_send_235 : decode cX12_send 235 = .ok (.getfield 341, 3) := by decide +kernel
theorem dX12_send_238 : decode cX12_send 238 = .ok (.iconst 1, 1) := by decide +kernel
theorem dX12_send_239 : decode cX12_send 239 = .ok (.iadd, 1) := by decide +kernel
theorem dX12_send_240 : decode cX12_send 240 = .ok (.invokestatic 3, 3) := by decide +kernel
theorem dX12_send_243 : decode cX12_send 243 = .ok (.putfield 341, 3) := by decide +kernel
theorem dX12_send_246 : decode cX12_send 246 = .ok (.aload_n 0, 1) := by decide +kernel
theorem dX12_send_247 : decode cX12_send 247 = .ok (.dup, 1) := by decide +kernel
theorem dX12_send_248 : decode cX12_send 248 = .ok (.getfield 355, 3) := by decide +kernel
theorem dX12_send_251 : decode cX12_send 251 = .ok (.iconst 1, 1) := by decide +kernel
theorem dX12_send_252 : decode cX12_send 252 = .ok (.iadd, 1) := by decide +kernel
theorem dX12_send_253 : decode cX12_send 253 = .ok (.putfield 355, 3) := by decide +kernel
theorem dX12_send_256 : decode cX12_send 256 = .ok (.iload_n 2, 1) := by decide +kernel
theorem dX12_send_257 : decode cX12_send 257 = .ok (.ifCond .eq 8, 3) := by decide +kernel
theorem dX12_send_260 : decode cX12_send 260 = .ok (.bipush 99, 2) := by decide +kernel
theorem dX12_send_262 : decode cX12_send 262 = .ok (.goto 5, 3) := by decide +kernel
theorem dX12_send_265 : decode cX12_send 265 = .ok (.bipush 98, 2) := by decide +kernel
theorem dX12_send_267 : decode cX12_send 267 = .ok (.ireturn, 1) := by decide +kernel
theorem dX12_join_0 : decode cX12_join 0 = .ok (.aload_n 0, 1) := by decide +kernel
theorem dX12_join_1 : decode cX12_join 1 = .ok (.iload_n 1, 1) := by decide +kernel
theorem dX12_join_2 : decode cX12_join 2 = .ok (.iconst 0, 1) := by decide +kernel
theorem dX12_join_3 : decode cX12_join 3 = .ok (.aload_n 0, 1) := by decide +kernel
theorem dX12_join_4 : decode cX12_join 4 = .ok (.getfield 305, 3) := by decide +kernel
theorem dX12_join_7 : decode cX12_join 7 = .ok (.invokestatic 113, 3) := by decide +kernel
theorem dX12_join_10 : decode cX12_join 10 = .ok (.ifCond .eq 7, 3) := by decide +kernel
theorem dX12_join_13 : decode cX12_join 13 = .ok (.iconst 0, 1) := by decide +kernel
theorem dX12_join_14 : decode cX12_join 14 = .ok (.goto 4, 3) := by decide +kernel
theorem dX12_join_17 : decode cX12_join 17 = .ok (.iconst 1, 1) := by decide +kernel
theorem dX12_join_18 : decode cX12_join 18 = .ok (.putfield 110, 3) := by decide +kernel
theorem dX12_join_21 : decode cX12_join 21 = .ok (.aload_n 0, 1) := by decide +kernel
theorem dX12_join_22 : decode cX12_join 22 = .ok (.getfield 110, 3) := by decide +kernel
theorem dX12_join_25 : decode cX12_join 25 = .ok (.ifCond .le 5, 3) := by decide +kernel
theorem dX12_join_28 : decode cX12_join 28 = .ok (.iconst 0, 1) := by decide +kernel
theorem dX12_join_29 : decode cX12_join 29 = .ok (.ireturn, 1) := by decide +kernel
theorem dX12_join_30 : decode cX12_join 30 = .ok (.aload_n 0, 1) := by decide +kernel
theorem dX12_join_31 : decode cX12_join 31 = .ok (.getfield 341, 3) := by decide +kernel
theorem dX12_join_34 : decode cX12_join 34 = .ok (.istore_n 2, 1) := by decide +kernel
theorem dX12_join_35 : decode cX12_join 35 = .ok (.aload_n 0, 1) := by decide +kernel
theorem dX12_join_36 : decode cX12_join 36 = .ok (.iload_n 1, 1) := by decide +kernel
theorem dX12_join_37 : decode cX12_join 37 = .ok (.putfield 355, 3) := by decide +kernel
theorem dX12_join_40 : decode cX12_join 40 = .ok (.aload_n 0, 1) := by decide +kernel
theorem dX12_join_41 : decode cX12_join 41 = .ok (.iconst 0, 1) := by decide +kernel
theorem dX12_join_42 : decode cX12_join 42 = .ok (.putfield 341, 3) := by decide +kernel
theorem dX12_join_45 : decode cX12_join 45 = .ok (.aload_n 0, 1) := by decide +kernel
theorem dX12_join_46 : decode cX12_join 46 = .ok (.iconst (-1), 1) := by decide +kernel
theorem dX12_join_47 : decode cX12_join 47 = .ok (.putfield 101, 3) := by decide +kernel
theorem dX12_join_50 : decode cX12_join 50 = .ok (.aload_n 0, 1) := by decide +kernel
theorem dX12_join_51 : decode cX12_join 51 = .ok (.aconst_null, 1) := by decide +kernel
theorem dX12_join_52 : decode cX12_join 52 = .ok (.putfield 344, 3) := by decide +kernel
theorem dX12_join_55 : decode cX12_join 55 = .ok (.iload_n 2, 1) := by decide +kernel
theorem dX12_join_56 : decode cX12_join 56 = .ok (.ireturn, 1) := by decide +kernel
theorem dX12_noShown_0 : decode cX12_noShown 0 = .ok (.aload_n 0, 1) := by decide +kernel
theorem dX12_noShown_1 : decode cX12_noShown 1 = .ok (.aload_n 0, 1) := by decide +kernel
theorem dX12_noShown_2 : decode cX12_noShown 2 = .ok (.getfield 101, 3) := by decide +kernel
theorem dX12_noShown_5 : decode cX12_noShown 5 = .ok (.iconst (-1), 1) := by decide +kernel
theorem dX12_noShown_6 : decode cX12_noShown 6 = .ok (.if_icmp .ne 7, 3) := by decide +kernel
theorem dX12_noShown_9 : decode cX12_noShown 9 = .ok (.iconst 1, 1) := by decide +kernel
theorem dX12_noShown_10 : decode cX12_noShown 10 = .ok (.goto 4, 3) := by decide +kernel
theorem dX12_noShown_13 : decode cX12_noShown 13 = .ok (.iconst 0, 1) := by decide +kernel
theorem dX12_noShown_14 : decode cX12_noShown 14 = .ok (.putfield 110, 3) := by decide +kernel
theorem dX12_noShown_17 : decode cX12_noShown 17 = .ok (.aload_n 0, 1) := by decide +kernel
theorem dX12_noShown_18 : decode cX12_noShown 18 = .ok (.getfield 110, 3) := by decide +kernel
theorem dX12_noShown_21 : decode cX12_noShown 21 = .ok (.ifCond .le 7, 3) := by decide +kernel
theorem dX12_noShown_24 : decode cX12_noShown 24 = .ok (.iconst 1, 1) := by decide +kernel
theorem dX12_noShown_25 : decode cX12_noShown 25 = .ok (.goto 4, 3) := by decide +kernel
theorem dX12_noShown_28 : decode cX12_noShown 28 = .ok (.iconst 0, 1) := by decide +kernel
theorem dX12_noShown_29 : decode cX12_noShown 29 = .ok (.ireturn, 1) := by decide +kernel
theorem dX12_shown_0 : decode cX12_shown 0 = .ok (.aload_n 0, 1) := by decide +kernel
theorem dX12_shown_1 : decode cX12_shown 1 = .ok (.invokevirtual 374, 3) := by decide +kernel
theorem dX12_shown_4 : decode cX12_shown 4 = .ok (.ifCond .eq 7, 3) := by decide +kernel
theorem dX12_shown_7 : decode cX12_shown 7 = .ok (.iconst 0, 1) := by decide +kernel
theorem dX12_shown_8 : decode cX12_shown 8 = .ok (.goto 7, 3) := by decide +kernel
theorem dX12_shown_11 : decode cX12_shown 11 = .ok (.aload_n 0, 1) := by decide +kernel
theorem dX12_shown_12 : decode cX12_shown 12 = .ok (.getfield 101, 3) := by decide +kernel
theorem dX12_shown_15 : decode cX12_shown 15 = .ok (.ireturn, 1) := by decide +kernel
theorem dX12_shownAt_0 : decode cX12_shownAt 0 = .ok (.aload_n 0, 1) := by decide +kernel
theorem dX12_shownAt_1 : decode cX12_shownAt 1 = .ok (.iload_n 1, 1) := by decide +kernel
theorem dX12_shownAt_2 : decode cX12_shownAt 2 = .ok (.iload_n 2, 1) := by decide +kernel
theorem dX12_shownAt_3 : decode cX12_shownAt 3 = .ok (.invokestatic 126, 3) := by decide +kernel
theorem dX12_shownAt_6 : decode cX12_shownAt 6 = .ok (.ifCond .ne 7, 3) := by decide +kernel
theorem dX12_shownAt_9 : decode cX12_shownAt 9 = .ok (.iconst 1, 1) := by decide +kernel
theorem dX12_shownAt_10 : decode cX12_shownAt 10 = .ok (.goto 16, 3) := by decide +kernel
theorem dX12_shownAt_13 : decode cX12_shownAt 13 = .ok (.aload_n 0, 1) := by decide +kernel
theorem dX12_shownAt_14 : decode cX12_shownAt 14 = .ok (.getfield 101, 3) := by decide +kernel
theorem dX12_shownAt_17 : decode cX12_shownAt 17 = .ok (.iconst (-1), 1) := by decide +kernel
theorem dX12_shownAt_18 : decode cX12_shownAt 18 = .ok (.if_icmp .ne 7, 3) := by decide +kernel
theorem dX12_shownAt_21 : decode cX12_shownAt 21 = .ok (.iconst 2, 1) := by decide +kernel
theorem dX12_shownAt_22 : decode cX12_shownAt 22 = .ok (.goto 4, 3) := by decide +kernel
theorem dX12_shownAt_25 : decode cX12_shownAt 25 = .ok (.iconst 0, 1) := by decide +kernel
theorem dX12_shownAt_26 : decode cX12_shownAt 26 = .ok (.putfield 110, 3) := by decide +kernel
theorem dX12_shownAt_29 : decode cX12_shownAt 29 = .ok (.aload_n 0, 1) := by decide +kernel
theorem dX12_shownAt_30 : decode cX12_shownAt 30 = .ok (.getfield 110, 3) := by decide +kernel
theorem dX12_shownAt_33 : decode cX12_shownAt 33 = .ok (.ifCond .ne 17, 3) := by decide +kernel
theorem dX12_shownAt_36 : decode cX12_shownAt 36 = .ok (.aload_n 0, 1) := by decide +kernel
theorem dX12_shownAt_37 : decode cX12_shownAt 37 = .ok (.getfield 344, 3) := by decide +kernel
theorem dX12_shownAt_40 : decode cX12_shownAt 40 = .ok (.bipush 16, 2) := by decide +kernel
theorem dX12_shownAt_42 : decode cX12_shownAt 42 = .ok (.iload_n 2, 1) := by decide +kernel
theorem dX12_shownAt_43 : decode cX12_shownAt 43 = .ok (.imul, 1) := by decide +kernel
theorem dX12_shownAt_44 : decode cX12_shownAt 44 = .ok (.iload_n 1, 1) := by decide +kernel
theorem dX12_shownAt_45 : decode cX12_shownAt 45 = .ok (.iadd, 1) := by decide +kernel
theorem dX12_shownAt_46 : decode cX12_shownAt 46 = .ok (.iaload, 1) := by decide +kernel
theorem dX12_shownAt_47 : decode cX12_shownAt 47 = .ok (.goto 4, 3) := by decide +kernel
theorem dX12_shownAt_50 : decode cX12_shownAt 50 = .ok (.iconst 0, 1) := by decide +kernel
theorem dX12_shownAt_51 : decode cX12_shownAt 51 = .ok (.ireturn, 1) := by decide +kernel
theorem dX12_isClean_0 : decode cX12_isClean 0 = .ok (.aload_n 0, 1) := by decide +kernel
theorem dX12_isClean_1 : decode cX12_isClean 1 = .ok (.invokevirtual 374, 3) := by decide +kernel
theorem dX12_isClean_4 : decode cX12_isClean 4 = .ok (.ifCond .ne 14, 3) := by decide +kernel
theorem dX12_isClean_7 : decode cX12_isClean 7 = .ok (.aload_n 0, 1) := by decide +kernel
theorem dX12_isClean_8 : decode cX12_isClean 8 = .ok (.getfield 365, 3) := by decide +kernel
theorem dX12_isClean_11 : decode cX12_isClean 11 = .ok (.ifCond .eq 7, 3) := by decide +kernel
theorem dX12_isClean_14 : decode cX12_isClean 14 = .ok (.iconst 1, 1) := by decide +kernel
theorem dX12_isClean_15 : decode cX12_isClean 15 = .ok (.goto 4, 3) := by decide +kernel
theorem dX12_isClean_18 : decode cX12_isClean 18 = .ok (.iconst 0, 1) := by decide +kernel
theorem dX12_isClean_19 : decode cX12_isClean 19 = .ok (.ireturn, 1) := by decide +kernel
theorem dX12_drift_0 : decode cX12_drift 0 = .ok (.iconst 0, 1) := by decide +kernel
theorem dX12_drift_1 : decode cX12_drift 1 = .ok (.istore_n 1, 1) := by decide +kernel
theorem dX12_drift_2 : decode cX12_drift 2 = .ok (.iconst 0, 1) := by decide +kernel
theorem dX12_drift_3 : decode cX12_drift 3 = .ok (.istore_n 2, 1) := by decide +kernel
theorem dX12_drift_4 : decode cX12_drift 4 = .ok (.iload_n 2, 1) := by decide +kernel
theorem dX12_drift_5 : decode cX12_drift 5 = .ok (.sipush 256, 3) := by decide +kernel
theorem dX12_drift_8 : decode cX12_drift 8 = .ok (.if_icmp .ge 44, 3) := by decide +kernel
theorem dX12_drift_11 : decode cX12_drift 11 = .ok (.aload_n 0, 1) := by decide +kernel
theorem dX12_drift_12 : decode cX12_drift 12 = .ok (.invokevirtual 374, 3) := by decide +kernel
theorem dX12_drift_15 : decode cX12_drift 15 = .ok (.ifCond .ne 37, 3) := by decide +kernel
theorem dX12_drift_18 : decode cX12_drift 18 = .ok (.iload_n 1, 1) := by decide +kernel
theorem dX12_drift_19 : decode cX12_drift 19 = .ok (.aload_n 0, 1) := by decide +kernel
theorem dX12_drift_20 : decode cX12_drift 20 = .ok (.getfield 344, 3) := by decide +kernel
theorem dX12_drift_23 : decode cX12_drift 23 = .ok (.iload_n 2, 1) := by decide +kernel
theorem dX12_drift_24 : decode cX12_drift 24 = .ok (.iaload, 1) := by decide +kernel
theorem dX12_drift_25 : decode cX12_drift 25 = .ok (.aload_n 0, 1) := by decide +kernel
theorem dX12_drift_26 : decode cX12_drift 26 = .ok (.getfield 70, 3) := by decide +kernel
theorem dX12_drift_29 : decode cX12_drift 29 = .ok (.aload_n 0, 1) := by decide +kernel
theorem dX12_drift_30 : decode cX12_drift 30 = .ok (.getfield 101, 3) := by decide +kernel
theorem dX12_drift_33 : decode cX12_drift 33 = .ok (.aaload, 1) := by decide +kernel
theorem dX12_drift_34 : decode cX12_drift 34 = .ok (.iload_n 2, 1) := by decide +kernel
theorem dX12_drift_35 : decode cX12_drift 35 = .ok (.iaload, 1) := by decide +kernel
theorem dX12_drift_36 : decode cX12_drift 36 = .ok (.if_icmp .eq 7, 3) := by decide +kernel
theorem dX12_drift_39 : decode cX12_drift 39 = .ok (.iconst 1, 1) := by decide +kernel
theorem dX12_drift_40 : decode cX12_drift 40 = .ok (.goto 4, 3) := by decide +kernel
theorem dX12_drift_43 : decode cX12_drift 43 = .ok (.iconst 0, 1) := by decide +kernel
theorem dX12_drift_44 : decode cX12_drift 44 = .ok (.iadd, 1) := by decide +kernel
theorem dX12_drift_45 : decode cX12_drift 45 = .ok (.istore_n 1, 1) := by decide +kernel
theorem dX12_drift_46 : decode cX12_drift 46 = .ok (.iinc 2 1, 3) := by decide +kernel
theorem dX12_drift_49 : decode cX12_drift 49 = .ok (.goto (-45), 3) := by decide +kernel
theorem dX12_drift_52 : decode cX12_drift 52 = .ok (.iload_n 1, 1) := by decide +kernel
theorem dX12_drift_53 : decode cX12_drift 53 = .ok (.ireturn, 1) := by decide +kernel
theorem dX12_meanBits_0 : decode cX12_meanBits 0 = .ok (.aload_n 0, 1) := by decide +kernel
theorem dX12_meanBits_1 : decode cX12_meanBits 1 = .ok (.aload_n 0, 1) := by decide +kernel
theorem dX12_meanBits_2 : decode cX12_meanBits 2 = .ok (.getfield 305, 3) := by decide +kernel
theorem dX12_meanBits_5 : decode cX12_meanBits 5 = .ok (.ifCond .ne 7, 3) := by decide +kernel
theorem dX12_meanBits_8 : decode cX12_meanBits 8 = .ok (.iconst 1, 1) := by decide +kernel
theorem dX12_meanBits_9 : decode cX12_meanBits 9 = .ok (.goto 4, 3) := by decide +kernel
theorem dX12_meanBits_12 : decode cX12_meanBits 12 = .ok (.iconst 0, 1) := by decide +kernel
theorem dX12_meanBits_13 : decode cX12_meanBits 13 = .ok (.putfield 110, 3) := by decide +kernel
theorem dX12_meanBits_16 : decode cX12_meanBits 16 = .ok (.iconst 0, 1) := by decide +kernel
theorem dX12_meanBits_17 : decode cX12_meanBits 17 = .ok (.istore_n 1, 1) := by decide +kernel
theorem dX12_meanBits_18 : decode cX12_meanBits 18 = .ok (.iconst 0, 1) := by decide +kernel
theorem dX12_meanBits_19 : decode cX12_meanBits 19 = .ok (.istore_n 2, 1) := by decide +kernel
theorem dX12_meanBits_20 : decode cX12_meanBits 20 = .ok (.iload_n 2, 1) := by decide +kernel
theorem dX12_meanBits_21 : decode cX12_meanBits 21 = .ok (.aload_n 0, 1) := by decide +kernel
theorem dX12_meanBits_22 : decode cX12_meanBits 22 = .ok (.getfield 305, 3) := by decide +kernel
theorem dX12_meanBits_25 : decode cX12_meanBits 25 = .ok (.if_icmp .ge 18, 3) := by decide +kernel
theorem dX12_meanBits_28 : decode cX12_meanBits 28 = .ok (.iload_n 1, 1) := by decide +kernel
theorem dX12_meanBits_29 : decode cX12_meanBits 29 = .ok (.aload_n 0, 1) := by decide +kernel
theorem dX12_meanBits_30 : decode cX12_meanBits 30 = .ok (.getfield 62, 3) := by decide +kernel
theorem dX12_meanBits_33 : decode cX12_meanBits 33 = .ok (.iload_n 2, 1) := by decide +kernel
theorem dX12_meanBits_34 : decode cX12_meanBits 34 = .ok (.iaload, 1) := by decide +kernel
theorem dX12_meanBits_35 : decode cX12_meanBits 35 = .ok (.iadd, 1) := by decide +kernel
theorem dX12_meanBits_36 : decode cX12_meanBits 36 = .ok (.istore_n 1, 1) := by decide +kernel
theorem dX12_meanBits_37 : decode cX12_meanBits 37 = .ok (.iinc 2 1, 3) := by decide +kernel
theorem dX12_meanBits_40 : decode cX12_meanBits 40 = .ok (.goto (-20), 3) := by decide +kernel
theorem dX12_meanBits_43 : decode cX12_meanBits 43 = .ok (.aload_n 0, 1) := by decide +kernel
theorem dX12_meanBits_44 : decode cX12_meanBits 44 = .ok (.getfield 110, 3) := by decide +kernel
theorem dX12_meanBits_47 : decode cX12_meanBits 47 = .ok (.ifCond .ne 14, 3) := by decide +kernel
theorem dX12_meanBits_50 : decode cX12_meanBits 50 = .ok (.iload_n 1, 1) := by decide +kernel
theorem dX12_meanBits_51 : decode cX12_meanBits 51 = .ok (.i2d, 1) := by decide +kernel
theorem dX12_meanBits_52 : decode cX12_meanBits 52 = .ok (.aload_n 0, 1) := by decide +kernel
theorem dX12_meanBits_53 : decode cX12_meanBits 53 = .ok (.getfield 305, 3) := by decide +kernel
theorem dX12_meanBits_56 : decode cX12_meanBits 56 = .ok (.i2d, 1) := by decide +kernel
theorem dX12_meanBits_57 : decode cX12_meanBits 57 = .ok (.ddiv, 1) := by decide +kernel
theorem dX12_meanBits_58 : decode cX12_meanBits 58 = .ok (.goto 4, 3) := by decide +kernel
theorem dX12_meanBits_61 : decode cX12_meanBits 61 = .ok (.dconst 0, 1) := by decide +kernel
theorem dX12_meanBits_62 : decode cX12_meanBits 62 = .ok (.dreturn, 1) := by decide +kernel
theorem dX12_cleanShare_0 : decode cX12_cleanShare 0 = .ok (.aload_n 0, 1) := by decide +kernel
theorem dX12_cleanShare_1 : decode cX12_cleanShare 1 = .ok (.aload_n 0, 1) := by decide +kernel
theorem dX12_cleanShare_2 : decode cX12_cleanShare 2 = .ok (.getfield 368, 3) := by decide +kernel
theorem dX12_cleanShare_5 : decode cX12_cleanShare 5 = .ok (.ifCond .ne 7, 3) := by decide +kernel
theorem dX12_cleanShare_8 : decode cX12_cleanShare 8 = .ok (.iconst 1, 1) := by decide +kernel
theorem dX12_cleanShare_9 : decode cX12_cleanShare 9 = .ok (.goto 4, 3) := by decide +kernel
theorem dX12_cleanShare_12 : decode cX12_cleanShare 12 = .ok (.iconst 0, 1) := by decide +kernel
theorem dX12_cleanShare_13 : decode cX12_cleanShare 13 = .ok (.putfield 110, 3) := by decide +kernel
theorem dX12_cleanShare_16 : decode cX12_cleanShare 16 = .ok (.aload_n 0, 1) := by decide +kernel
theorem dX12_cleanShare_17 : decode cX12_cleanShare 17 = .ok (.getfield 110, 3) := by decide +kernel
theorem dX12_cleanShare_20 : decode cX12_cleanShare 20 = .ok (.ifCond .ne 17, 3) := by decide +kernel
theorem dX12_cleanShare_23 : decode cX12_cleanShare 23 = .ok (.aload_n 0, 1) := by decide +kernel
theorem dX12_cleanShare_24 : decode cX12_cleanShare 24 = .ok (.getfield 371, 3) := by decide +kernel
theorem dX12_cleanShare_27 : decode cX12_cleanShare 27 = .ok (.i2f, 1) := by decide +kernel
theorem dX12_cleanShare_28 : decode cX12_cleanShare 28 = .ok (.aload_n 0, 1) := by decide +kernel
theorem dX12_cleanShare_29 : decode cX12_cleanShare 29 = .ok (.getfield 368, 3) := by decide +kernel
theorem dX12_cleanShare_32 : decode cX12_cleanShare 32 = .ok (.i2f, 1) := by decide +kernel
theorem dX12_cleanShare_33 : decode cX12_cleanShare 33 = .ok (.fdiv, 1) := by decide +kernel
theorem dX12_cleanShare_34 : decode cX12_cleanShare 34 = .ok (.goto 4, 3) := by decide +kernel
theorem dX12_cleanShare_37 : decode cX12_cleanShare 37 = .ok (.fconst 0, 1) := by decide +kernel
theorem dX12_cleanShare_38 : decode cX12_cleanShare 38 = .ok (.freturn, 1) := by decide +kernel
theorem dL_fill_0 : decode cL_fill 0 = .ok (.aload 6, 2) := by decide +kernel
theorem dL_fill_2 : decode cL_fill 2 = .ok (.iconst 0, 1) := by decide +kernel
theorem dL_fill_3 : decode cL_fill 3 = .ok (.aload_n 0, 1) := by decide +kernel
theorem dL_fill_4 : decode cL_fill 4 = .ok (.iload_n 1, 1) := by decide +kernel
theorem dL_fill_5 : decode cL_fill 5 = .ok (.iload_n 2, 1) := by decide +kernel
theorem dL_fill_6 : decode cL_fill 6 = .ok (.iload_n 3, 1) := by decide +kernel
theorem dL_fill_7 : decode cL_fill 7 = .ok (.iload 4, 2) := by decide +kernel
theorem dL_fill_9 : decode cL_fill 9 = .ok (.iload 5, 2) := by decide +kernel
theorem dL_fill_11 : decode cL_fill 11 = .ok (.invokevirtual 7, 3) := by decide +kernel
theorem dL_fill_14 : decode cL_fill 14 = .ok (.i2l, 1) := by decide +kernel
theorem dL_fill_15 : decode cL_fill 15 = .ok (.lastore, 1) := by decide +kernel
theorem dL_fill_16 : decode cL_fill 16 = .ok (.goto 7, 3) := by decide +kernel
theorem dL_fill_19 : decode cL_fill 19 = .ok (.astore 7, 2) := by decide +kernel
theorem dL_fill_21 : decode cL_fill 21 = .ok (.iconst 1, 1) := by decide +kernel
theorem dL_fill_22 : decode cL_fill 22 = .ok (.ireturn, 1) := by decide +kernel
theorem dL_fill_23 : decode cL_fill 23 = .ok (.iconst 0, 1) := by decide +kernel
theorem dL_fill_24 : decode cL_fill 24 = .ok (.ireturn, 1) := by decide +kernel
theorem dL_slope_0 : decode cL_slope 0 = .ok (.aload 4, 2) := by decide +kernel
theorem dL_slope_2 : decode cL_slope 2 = .ok (.iconst 0, 1) := by decide +kernel
theorem dL_slope_3 : decode cL_slope 3 = .ok (.aload_n 0, 1) := by decide +kernel
theorem dL_slope_4 : decode cL_slope 4 = .ok (.iload_n 1, 1) := by decide +kernel
theorem dL_slope_5 : decode cL_slope 5 = .ok (.iload_n 2, 1) := by decide +kernel
theorem dL_slope_6 : decode cL_slope 6 = .ok (.iload_n 3, 1) := by decide +kernel
theorem dL_slope_7 : decode cL_slope 7 = .ok (.invokevirtual 15, 3) := by decide +kernel
theorem dL_slope_10 : decode cL_slope 10 = .ok (.i2l, 1) := by decide +kernel
theorem dL_slope_11 : decode cL_slope 11 = .ok (.lastore, 1) := by decide +kernel
theorem dL_slope_12 : decode cL_slope 12 = .ok (.goto 7, 3) := by decide +kernel
theorem dL_slope_15 : decode cL_slope 15 = .ok (.astore 5, 2) := by decide +kernel
theorem dL_slope_17 : decode cL_slope 17 = .ok (.iconst 1, 1) := by decide +kernel
theorem dL_slope_18 : decode cL_slope 18 = .ok (.ireturn, 1) := by decide +kernel
theorem dL_slope_19 : decode cL_slope 19 = .ok (.iconst 0, 1) := by decide +kernel
theorem dL_slope_20 : decode cL_slope 20 = .ok (.ireturn, 1) := by decide +kernel
theorem dL_grain_0 : decode cL_grain 0 = .ok (.aload_n 3, 1) := by decide +kernel
theorem dL_grain_1 : decode cL_grain 1 = .ok (.iconst 0, 1) := by decide +kernel
theorem dL_grain_2 : decode cL_grain 2 = .ok (.aload_n 0, 1) := by decide +kernel
theorem dL_grain_3 : decode cL_grain 3 = .ok (.iload_n 1, 1) := by decide +kernel
theorem dL_grain_4 : decode cL_grain 4 = .ok (.iload_n 2, 1) := by decide +kernel
theorem dL_grain_5 : decode cL_grain 5 = .ok (.invokevirtual 19, 3) := by decide +kernel
theorem dL_grain_8 : decode cL_grain 8 = .ok (.i2l, 1) := by decide +kernel
theorem dL_grain_9 : decode cL_grain 9 = .ok (.lastore, 1) := by decide +kernel
theorem dL_grain_10 : decode cL_grain 10 = .ok (.goto 7, 3) := by decide +kernel
theorem dL_grain_13 : decode cL_grain 13 = .ok (.astore 4, 2) := by decide +kernel
theorem dL_grain_15 : decode cL_grain 15 = .ok (.iconst 1, 1) := by decide +kernel
theorem dL_grain_16 : decode cL_grain 16 = .ok (.ireturn, 1) := by decide +kernel
theorem dL_grain_17 : decode cL_grain 17 = .ok (.iconst 0, 1) := by decide +kernel
theorem dL_grain_18 : decode cL_grain 18 = .ok (.ireturn, 1) := by decide +kernel
theorem dL_move_0 : decode cL_move 0 = .ok (.aload_n 3, 1) := by decide +kernel
theorem dL_move_1 : decode cL_move 1 = .ok (.iconst 0, 1) := by decide +kernel
theorem dL_move_2 : decode cL_move 2 = .ok (.aload_n 0, 1) := by decide +kernel
theorem dL_move_3 : decode cL_move 3 = .ok (.iload_n 1, 1) := by decide +kernel
theorem dL_move_4 : decode cL_move 4 = .ok (.iload_n 2, 1) := by decide +kernel
theorem dL_move_5 : decode cL_move 5 = .ok (.invokevirtual 23, 3) := by decide +kernel
theorem dL_move_8 : decode cL_move 8 = .ok (.i2l, 1) := by decide +kernel
theorem dL_move_9 : decode cL_move 9 = .ok (.lastore, 1) := by decide +kernel
theorem dL_move_10 : decode cL_move 10 = .ok (.goto 7, 3) := by decide +kernel
theorem dL_move_13 : decode cL_move 13 = .ok (.astore 4, 2) := by decide +kernel
theorem dL_move_15 : decode cL_move 15 = .ok (.iconst 1, 1) := by decide +kernel
theorem dL_move_16 : decode cL_move 16 = .ok (.ireturn, 1) := by decide +kernel
theorem dL_move_17 : decode cL_move 17 = .ok (.iconst 0, 1) := by decide +kernel
theorem dL_move_18 : decode cL_move 18 = .ok (.ireturn, 1) := by decide +kernel
theorem dL_pixel_0 : decode cL_pixel 0 = .ok (.aload_n 3, 1) := by decide +kernel
theorem dL_pixel_1 : decode cL_pixel 1 = .ok (.iconst 0, 1) := by decide +kernel
theorem dL_pixel_2 : decode cL_pixel 2 = .ok (.aload_n 0, 1) := by decide +kernel
theorem dL_pixel_3 : decode cL_pixel 3 = .ok (.iload_n 1, 1) := by decide +kernel
theorem dL_pixel_4 : decode cL_pixel 4 = .ok (.iload_n 2, 1) := by decide +kernel
theorem dL_pixel_5 : decode cL_pixel 5 = .ok (.invokevirtual 26, 3) := by decide +kernel
theorem dL_pixel_8 : decode cL_pixel 8 = .ok (.i2l, 1) := by decide +kernel
theorem dL_pixel_9 : decode cL_pixel 9 = .ok (.lastore, 1) := by decide +kernel
theorem dL_pixel_10 : decode cL_pixel 10 = .ok (.goto 7, 3) := by decide +kernel
theorem dL_pixel_13 : decode cL_pixel 13 = .ok (.astore 4, 2) := by decide +kernel
theorem dL_pixel_15 : decode cL_pixel 15 = .ok (.iconst 1, 1) := by decide +kernel
theorem dL_pixel_16 : decode cL_pixel 16 = .ok (.ireturn, 1) := by decide +kernel
theorem dL_pixel_17 : decode cL_pixel 17 = .ok (.iconst 0, 1) := by decide +kernel
theorem dL_pixel_18 : decode cL_pixel 18 = .ok (.ireturn, 1) := by decide +kernel
theorem dL_setCoarseness_0 : decode cL_setCoarseness 0 = .ok (.aload_n 2, 1) := by decide +kernel
theorem dL_setCoarseness_1 : decode cL_setCoarseness 1 = .ok (.iconst 0, 1) := by decide +kernel
theorem dL_setCoarseness_2 : decode cL_setCoarseness 2 = .ok (.aload_n 0, 1) := by decide +kernel
theorem dL_setCoarseness_3 : decode cL_setCoarseness 3 = .ok (.iload_n 1, 1) := by decide +kernel
theorem dL_setCoarseness_4 : decode cL_setCoarseness 4 = .ok (.invokevirtual 31, 3) := by decide +kernel
theorem dL_setCoarseness_7 : decode cL_setCoarseness 7 = .ok (.i2l, 1) := by decide +kernel
theorem dL_setCoarseness_8 : decode cL_setCoarseness 8 = .ok (.lastore, 1) := by decide +kernel
theorem dL_setCoarseness_9 : decode cL_setCoarseness 9 = .ok (.goto 6, 3) := by decide +kernel
theorem dL_setCoarseness_12 : decode cL_setCoarseness 12 = .ok (.astore_n 3, 1) := by decide +kernel
theorem dL_setCoarseness_13 : decode cL_setCoarseness 13 = .ok (.iconst 1, 1) := by decide +kernel
theorem dL_setCoarseness_14 : decode cL_setCoarseness 14 = .ok (.ireturn, 1) := by decide +kernel
theorem dL_setCoarseness_15 : decode cL_setCoarseness 15 = .ok (.iconst 0, 1) := by decide +kernel
theorem dL_setCoarseness_16 : decode cL_setCoarseness 16 = .ok (.ireturn, 1) := by decide +kernel
theorem dL_setTools_0 : decode cL_setTools 0 = .ok (.aload_n 2, 1) := by decide +kernel
theorem dL_setTools_1 : decode cL_setTools 1 = .ok (.iconst 0, 1) := by decide +kernel
theorem dL_setTools_2 : decode cL_setTools 2 = .ok (.aload_n 0, 1) := by decide +kernel
theorem dL_setTools_3 : decode cL_setTools 3 = .ok (.iload_n 1, 1) := by decide +kernel
theorem dL_setTools_4 : decode cL_setTools 4 = .ok (.invokevirtual 35, 3) := by decide +kernel
theorem dL_setTools_7 : decode cL_setTools 7 = .ok (.i2l, 1) := by decide +kernel
theorem dL_setTools_8 : decode cL_setTools 8 = .ok (.lastore, 1) := by decide +kernel
theorem dL_setTools_9 : decode cL_setTools 9 = .ok (.goto 6, 3) := by decide +kernel
theorem dL_setTools_12 : decode cL_setTools 12 = .ok (.astore_n 3, 1) := by decide +kernel
theorem dL_setTools_13 : decode cL_setTools 13 = .ok (.iconst 1, 1) := by decide +kernel
theorem dL_setTools_14 : decode cL_setTools 14 = .ok (.ireturn, 1) := by decide +kernel
theorem dL_setTools_15 : decode cL_setTools 15 = .ok (.iconst 0, 1) := by decide +kernel
theorem dL_setTools_16 : decode cL_setTools 16 = .ok (.ireturn, 1) := by decide +kernel
theorem dL_setSlices_0 : decode cL_setSlices 0 = .ok (.aload_n 2, 1) := by decide +kernel
theorem dL_setSlices_1 : decode cL_setSlices 1 = .ok (.iconst 0, 1) := by decide +kernel
theorem dL_setSlices_2 : decode cL_setSlices 2 = .ok (.aload_n 0, 1) := by decide +kernel
theorem dL_setSlices_3 : decode cL_setSlices 3 = .ok (.iload_n 1, 1) := by decide +kernel
theorem dL_setSlices_4 : decode cL_setSlices 4 = .ok (.invokevirtual 38, 3) := by decide +kernel
theorem dL_setSlices_7 : decode cL_setSlices 7 = .ok (.i2l, 1) := by decide +kernel
theorem dL_setSlices_8 : decode cL_setSlices 8 = .ok (.lastore, 1) := by decide +kernel
theorem dL_setSlices_9 : decode cL_setSlices 9 = .ok (.goto 6, 3) := by decide +kernel
theorem dL_setSlices_12 : decode cL_setSlices 12 = .ok (.astore_n 3, 1) := by decide +kernel
theorem dL_setSlices_13 : decode cL_setSlices 13 = .ok (.iconst 1, 1) := by decide +kernel
theorem dL_setSlices_14 : decode cL_setSlices 14 = .ok (.ireturn, 1) := by decide +kernel
theorem dL_setSlices_15 : decode cL_setSlices 15 = .ok (.iconst 0, 1) := by decide +kernel
theorem dL_setSlices_16 : decode cL_setSlices 16 = .ok (.ireturn, 1) := by decide +kernel
theorem dL_setBucket_0 : decode cL_setBucket 0 = .ok (.aload_n 3, 1) := by decide +kernel
theorem dL_setBucket_1 : decode cL_setBucket 1 = .ok (.iconst 0, 1) := by decide +kernel
theorem dL_setBucket_2 : decode cL_setBucket 2 = .ok (.aload_n 0, 1) := by decide +kernel
theorem dL_setBucket_3 : decode cL_setBucket 3 = .ok (.iload_n 1, 1) := by decide +kernel
theorem dL_setBucket_4 : decode cL_setBucket 4 = .ok (.iload_n 2, 1) := by decide +kernel
theorem dL_setBucket_5 : decode cL_setBucket 5 = .ok (.invokevirtual 41, 3) := by decide +kernel
theorem dL_setBucket_8 : decode cL_setBucket 8 = .ok (.i2l, 1) := by decide +kernel
theorem dL_setBucket_9 : decode cL_setBucket 9 = .ok (.lastore, 1) := by decide +kernel
theorem dL_setBucket_10 : decode cL_setBucket 10 = .ok (.goto 7, 3) := by decide +kernel
theorem dL_setBucket_13 : decode cL_setBucket 13 = .ok (.astore 4, 2) := by decide +kernel
theorem dL_setBucket_15 : decode cL_setBucket 15 = .ok (.iconst 1, 1) := by decide +kernel
theorem dL_setBucket_16 : decode cL_setBucket 16 = .ok (.ireturn, 1) := by decide +kernel
theorem dL_setBucket_17 : decode cL_setBucket 17 = .ok (.iconst 0, 1) := by decide +kernel
theorem dL_setBucket_18 : decode cL_setBucket 18 = .ok (.ireturn, 1) := by decide +kernel
theorem dL_code_0 : decode cL_code 0 = .ok (.aload 4, 2) := by decide +kernel
theorem dL_code_2 : decode cL_code 2 = .ok (.iconst 0, 1) := by decide +kernel
theorem dL_code_3 : decode cL_code 3 = .ok (.aload_n 0, 1) := by decide +kernel
theorem dL_code_4 : decode cL_code 4 = .ok (.iload_n 1, 1) := by decide +kernel
theorem dL_code_5 : decode cL_code 5 = .ok (.iload_n 2, 1) := by decide +kernel
theorem dL_code_6 : decode cL_code 6 = .ok (.iload_n 3, 1) := by decide +kernel
theorem dL_code_7 : decode cL_code 7 = .ok (.invokevirtual 44, 3) := by decide +kernel
theorem dL_code_10 : decode cL_code 10 = .ok (.i2l, 1) := by decide +kernel
theorem dL_code_11 : decode cL_code 11 = .ok (.lastore, 1) := by decide +kernel
theorem dL_code_12 : decode cL_code 12 = .ok (.goto 19, 3) := by decide +kernel
theorem dL_code_15 : decode cL_code 15 = .ok (.astore 5, 2) := by decide +kernel
theorem dL_code_17 : decode cL_code 17 = .ok (.iconst 1, 1) := by decide +kernel
theorem dL_code_18 : decode cL_code 18 = .ok (.ireturn, 1) := by decide +kernel
theorem dL_code_19 : decode cL_code 19 = .ok (.astore 5, 2) := by decide +kernel
theorem dL_code_21 : decode cL_code 21 = .ok (.iconst 2, 1) := by decide +kernel
theorem dL_code_22 : decode cL_code 22 = .ok (.ireturn, 1) := by decide +kernel
theorem dL_code_23 : decode cL_code 23 = .ok (.astore 5, 2) := by decide +kernel
theorem dL_code_25 : decode cL_code 25 = .ok (.iconst 3, 1) := by decide +kernel
theorem dL_code_26 : decode cL_code 26 = .ok (.ireturn, 1) := by decide +kernel
theorem dL_code_27 : decode cL_code 27 = .ok (.astore 5, 2) := by decide +kernel
theorem dL_code_29 : decode cL_code 29 = .ok (.iconst 4, 1) := by decide +kernel
theorem dL_code_30 : decode cL_code 30 = .ok (.ireturn, 1) := by decide +kernel
theorem dL_code_31 : decode cL_code 31 = .ok (.iconst 0, 1) := by decide +kernel
theorem dL_code_32 : decode cL_code 32 = .ok (.ireturn, 1) := by decide +kernel
theorem dL_keptAt_0 : decode cL_keptAt 0 = .ok (.aload_n 2, 1) := by decide +kernel
theorem dL_keptAt_1 : decode cL_keptAt 1 = .ok (.iconst 0, 1) := by decide +kernel
theorem dL_keptAt_2 : decode cL_keptAt 2 = .ok (.aload_n 0, 1) := by decide +kernel
theorem dL_keptAt_3 : decode cL_keptAt 3 = .ok (.iload_n 1, 1) := by decide +kernel
theorem dL_keptAt_4 : decode cL_keptAt 4 = .ok (.invokevirtual 52, 3) := by decide +kernel
theorem dL_keptAt_7 : decode cL_keptAt 7 = .ok (.i2l, 1) := by decide +kernel
theorem dL_keptAt_8 : decode cL_keptAt 8 = .ok (.lastore, 1) := by decide +kernel
theorem dL_keptAt_9 : decode cL_keptAt 9 = .ok (.goto 6, 3) := by decide +kernel
theorem dL_keptAt_12 : decode cL_keptAt 12 = .ok (.astore_n 3, 1) := by decide +kernel
theorem dL_keptAt_13 : decode cL_keptAt 13 = .ok (.iconst 1, 1) := by decide +kernel
theorem dL_keptAt_14 : decode cL_keptAt 14 = .ok (.ireturn, 1) := by decide +kernel
theorem dL_keptAt_15 : decode cL_keptAt 15 = .ok (.iconst 0, 1) := by decide +kernel
theorem dL_keptAt_16 : decode cL_keptAt 16 = .ok (.ireturn, 1) := by decide +kernel
theorem dL_bucket_0 : decode cL_bucket 0 = .ok (.aload_n 1, 1) := by decide +kernel
theorem dL_bucket_1 : decode cL_bucket 1 = .ok (.iconst 0, 1) := by decide +kernel
theorem dL_bucket_2 : decode cL_bucket 2 = .ok (.aload_n 0, 1) := by decide +kernel
theorem dL_bucket_3 : decode cL_bucket 3 = .ok (.invokevirtual 55, 3) := by decide +kernel
theorem dL_bucket_6 : decode cL_bucket 6 = .ok (.i2l, 1) := by decide +kernel
theorem dL_bucket_7 : decode cL_bucket 7 = .ok (.lastore, 1) := by decide +kernel
theorem dL_bucket_8 : decode cL_bucket 8 = .ok (.goto 6, 3) := by decide +kernel
theorem dL_bucket_11 : decode cL_bucket 11 = .ok (.astore_n 2, 1) := by decide +kernel
theorem dL_bucket_12 : decode cL_bucket 12 = .ok (.iconst 1, 1) := by decide +kernel
theorem dL_bucket_13 : decode cL_bucket 13 = .ok (.ireturn, 1) := by decide +kernel
theorem dL_bucket_14 : decode cL_bucket 14 = .ok (.iconst 0, 1) := by decide +kernel
theorem dL_bucket_15 : decode cL_bucket 15 = .ok (.ireturn, 1) := by decide +kernel
theorem dL_kindOf_0 : decode cL_kindOf 0 = .ok (.aload_n 2, 1) := by decide +kernel
theorem dL_kindOf_1 : decode cL_kindOf 1 = .ok (.iconst 0, 1) := by decide +kernel
theorem dL_kindOf_2 : decode cL_kindOf 2 = .ok (.aload_n 0, 1) := by decide +kernel
theorem dL_kindOf_3 : decode cL_kindOf 3 = .ok (.iload_n 1, 1) := by decide +kernel
theorem dL_kindOf_4 : decode cL_kindOf 4 = .ok (.invokevirtual 61, 3) := by decide +kernel
theorem dL_kindOf_7 : decode cL_kindOf 7 = .ok (.i2l, 1) := by decide +kernel
theorem dL_kindOf_8 : decode cL_kindOf 8 = .ok (.lastore, 1) := by decide +kernel
theorem dL_kindOf_9 : decode cL_kindOf 9 = .ok (.goto 6, 3) := by decide +kernel
theorem dL_kindOf_12 : decode cL_kindOf 12 = .ok (.astore_n 3, 1) := by decide +kernel
theorem dL_kindOf_13 : decode cL_kindOf 13 = .ok (.iconst 1, 1) := by decide +kernel
theorem dL_kindOf_14 : decode cL_kindOf 14 = .ok (.ireturn, 1) := by decide +kernel
theorem dL_kindOf_15 : decode cL_kindOf 15 = .ok (.iconst 0, 1) := by decide +kernel
theorem dL_kindOf_16 : decode cL_kindOf 16 = .ok (.ireturn, 1) := by decide +kernel
theorem dL_coarsenessOf_0 : decode cL_coarsenessOf 0 = .ok (.aload_n 2, 1) := by decide +kernel
theorem dL_coarsenessOf_1 : decode cL_coarsenessOf 1 = .ok (.iconst 0, 1) := by decide +kernel
theorem dL_coarsenessOf_2 : decode cL_coarsenessOf 2 = .ok (.aload_n 0, 1) := by decide +kernel
theorem dL_coarsenessOf_3 : decode cL_coarsenessOf 3 = .ok (.iload_n 1, 1) := by decide +kernel
theorem dL_coarsenessOf_4 : decode cL_coarsenessOf 4 = .ok (.invokevirtual 65, 3) := by decide +kernel
theorem dL_coarsenessOf_7 : decode cL_coarsenessOf 7 = .ok (.i2l, 1) := by decide +kernel
theorem dL_coarsenessOf_8 : decode cL_coarsenessOf 8 = .ok (.lastore, 1) := by decide +kernel
theorem dL_coarsenessOf_9 : decode cL_coarsenessOf 9 = .ok (.goto 6, 3) := by decide +kernel
theorem dL_coarsenessOf_12 : decode cL_coarsenessOf 12 = .ok (.astore_n 3, 1) := by decide +kernel
theorem dL_coarsenessOf_13 : decode cL_coarsenessOf 13 = .ok (.iconst 1, 1) := by decide +kernel
theorem dL_coarsenessOf_14 : decode cL_coarsenessOf 14 = .ok (.ireturn, 1) := by decide +kernel
theorem dL_coarsenessOf_15 : decode cL_coarsenessOf 15 = .ok (.iconst 0, 1) := by decide +kernel
theorem dL_coarsenessOf_16 : decode cL_coarsenessOf 16 = .ok (.ireturn, 1) := by decide +kernel
theorem dL_bytes_0 : decode cL_bytes 0 = .ok (.aload_n 3, 1) := by decide +kernel
theorem dL_bytes_1 : decode cL_bytes 1 = .ok (.iconst 0, 1) := by decide +kernel
theorem dL_bytes_2 : decode cL_bytes 2 = .ok (.aload_n 0, 1) := by decide +kernel
theorem dL_bytes_3 : decode cL_bytes 3 = .ok (.iload_n 1, 1) := by decide +kernel
theorem dL_bytes_4 : decode cL_bytes 4 = .ok (.iload_n 2, 1) := by decide +kernel
theorem dL_bytes_5 : decode cL_bytes 5 = .ok (.invokevirtual 68, 3) := by decide +kernel
theorem dL_bytes_8 : decode cL_bytes 8 = .ok (.i2l, 1) := by decide +kernel
theorem dL_bytes_9 : decode cL_bytes 9 = .ok (.lastore, 1) := by decide +kernel
theorem dL_bytes_10 : decode cL_bytes 10 = .ok (.goto 7, 3) := by decide +kernel
theorem dL_bytes_13 : decode cL_bytes 13 = .ok (.astore 4, 2) := by decide +kernel
theorem dL_bytes_15 : decode cL_bytes 15 = .ok (.iconst 1, 1) := by decide +kernel
theorem dL_bytes_16 : decode cL_bytes 16 = .ok (.ireturn, 1) := by decide +kernel
theorem dL_bytes_17 : decode cL_bytes 17 = .ok (.iconst 0, 1) := by decide +kernel
theorem dL_bytes_18 : decode cL_bytes 18 = .ok (.ireturn, 1) := by decide +kernel
theorem dL_byteAt_0 : decode cL_byteAt 0 = .ok (.aload 4, 2) := by decide +kernel
theorem dL_byteAt_2 : decode cL_byteAt 2 = .ok (.iconst 0, 1) := by decide +kernel
theorem dL_byteAt_3 : decode cL_byteAt 3 = .ok (.aload_n 0, 1) := by decide +kernel
theorem dL_byteAt_4 : decode cL_byteAt 4 = .ok (.iload_n 1, 1) := by decide +kernel
theorem dL_byteAt_5 : decode cL_byteAt 5 = .ok (.iload_n 2, 1) := by decide +kernel
theorem dL_byteAt_6 : decode cL_byteAt 6 = .ok (.iload_n 3, 1) := by decide +kernel
theorem dL_byteAt_7 : decode cL_byteAt 7 = .ok (.invokevirtual 71, 3) := by decide +kernel
theorem dL_byteAt_10 : decode cL_byteAt 10 = .ok (.i2l, 1) := by decide +kernel
theorem dL_byteAt_11 : decode cL_byteAt 11 = .ok (.lastore, 1) := by decide +kernel
theorem dL_byteAt_12 : decode cL_byteAt 12 = .ok (.goto 7, 3) := by decide +kernel
theorem dL_byteAt_15 : decode cL_byteAt 15 = .ok (.astore 5, 2) := by decide +kernel
theorem dL_byteAt_17 : decode cL_byteAt 17 = .ok (.iconst 1, 1) := by decide +kernel
theorem dL_byteAt_18 : decode cL_byteAt 18 = .ok (.ireturn, 1) := by decide +kernel
theorem dL_byteAt_19 : decode cL_byteAt 19 = .ok (.iconst 0, 1) := by decide +kernel
theorem dL_byteAt_20 : decode cL_byteAt 20 = .ok (.ireturn, 1) := by decide +kernel
theorem dL_partAt_0 : decode cL_partAt 0 = .ok (.aload 4, 2) := by decide +kernel
theorem dL_partAt_2 : decode cL_partAt 2 = .ok (.iconst 0, 1) := by decide +kernel
theorem dL_partAt_3 : decode cL_partAt 3 = .ok (.aload_n 0, 1) := by decide +kernel
theorem dL_partAt_4 : decode cL_partAt 4 = .ok (.iload_n 1, 1) := by decide +kernel
theorem dL_partAt_5 : decode cL_partAt 5 = .ok (.iload_n 2, 1) := by decide +kernel
theorem dL_partAt_6 : decode cL_partAt 6 = .ok (.iload_n 3, 1) := by decide +kernel
theorem dL_partAt_7 : decode cL_partAt 7 = .ok (.invokevirtual 74, 3) := by decide +kernel
theorem dL_partAt_10 : decode cL_partAt 10 = .ok (.i2l, 1) := by decide +kernel
theorem dL_partAt_11 : decode cL_partAt 11 = .ok (.lastore, 1) := by decide +kernel
theorem dL_partAt_12 : decode cL_partAt 12 = .ok (.goto 7, 3) := by decide +kernel
theorem dL_partAt_15 : decode cL_partAt 15 = .ok (.astore 5, 2) := by decide +kernel
theorem dL_partAt_17 : decode cL_partAt 17 = .ok (.iconst 1, 1) := by decide +kernel
theorem dL_partAt_18 : decode cL_partAt 18 = .ok (.ireturn, 1) := by decide +kernel
theorem dL_partAt_19 : decode cL_partAt 19 = .ok (.iconst 0, 1) := by decide +kernel
theorem dL_partAt_20 : decode cL_partAt 20 = .ok (.ireturn, 1) := by decide +kernel
theorem dL_modeAt_0 : decode cL_modeAt 0 = .ok (.aload 4, 2) := by decide +kernel
theorem dL_modeAt_2 : decode cL_modeAt 2 = .ok (.iconst 0, 1) := by decide +kernel
theorem dL_modeAt_3 : decode cL_modeAt 3 = .ok (.aload_n 0, 1) := by decide +kernel
theorem dL_modeAt_4 : decode cL_modeAt 4 = .ok (.iload_n 1, 1) := by decide +kernel
theorem dL_modeAt_5 : decode cL_modeAt 5 = .ok (.iload_n 2, 1) := by decide +kernel
theorem dL_modeAt_6 : decode cL_modeAt 6 = .ok (.iload_n 3, 1) := by decide +kernel
theorem dL_modeAt_7 : decode cL_modeAt 7 = .ok (.invokevirtual 77, 3) := by decide +kernel
theorem dL_modeAt_10 : decode cL_modeAt 10 = .ok (.i2l, 1) := by decide +kernel
theorem dL_modeAt_11 : decode cL_modeAt 11 = .ok (.lastore, 1) := by decide +kernel
theorem dL_modeAt_12 : decode cL_modeAt 12 = .ok (.goto 7, 3) := by decide +kernel
theorem dL_modeAt_15 : decode cL_modeAt 15 = .ok (.astore 5, 2) := by decide +kernel
theorem dL_modeAt_17 : decode cL_modeAt 17 = .ok (.iconst 1, 1) := by decide +kernel
theorem dL_modeAt_18 : decode cL_modeAt 18 = .ok (.ireturn, 1) := by decide +kernel
theorem dL_modeAt_19 : decode cL_modeAt 19 = .ok (.iconst 0, 1) := by decide +kernel
theorem dL_modeAt_20 : decode cL_modeAt 20 = .ok (.ireturn, 1) := by decide +kernel
theorem dL_vectorAt_0 : decode cL_vectorAt 0 = .ok (.aload 5, 2) := by decide +kernel
theorem dL_vectorAt_2 : decode cL_vectorAt 2 = .ok (.iconst 0, 1) := by decide +kernel
theorem dL_vectorAt_3 : decode cL_vectorAt 3 = .ok (.aload_n 0, 1) := by decide +kernel
theorem dL_vectorAt_4 : decode cL_vectorAt 4 = .ok (.iload_n 1, 1) := by decide +kernel
theorem dL_vectorAt_5 : decode cL_vectorAt 5 = .ok (.iload_n 2, 1) := by decide +kernel
theorem dL_vectorAt_6 : decode cL_vectorAt 6 = .ok (.iload_n 3, 1) := by decide +kernel
theorem dL_vectorAt_7 : decode cL_vectorAt 7 = .ok (.iload 4, 2) := by decide +kernel
theorem dL_vectorAt_9 : decode cL_vectorAt 9 = .ok (.invokevirtual 80, 3) := by decide +kernel
theorem dL_vectorAt_12 : decode cL_vectorAt 12 = .ok (.i2l, 1) := by decide +kernel
theorem dL_vectorAt_13 : decode cL_vectorAt 13 = .ok (.lastore, 1) := by decide +kernel
theorem dL_vectorAt_14 : decode cL_vectorAt 14 = .ok (.goto 11, 3) := by decide +kernel
theorem dL_vectorAt_17 : decode cL_vectorAt 17 = .ok (.astore 6, 2) := by decide +kernel
theorem dL_vectorAt_19 : decode cL_vectorAt 19 = .ok (.iconst 1, 1) := by decide +kernel
theorem dL_vectorAt_20 : decode cL_vectorAt 20 = .ok (.ireturn, 1) := by decide +kernel
theorem dL_vectorAt_21 : decode cL_vectorAt 21 = .ok (.astore 6, 2) := by decide +kernel
theorem dL_vectorAt_23 : decode cL_vectorAt 23 = .ok (.iconst 2, 1) := by decide +kernel
theorem dL_vectorAt_24 : decode cL_vectorAt 24 = .ok (.ireturn, 1) := by decide +kernel
theorem dL_vectorAt_25 : decode cL_vectorAt 25 = .ok (.iconst 0, 1) := by decide +kernel
theorem dL_vectorAt_26 : decode cL_vectorAt 26 = .ok (.ireturn, 1) := by decide +kernel
theorem dL_levelAt_0 : decode cL_levelAt 0 = .ok (.aload 4, 2) := by decide +kernel
theorem dL_levelAt_2 : decode cL_levelAt 2 = .ok (.iconst 0, 1) := by decide +kernel
theorem dL_levelAt_3 : decode cL_levelAt 3 = .ok (.aload_n 0, 1) := by decide +kernel
theorem dL_levelAt_4 : decode cL_levelAt 4 = .ok (.iload_n 1, 1) := by decide +kernel
theorem dL_levelAt_5 : decode cL_levelAt 5 = .ok (.iload_n 2, 1) := by decide +kernel
theorem dL_levelAt_6 : decode cL_levelAt 6 = .ok (.iload_n 3, 1) := by decide +kernel
theorem dL_levelAt_7 : decode cL_levelAt 7 = .ok (.invokevirtual 84, 3) := by decide +kernel
theorem dL_levelAt_10 : decode cL_levelAt 10 = .ok (.i2l, 1) := by decide +kernel
theorem dL_levelAt_11 : decode cL_levelAt 11 = .ok (.lastore, 1) := by decide +kernel
theorem dL_levelAt_12 : decode cL_levelAt 12 = .ok (.goto 7, 3) := by decide +kernel
theorem dL_levelAt_15 : decode cL_levelAt 15 = .ok (.astore 5, 2) := by decide +kernel
theorem dL_levelAt_17 : decode cL_levelAt 17 = .ok (.iconst 1, 1) := by decide +kernel
theorem dL_levelAt_18 : decode cL_levelAt 18 = .ok (.ireturn, 1) := by decide +kernel
theorem dL_levelAt_19 : decode cL_levelAt 19 = .ok (.iconst 0, 1) := by decide +kernel
theorem dL_levelAt_20 : decode cL_levelAt 20 = .ok (.ireturn, 1) := by decide +kernel
theorem dL_built_0 : decode cL_built 0 = .ok (.aload 4, 2) := by decide +kernel
theorem dL_built_2 : decode cL_built 2 = .ok (.iconst 0, 1) := by decide +kernel
theorem dL_built_3 : decode cL_built 3 = .ok (.aload_n 0, 1) := by decide +kernel
theorem dL_built_4 : decode cL_built 4 = .ok (.iload_n 1, 1) := by decide +kernel
theorem dL_built_5 : decode cL_built 5 = .ok (.iload_n 2, 1) := by decide +kernel
theorem dL_built_6 : decode cL_built 6 = .ok (.iload_n 3, 1) := by decide +kernel
theorem dL_built_7 : decode cL_built 7 = .ok (.invokevirtual 87, 3) := by decide +kernel
theorem dL_built_10 : decode cL_built 10 = .ok (.i2l, 1) := by decide +kernel
theorem dL_built_11 : decode cL_built 11 = .ok (.lastore, 1) := by decide +kernel
theorem dL_built_12 : decode cL_built 12 = .ok (.goto 7, 3) := by decide +kernel
theorem dL_built_15 : decode cL_built 15 = .ok (.astore 5, 2) := by decide +kernel
theorem dL_built_17 : decode cL_built 17 = .ok (.iconst 1, 1) := by decide +kernel
theorem dL_built_18 : decode cL_built 18 = .ok (.ireturn, 1) := by decide +kernel
theorem dL_built_19 : decode cL_built 19 = .ok (.iconst 0, 1) := by decide +kernel
theorem dL_built_20 : decode cL_built 20 = .ok (.ireturn, 1) := by decide +kernel
theorem dL_errorOf_0 : decode cL_errorOf 0 = .ok (.aload_n 2, 1) := by decide +kernel
theorem dL_errorOf_1 : decode cL_errorOf 1 = .ok (.iconst 0, 1) := by decide +kernel
theorem dL_errorOf_2 : decode cL_errorOf 2 = .ok (.aload_n 0, 1) := by decide +kernel
theorem dL_errorOf_3 : decode cL_errorOf 3 = .ok (.iload_n 1, 1) := by decide +kernel
theorem dL_errorOf_4 : decode cL_errorOf 4 = .ok (.invokevirtual 90, 3) := by decide +kernel
theorem dL_errorOf_7 : decode cL_errorOf 7 = .ok (.lastore, 1) := by decide +kernel
theorem dL_errorOf_8 : decode cL_errorOf 8 = .ok (.goto 6, 3) := by decide +kernel
theorem dL_errorOf_11 : decode cL_errorOf 11 = .ok (.astore_n 3, 1) := by decide +kernel
theorem dL_errorOf_12 : decode cL_errorOf 12 = .ok (.iconst 1, 1) := by decide +kernel
theorem dL_errorOf_13 : decode cL_errorOf 13 = .ok (.ireturn, 1) := by decide +kernel
theorem dL_errorOf_14 : decode cL_errorOf 14 = .ok (.iconst 0, 1) := by decide +kernel
theorem dL_errorOf_15 : decode cL_errorOf 15 = .ok (.ireturn, 1) := by decide +kernel
theorem dL_heaviest_0 : decode cL_heaviest 0 = .ok (.aload_n 2, 1) := by decide +kernel
theorem dL_heaviest_1 : decode cL_heaviest 1 = .ok (.iconst 0, 1) := by decide +kernel
theorem dL_heaviest_2 : decode cL_heaviest 2 = .ok (.aload_n 0, 1) := by decide +kernel
theorem dL_heaviest_3 : decode cL_heaviest 3 = .ok (.iload_n 1, 1) := by decide +kernel
theorem dL_heaviest_4 : decode cL_heaviest 4 = .ok (.invokevirtual 94, 3) := by decide +kernel
theorem dL_heaviest_7 : decode cL_heaviest 7 = .ok (.i2l, 1) := by decide +kernel
theorem dL_heaviest_8 : decode cL_heaviest 8 = .ok (.lastore, 1) := by decide +kernel
theorem dL_heaviest_9 : decode cL_heaviest 9 = .ok (.goto 6, 3) := by decide +kernel
theorem dL_heaviest_12 : decode cL_heaviest 12 = .ok (.astore_n 3, 1) := by decide +kernel
theorem dL_heaviest_13 : decode cL_heaviest 13 = .ok (.iconst 1, 1) := by decide +kernel
theorem dL_heaviest_14 : decode cL_heaviest 14 = .ok (.ireturn, 1) := by decide +kernel
theorem dL_heaviest_15 : decode cL_heaviest 15 = .ok (.iconst 0, 1) := by decide +kernel
theorem dL_heaviest_16 : decode cL_heaviest 16 = .ok (.ireturn, 1) := by decide +kernel
theorem dL_commonest_0 : decode cL_commonest 0 = .ok (.aload_n 1, 1) := by decide +kernel
theorem dL_commonest_1 : decode cL_commonest 1 = .ok (.iconst 0, 1) := by decide +kernel
theorem dL_commonest_2 : decode cL_commonest 2 = .ok (.aload_n 0, 1) := by decide +kernel
theorem dL_commonest_3 : decode cL_commonest 3 = .ok (.invokevirtual 97, 3) := by decide +kernel
theorem dL_commonest_6 : decode cL_commonest 6 = .ok (.i2l, 1) := by decide +kernel
theorem dL_commonest_7 : decode cL_commonest 7 = .ok (.lastore, 1) := by decide +kernel
theorem dL_commonest_8 : decode cL_commonest 8 = .ok (.goto 6, 3) := by decide +kernel
theorem dL_commonest_11 : decode cL_commonest 11 = .ok (.astore_n 2, 1) := by decide +kernel
theorem dL_commonest_12 : decode cL_commonest 12 = .ok (.iconst 1, 1) := by decide +kernel
theorem dL_commonest_13 : decode cL_commonest 13 = .ok (.ireturn, 1) := by decide +kernel
theorem dL_commonest_14 : decode cL_commonest 14 = .ok (.iconst 0, 1) := by decide +kernel
theorem dL_commonest_15 : decode cL_commonest 15 = .ok (.ireturn, 1) := by decide +kernel
theorem dL_send_0 : decode cL_send 0 = .ok (.aload_n 2, 1) := by decide +kernel
theorem dL_send_1 : decode cL_send 1 = .ok (.iconst 0, 1) := by decide +kernel
theorem dL_send_2 : decode cL_send 2 = .ok (.aload_n 0, 1) := by decide +kernel
theorem dL_send_3 : decode cL_send 3 = .ok (.iload_n 1, 1) := by decide +kernel
theorem dL_send_4 : decode cL_send 4 = .ok (.invokevirtual 100, 3) := by decide +kernel
theorem dL_send_7 : decode cL_send 7 = .ok (.i2l, 1) := by decide +kernel
theorem dL_send_8 : decode cL_send 8 = .ok (.lastore, 1) := by decide +kernel
theorem dL_send_9 : decode cL_send 9 = .ok (.goto 9, 3) := by decide +kernel
theorem dL_send_12 : decode cL_send 12 = .ok (.astore_n 3, 1) := by decide +kernel
theorem dL_send_13 : decode cL_send 13 = .ok (.iconst 1, 1) := by decide +kernel
theorem dL_send_14 : decode cL_send 14 = .ok (.ireturn, 1) := by decide +kernel
theorem dL_send_15 : decode cL_send 15 = .ok (.astore_n 3, 1) := by decide +kernel
theorem dL_send_16 : decode cL_send 16 = .ok (.iconst 2, 1) := by decide +kernel
theorem dL_send_17 : decode cL_send 17 = .ok (.ireturn, 1) := by decide +kernel
theorem dL_send_18 : decode cL_send 18 = .ok (.iconst 0, 1) := by decide +kernel
theorem dL_send_19 : decode cL_send 19 = .ok (.ireturn, 1) := by decide +kernel
theorem dL_join_0 : decode cL_join 0 = .ok (.aload_n 2, 1) := by decide +kernel
theorem dL_join_1 : decode cL_join 1 = .ok (.iconst 0, 1) := by decide +kernel
theorem dL_join_2 : decode cL_join 2 = .ok (.aload_n 0, 1) := by decide +kernel
theorem dL_join_3 : decode cL_join 3 = .ok (.iload_n 1, 1) := by decide +kernel
theorem dL_join_4 : decode cL_join 4 = .ok (.invokevirtual 103, 3) := by decide +kernel
theorem dL_join_7 : decode cL_join 7 = .ok (.i2l, 1) := by decide +kernel
theorem dL_join_8 : decode cL_join 8 = .ok (.lastore, 1) := by decide +kernel
theorem dL_join_9 : decode cL_join 9 = .ok (.goto 6, 3) := by decide +kernel
theorem dL_join_12 : decode cL_join 12 = .ok (.astore_n 3, 1) := by decide +kernel
theorem dL_join_13 : decode cL_join 13 = .ok (.iconst 1, 1) := by decide +kernel
theorem dL_join_14 : decode cL_join 14 = .ok (.ireturn, 1) := by decide +kernel
theorem dL_join_15 : decode cL_join 15 = .ok (.iconst 0, 1) := by decide +kernel
theorem dL_join_16 : decode cL_join 16 = .ok (.ireturn, 1) := by decide +kernel
theorem dL_shown_0 : decode cL_shown 0 = .ok (.aload_n 1, 1) := by decide +kernel
theorem dL_shown_1 : decode cL_shown 1 = .ok (.iconst 0, 1) := by decide +kernel
theorem dL_shown_2 : decode cL_shown 2 = .ok (.aload_n 0, 1) := by decide +kernel
theorem dL_shown_3 : decode cL_shown 3 = .ok (.invokevirtual 106, 3) := by decide +kernel
theorem dL_shown_6 : decode cL_shown 6 = .ok (.i2l, 1) := by decide +kernel
theorem dL_shown_7 : decode cL_shown 7 = .ok (.lastore, 1) := by decide +kernel
theorem dL_shown_8 : decode cL_shown 8 = .ok (.goto 6, 3) := by decide +kernel
theorem dL_shown_11 : decode cL_shown 11 = .ok (.astore_n 2, 1) := by decide +kernel
theorem dL_shown_12 : decode cL_shown 12 = .ok (.iconst 1, 1) := by decide +kernel
theorem dL_shown_13 : decode cL_shown 13 = .ok (.ireturn, 1) := by decide +kernel
theorem dL_shown_14 : decode cL_shown 14 = .ok (.iconst 0, 1) := by decide +kernel
theorem dL_shown_15 : decode cL_shown 15 = .ok (.ireturn, 1) := by decide +kernel
theorem dL_shownAt_0 : decode cL_shownAt 0 = .ok (.aload_n 3, 1) := by decide +kernel
theorem dL_shownAt_1 : decode cL_shownAt 1 = .ok (.iconst 0, 1) := by decide +kernel
theorem dL_shownAt_2 : decode cL_shownAt 2 = .ok (.aload_n 0, 1) := by decide +kernel
theorem dL_shownAt_3 : decode cL_shownAt 3 = .ok (.iload_n 1, 1) := by decide +kernel
theorem dL_shownAt_4 : decode cL_shownAt 4 = .ok (.iload_n 2, 1) := by decide +kernel
theorem dL_shownAt_5 : decode cL_shownAt 5 = .ok (.invokevirtual 109, 3) := by decide +kernel
theorem dL_shownAt_8 : decode cL_shownAt 8 = .ok (.i2l, 1) := by decide +kernel
theorem dL_shownAt_9 : decode cL_shownAt 9 = .ok (.lastore, 1) := by decide +kernel
theorem dL_shownAt_10 : decode cL_shownAt 10 = .ok (.goto 11, 3) := by decide +kernel
theorem dL_shownAt_13 : decode cL_shownAt 13 = .ok (.astore 4, 2) := by decide +kernel
theorem dL_shownAt_15 : decode cL_shownAt 15 = .ok (.iconst 1, 1) := by decide +kernel
theorem dL_shownAt_16 : decode cL_shownAt 16 = .ok (.ireturn, 1) := by decide +kernel
theorem dL_shownAt_17 : decode cL_shownAt 17 = .ok (.astore 4, 2) := by decide +kernel
theorem dL_shownAt_19 : decode cL_shownAt 19 = .ok (.iconst 2, 1) := by decide +kernel
theorem dL_shownAt_20 : decode cL_shownAt 20 = .ok (.ireturn, 1) := by decide +kernel
theorem dL_shownAt_21 : decode cL_shownAt 21 = .ok (.iconst 0, 1) := by decide +kernel
theorem dL_shownAt_22 : decode cL_shownAt 22 = .ok (.ireturn, 1) := by decide +kernel
theorem dL_isClean_0 : decode cL_isClean 0 = .ok (.aload_n 1, 1) := by decide +kernel
theorem dL_isClean_1 : decode cL_isClean 1 = .ok (.iconst 0, 1) := by decide +kernel
theorem dL_isClean_2 : decode cL_isClean 2 = .ok (.aload_n 0, 1) := by decide +kernel
theorem dL_isClean_3 : decode cL_isClean 3 = .ok (.invokevirtual 112, 3) := by decide +kernel
theorem dL_isClean_6 : decode cL_isClean 6 = .ok (.ifCond .eq 7, 3) := by decide +kernel
theorem dL_isClean_9 : decode cL_isClean 9 = .ok (.lconst 1, 1) := by decide +kernel
theorem dL_isClean_10 : decode cL_isClean 10 = .ok (.goto 4, 3) := by decide +kernel
theorem dL_isClean_13 : decode cL_isClean 13 = .ok (.lconst 0, 1) := by decide +kernel
theorem dL_isClean_14 : decode cL_isClean 14 = .ok (.lastore, 1) := by decide +kernel
theorem dL_isClean_15 : decode cL_isClean 15 = .ok (.goto 6, 3) := by decide +kernel
theorem dL_isClean_18 : decode cL_isClean 18 = .ok (.astore_n 2, 1) := by decide +kernel
theorem dL_isClean_19 : decode cL_isClean 19 = .ok (.iconst 1, 1) := by decide +kernel
theorem dL_isClean_20 : decode cL_isClean 20 = .ok (.ireturn, 1) := by decide +kernel
theorem dL_isClean_21 : decode cL_isClean 21 = .ok (.iconst 0, 1) := by decide +kernel
theorem dL_isClean_22 : decode cL_isClean 22 = .ok (.ireturn, 1) := by decide +kernel
theorem dL_drift_0 : decode cL_drift 0 = .ok (.aload_n 1, 1) := by decide +kernel
theorem dL_drift_1 : decode cL_drift 1 = .ok (.iconst 0, 1) := by decide +kernel
theorem dL_drift_2 : decode cL_drift 2 = .ok (.aload_n 0, 1) := by decide +kernel
theorem dL_drift_3 : decode cL_drift 3 = .ok (.invokevirtual 116, 3) := by decide +kernel
theorem dL_drift_6 : decode cL_drift 6 = .ok (.i2l, 1) := by decide +kernel
theorem dL_drift_7 : decode cL_drift 7 = .ok (.lastore, 1) := by decide +kernel
theorem dL_drift_8 : decode cL_drift 8 = .ok (.goto 6, 3) := by decide +kernel
theorem dL_drift_11 : decode cL_drift 11 = .ok (.astore_n 2, 1) := by decide +kernel
theorem dL_drift_12 : decode cL_drift 12 = .ok (.iconst 1, 1) := by decide +kernel
theorem dL_drift_13 : decode cL_drift 13 = .ok (.ireturn, 1) := by decide +kernel
theorem dL_drift_14 : decode cL_drift 14 = .ok (.iconst 0, 1) := by decide +kernel
theorem dL_drift_15 : decode cL_drift 15 = .ok (.ireturn, 1) := by decide +kernel
theorem dL_meanBits_0 : decode cL_meanBits 0 = .ok (.aload_n 1, 1) := by decide +kernel
theorem dL_meanBits_1 : decode cL_meanBits 1 = .ok (.iconst 0, 1) := by decide +kernel
theorem dL_meanBits_2 : decode cL_meanBits 2 = .ok (.aload_n 0, 1) := by decide +kernel
theorem dL_meanBits_3 : decode cL_meanBits 3 = .ok (.invokevirtual 119, 3) := by decide +kernel
theorem dL_meanBits_6 : decode cL_meanBits 6 = .ok (.dastore, 1) := by decide +kernel
theorem dL_meanBits_7 : decode cL_meanBits 7 = .ok (.goto 6, 3) := by decide +kernel
theorem dL_meanBits_10 : decode cL_meanBits 10 = .ok (.astore_n 2, 1) := by decide +kernel
theorem dL_meanBits_11 : decode cL_meanBits 11 = .ok (.iconst 1, 1) := by decide +kernel
theorem dL_meanBits_12 : decode cL_meanBits 12 = .ok (.ireturn, 1) := by decide +kernel
theorem dL_meanBits_13 : decode cL_meanBits 13 = .ok (.iconst 0, 1) := by decide +kernel
theorem dL_meanBits_14 : decode cL_meanBits 14 = .ok (.ireturn, 1) := by decide +kernel
theorem dL_cleanShare_0 : decode cL_cleanShare 0 = .ok (.aload_n 1, 1) := by decide +kernel
theorem dL_cleanShare_1 : decode cL_cleanShare 1 = .ok (.iconst 0, 1) := by decide +kernel
theorem dL_cleanShare_2 : decode cL_cleanShare 2 = .ok (.aload_n 0, 1) := by decide +kernel
theorem dL_cleanShare_3 : decode cL_cleanShare 3 = .ok (.invokevirtual 125, 3) := by decide +kernel
theorem dL_cleanShare_6 : decode cL_cleanShare 6 = .ok (.f2d, 1) := by decide +kernel
theorem dL_cleanShare_7 : decode cL_cleanShare 7 = .ok (.dastore, 1) := by decide +kernel
theorem dL_cleanShare_8 : decode cL_cleanShare 8 = .ok (.goto 6, 3) := by decide +kernel
theorem dL_cleanShare_11 : decode cL_cleanShare 11 = .ok (.astore_n 2, 1) := by decide +kernel
theorem dL_cleanShare_12 : decode cL_cleanShare 12 = .ok (.iconst 1, 1) := by decide +kernel
theorem dL_cleanShare_13 : decode cL_cleanShare 13 = .ok (.ireturn, 1) := by decide +kernel
theorem dL_cleanShare_14 : decode cL_cleanShare 14 = .ok (.iconst 0, 1) := by decide +kernel
theorem dL_cleanShare_15 : decode cL_cleanShare 15 = .ok (.ireturn, 1) := by decide +kernel
theorem dL_law_0 : decode cL_law 0 = .ok (.new 8, 3) := by decide +kernel
theorem dL_law_3 : decode cL_law 3 = .ok (.dup, 1) := by decide +kernel
theorem dL_law_4 : decode cL_law 4 = .ok (.invokespecial 129, 3) := by decide +kernel
theorem dL_law_7 : decode cL_law 7 = .ok (.astore_n 1, 1) := by decide +kernel
theorem dL_law_8 : decode cL_law 8 = .ok (.new 130, 3) := by decide +kernel
theorem dL_law_11 : decode cL_law 11 = .ok (.dup, 1) := by decide +kernel
theorem dL_law_12 : decode cL_law 12 = .ok (.invokespecial 132, 3) := by decide +kernel
theorem dL_law_15 : decode cL_law 15 = .ok (.astore_n 2, 1) := by decide +kernel
theorem dL_law_16 : decode cL_law 16 = .ok (.iconst 1, 1) := by decide +kernel
theorem dL_law_17 : decode cL_law 17 = .ok (.newarray .long, 2) := by decide +kernel
theorem dL_law_19 : decode cL_law 19 = .ok (.astore_n 3, 1) := by decide +kernel
theorem dL_law_20 : decode cL_law 20 = .ok (.iconst 1, 1) := by decide +kernel
theorem dL_law_21 : decode cL_law 21 = .ok (.newarray .double, 2) := by decide +kernel
theorem dL_law_23 : decode cL_law 23 = .ok (.astore 4, 2) := by decide +kernel
theorem dL_law_25 : decode cL_law 25 = .ok (.iconst 0, 1) := by decide +kernel
theorem dL_law_26 : decode cL_law 26 = .ok (.istore 5, 2) := by decide +kernel
theorem dL_law_28 : decode cL_law 28 = .ok (.iload 5, 2) := by decide +kernel
theorem dL_law_30 : decode cL_law 30 = .ok (.aload_n 0, 1) := by decide +kernel
theorem dL_law_31 : decode cL_law 31 = .ok (.arraylength, 1) := by decide +kernel
theorem dL_law_32 : decode cL_law 32 = .ok (.bipush 6, 2) := by decide +kernel
theorem dL_law_34 : decode cL_law 34 = .ok (.isub, 1) := by decide +kernel
theorem dL_law_35 : decode cL_law 35 = .ok (.if_icmp .gt 2354, 3) := by decide +kernel
theorem dL_law_38 : decode cL_law 38 = .ok (.aload_n 0, 1) := by decide +kernel
theorem dL_law_39 : decode cL_law 39 = .ok (.iload 5, 2) := by decide +kernel
theorem dL_law_41 : decode cL_law 41 = .ok (.iaload, 1) := by decide +kernel
theorem dL_law_42 : decode cL_law 42 = .ok (.bipush 63, 2) := by decide +kernel
theorem dL_law_44 : decode cL_law 44 = .ok (.iand, 1) := by decide +kernel
theorem dL_law_45 : decode cL_law 45 = .ok (.tableswitch 2338 0 35 #[159, 263, 343, 411, 479, 547, 603, 659, 715, 756, 824, 906, 919, 932, 988, 1001, 1045, 1101, 1157, 1225, 1305, 1385, 1465, 1573, 1653, 1733, 1788, 1844, 1888, 1944, 2000, 2044, 2112, 2163, 2207, 2272], 159) := by decide +kernel
theorem dL_law_204 : decode cL_law 204 = .ok (.aload_n 1, 1) := by decide +kernel
theorem dL_law_205 : decode cL_law 205 = .ok (.aload_n 0, 1) := by decide +kernel
theorem dL_law_206 : decode cL_law 206 = .ok (.iload 5, 2) := by decide +kernel
theorem dL_law_208 : decode cL_law 208 = .ok (.iconst 1, 1) := by decide +kernel
theorem dL_law_209 : decode cL_law 209 = .ok (.iadd, 1) := by decide +kernel
theorem dL_law_210 : decode cL_law 210 = .ok (.iaload, 1) := by decide +kernel
theorem dL_law_211 : decode cL_law 211 = .ok (.aload_n 0, 1) := by decide +kernel
theorem dL_law_212 : decode cL_law 212 = .ok (.iload 5, 2) := by decide +kernel
theorem dL_law_214 : decode cL_law 214 = .ok (.iconst 2, 1) := by decide +kernel
theorem dL_law_215 : decode cL_law 215 = .ok (.iadd, 1) := by decide +kernel
theorem dL_law_216 : decode cL_law 216 = .ok (.iaload, 1) := by decide +kernel
theorem dL_law_217 : decode cL_law 217 = .ok (.aload_n 0, 1) := by decide +kernel
theorem dL_law_218 : decode cL_law 218 = .ok (.iload 5, 2) := by decide +kernel
theorem dL_law_220 : decode cL_law 220 = .ok (.iconst 3, 1) := by decide +kernel
theorem dL_law_221 : decode cL_law 221 = .ok (.iadd, 1) := by decide +kernel
theorem dL_law_222 : decode cL_law 222 = .ok (.iaload, 1) := by decide +kernel
theorem dL_law_223 : decode cL_law 223 = .ok (.aload_n 0, 1) := by decide +kernel
theorem dL_law_224 : decode cL_law 224 = .ok (.iload 5, 2) := by decide +kernel
theorem dL_law_226 : decode cL_law 226 = .ok (.iconst 4, 1) := by decide +kernel
theorem dL_law_227 : decode cL_law 227 = .ok (.iadd, 1) := by decide +kernel
theorem dL_law_228 : decode cL_law 228 = .ok (.iaload, 1) := by decide +kernel
theorem dL_law_229 : decode cL_law 229 = .ok (.aload_n 0, 1) := by decide +kernel
theorem dL_law_230 : decode cL_law 230 = .ok (.iload 5, 2) := by decide +kernel
theorem dL_law_232 : decode cL_law 232 = .ok (.iconst 5, 1) := by decide +kernel
theorem dL_law_233 : decode cL_law 233 = .ok (.iadd, 1) := by decide +kernel
theorem dL_law_234 : decode cL_law 234 = .ok (.iaload, 1) := by decide +kernel
theorem dL_law_235 : decode cL_law 235 = .ok (.aload_n 3, 1) := by decide +kernel
theorem dL_law_236 : decode cL_law 236 = .ok (.invokestatic 133, 3) := by decide +kernel
theorem dL_law_239 : decode cL_law 239 = .ok (.istore 6, 2) := by decide +kernel
theorem dL_law_241 : decode cL_law 241 = .ok (.aload_n 2, 1) := by decide +kernel
theorem dL_law_242 : decode cL_law 242 = .ok (.aload_n 0, 1) := by decide +kernel
theorem dL_law_243 : decode cL_law 243 = .ok (.iload 5, 2) := by decide +kernel
theorem dL_law_245 : decode cL_law 245 = .ok (.iconst 1, 1) := by decide +kernel
theorem dL_law_246 : decode cL_law 246 = .ok (.iadd, 1) := by decide +kernel
theorem dL_law_247 : decode cL_law 247 = .ok (.iaload, 1) := by decide +kernel
theorem dL_law_248 : decode cL_law 248 = .ok (.aload_n 0, 1) := by decide +kernel
theorem dL_law_249 : decode cL_law 249 = .ok (.iload 5, 2) := by decide +kernel
theorem dL_law_251 : decode cL_law 251 = .ok (.iconst 2, 1) := by decide +kernel
theorem dL_law_252 : decode cL_law 252 = .ok (.iadd, 1) := by decide +kernel
theorem dL_law_253 : decode cL_law 253 = .ok (.iaload, 1) := by decide +kernel
theorem dL_law_254 : decode cL_law 254 = .ok (.aload_n 0, 1) := by decide +kernel
theorem dL_law_255 : decode cL_law 255 = .ok (.iload 5, 2) := by decide +kernel
theorem dL_law_257 : decode cL_law 257 = .ok (.iconst 3, 1) := by decide +kernel
theorem dL_law_258 : decode cL_law 258 = .ok (.iadd, 1) := by decide +kernel
theorem dL_law_259 : decode cL_law 259 = .ok (.iaload, 1) := by decide +kernel
theorem dL_law_260 : decode cL_law 260 = .ok (.aload_n 0, 1) := by decide +kernel
theorem dL_law_261 : decode cL_law 261 = .ok (.iload 5, 2) := by decide +kernel
theorem dL_law_263 : decode cL_law 263 = .ok (.iconst 4, 1) := by decide +kernel
theorem dL_law_264 : decode cL_law 264 = .ok (.iadd, 1) := by decide +kernel
theorem dL_law_265 : decode cL_law 265 = .ok (.iaload, 1) := by decide +kernel
theorem dL_law_266 : decode cL_law 266 = .ok (.aload_n 0, 1) := by decide +kernel
theorem dL_law_267 : decode cL_law 267 = .ok (.iload 5, 2) := by decide +kernel
theorem dL_law_269 : decode cL_law 269 = .ok (.iconst 5, 1) := by decide +kernel
theorem dL_law_270 : decode cL_law 270 = .ok (.iadd, 1) := by decide +kernel
theorem dL_law_271 : decode cL_law 271 = .ok (.iaload, 1) := by decide +kernel
theorem dL_law_272 : decode cL_law 272 = .ok (.invokevirtual 138, 3) := by decide +kernel
theorem dL_law_275 : decode cL_law 275 = .ok (.istore 7, 2) := by decide +kernel
theorem dL_law_277 : decode cL_law 277 = .ok (.aload_n 2, 1) := by decide +kernel
theorem dL_law_278 : decode cL_law 278 = .ok (.invokevirtual 139, 3) := by decide +kernel
theorem dL_law_281 : decode cL_law 281 = .ok (.iload 6, 2) := by decide +kernel
theorem dL_law_283 : decode cL_law 283 = .ok (.if_icmp .eq 5, 3) := by decide +kernel
theorem dL_law_286 : decode cL_law 286 = .ok (.iconst 0, 1) := by decide +kernel
theorem dL_law_287 : decode cL_law 287 = .ok (.ireturn, 1) := by decide +kernel
theorem dL_law_288 : decode cL_law 288 = .ok (.iload 6, 2) := by decide +kernel
theorem dL_law_290 : decode cL_law 290 = .ok (.ifCond .ne 15, 3) := by decide +kernel
theorem dL_law_293 : decode cL_law 293 = .ok (.aload_n 3, 1) := by decide +kernel
theorem dL_law_294 : decode cL_law 294 = .ok (.iconst 0, 1) := by decide +kernel
theorem dL_law_295 : decode cL_law 295 = .ok (.laload, 1) := by decide +kernel
theorem dL_law_296 : decode cL_law 296 = .ok (.iload 7, 2) := by decide +kernel
theorem dL_law_298 : decode cL_law 298 = .ok (.i2l, 1) := by decide +kernel
theorem dL_law_299 : decode cL_law 299 = .ok (.lcmp, 1) := by decide +kernel
theorem dL_law_300 : decode cL_law 300 = .ok (.ifCond .eq 5, 3) := by decide +kernel
theorem dL_law_303 : decode cL_law 303 = .ok (.iconst 0, 1) := by decide +kernel
theorem dL_law_304 : decode cL_law 304 = .ok (.ireturn, 1) := by decide +kernel
theorem dL_law_305 : decode cL_law 305 = .ok (.goto 2078, 3) := by decide +kernel
theorem dL_law_308 : decode cL_law 308 = .ok (.aload_n 1, 1) := by decide +kernel
theorem dL_law_309 : decode cL_law 309 = .ok (.aload_n 0, 1) := by decide +kernel
theorem dL_law_310 : decode cL_law 310 = .ok (.iload 5, 2) := by decide +kernel
theorem dL_law_312 : decode cL_law 312 = .ok (.iconst 1, 1) := by decide +kernel
theorem dL_law_313 : decode cL_law 313 = .ok (.iadd, 1) := by decide +kernel
theorem dL_law_314 : decode cL_law 314 = .ok (.iaload, 1) := by decide +kernel
theorem dL_law_315 : decode cL_law 315 = .ok (.aload_n 0, 1) := by decide +kernel
theorem dL_law_316 : decode cL_law 316 = .ok (.iload 5, 2) := by decide +kernel
theorem dL_law_318 : decode cL_law 318 = .ok (.iconst 2, 1) := by decide +kernel
theorem dL_law_319 : decode cL_law 319 = .ok (.iadd, 1) := by decide +kernel
theorem dL_law_320 : decode cL_law 320 = .ok (.iaload, 1) := by decide +kernel
theorem dL_law_321 : decode cL_law 321 = .ok (.aload_n 0, 1) := by decide +kernel
theorem dL_law_322 : decode cL_law 322 = .ok (.iload 5, 2) := by decide +kernel
theorem dL_law_324 : decode cL_law 324 = .ok (.iconst 3, 1) := by decide +kernel
theorem dL_law_325 : decode cL_law 325 = .ok (.iadd, 1) := by decide +kernel
theorem dL_law_326 : decode cL_law 326 = .ok (.iaload, 1) := by decide +kernel
theorem dL_law_327 : decode cL_law 327 = .ok (.aload_n 3, 1) := by decide +kernel
theorem dL_law_328 : decode cL_law 328 = .ok (.invokestatic 142, 3) := by decide +kernel
theorem dL_law_331 : decode cL_law 331 = .ok (.istore 6, 2) := by decide +kernel
theorem dL_law_333 : decode cL_law 333 = .ok (.aload_n 2, 1) := by decide +kernel
theorem dL_law_334 : decode cL_law 334 = .ok (.aload_n 0, 1) := by decide +kernel
theorem dL_law_335 : decode cL_law 335 = .ok (.iload 5, 2) := by decide +kernel
theorem dL_law_337 : decode cL_law 337 = .ok (.iconst 1, 1) := by decide +kernel
theorem dL_law_338 : decode cL_law 338 = .ok (.iadd, 1) := by decide +kernel
theorem dL_law_339 : decode cL_law 339 = .ok (.iaload, 1) := by decide +kernel
theorem dL_law_340 : decode cL_law 340 = .ok (.aload_n 0, 1) := by decide +kernel
theorem dL_law_341 : decode cL_law 341 = .ok (.iload 5, 2) := by decide +kernel
theorem dL_law_343 : decode cL_law 343 = .ok (.iconst 2, 1) := by decide +kernel
theorem dL_law_344 : decode cL_law 344 = .ok (.iadd, 1) := by decide +kernel
theorem dL_law_345 : decode cL_law 345 = .ok (.iaload, 1) := by decide +kernel
theorem dL_law_346 : decode cL_law 346 = .ok (.aload_n 0, 1) := by decide +kernel
theorem dL_law_347 : decode cL_law 347 = .ok (.iload 5, 2) := by decide +kernel
theorem dL_law_349 : decode cL_law 349 = .ok (.iconst 3, 1) := by decide +kernel
theorem dL_law_350 : decode cL_law 350 = .ok (.iadd, 1) := by decide +kernel
theorem dL_law_351 : decode cL_law 351 = .ok (.iaload, 1) := by decide +kernel
theorem dL_law_352 : decode cL_law 352 = .ok (.invokevirtual 145, 3) := by decide +kernel
theorem dL_law_355 : decode cL_law 355 = .ok (.istore 7, 2) := by decide +kernel
theorem dL_law_357 : decode cL_law 357 = .ok (.aload_n 2, 1) := by decide +kernel
theorem dL_law_358 : decode cL_law 358 = .ok (.invokevirtual 139, 3) := by decide +kernel
theorem dL_law_361 : decode cL_law 361 = .ok (.iload 6, 2) := by decide +kernel
theorem dL_law_363 : decode cL_law 363 = .ok (.if_icmp .eq 5, 3) := by decide +kernel
theorem dL_law_366 : decode cL_law 366 = .ok (.iconst 0, 1) := by decide +kernel
theorem dL_law_367 : decode cL_law 367 = .ok (.ireturn, 1) := by decide +kernel
theorem dL_law_368 : decode cL_law 368 = .ok (.iload 6, 2) := by decide +kernel
theorem dL_law_370 : decode cL_law 370 = .ok (.ifCond .ne 15, 3) := by decide +kernel
theorem dL_law_373 : decode cL_law 373 = .ok (.aload_n 3, 1) := by decide +kernel
theorem dL_law_374 : decode cL_law 374 = .ok (.iconst 0, 1) := by decide +kernel
theorem dL_law_375 : decode cL_law 375 = .ok (.laload, 1) := by decide +kernel
theorem dL_law_376 : decode cL_law 376 = .ok (.iload 7, 2) := by decide +kernel
theorem dL_law_378 : decode cL_law 378 = .ok (.i2l, 1) := by decide +kernel
theorem dL_law_379 : decode cL_law 379 = .ok (.lcmp, 1) := by decide +kernel
theorem dL_law_380 : decode cL_law 380 = .ok (.ifCond .eq 5, 3) := by decide +kernel
theorem dL_law_383 : decode cL_law 383 = .ok (.iconst 0, 1) := by decide +kernel
theorem dL_law_384 : decode cL_law 384 = .ok (.ireturn, 1) := by decide +kernel
theorem dL_law_385 : decode cL_law 385 = .ok (.goto 1998, 3) := by decide +kernel
theorem dL_law_388 : decode cL_law 388 = .ok (.aload_n 1, 1) := by decide +kernel
theorem dL_law_389 : decode cL_law 389 = .ok (.aload_n 0, 1) := by decide +kernel
theorem dL_law_390 : decode cL_law 390 = .ok (.iload 5, 2) := by decide +kernel
theorem dL_law_392 : decode cL_law 392 = .ok (.iconst 1, 1) := by decide +kernel
theorem dL_law_393 : decode cL_law 393 = .ok (.iadd, 1) := by decide +kernel
theorem dL_law_394 : decode cL_law 394 = .ok (.iaload, 1) := by decide +kernel
theorem dL_law_395 : decode cL_law 395 = .ok (.aload_n 0, 1) := by decide +kernel
theorem dL_law_396 : decode cL_law 396 = .ok (.iload 5, 2) := by decide +kernel
theorem dL_law_398 : decode cL_law 398 = .ok (.iconst 2, 1) := by decide +kernel
theorem dL_law_399 : decode cL_law 399 = .ok (.iadd, 1) := by decide +kernel
theorem dL_law_400 : decode cL_law 400 = .ok (.iaload, 1) := by decide +kernel
theorem dL_law_401 : decode cL_law 401 = .ok (.aload_n 3, 1) := by decide +kernel
theorem dL_law_402 : decode cL_law 402 = .ok (.invokestatic 146, 3) := by decide +kernel
theorem dL_law_405 : decode cL_law 405 = .ok (.istore 6, 2) := by decide +kernel
theorem dL_law_407 : decode cL_law 407 = .ok (.aload_n 2, 1) := by decide +kernel
theorem dL_law_408 : decode cL_law 408 = .ok (.aload_n 0, 1) := by decide +kernel
theorem dL_law_409 : decode cL_law 409 = .ok (.iload 5, 2) := by decide +kernel
theorem dL_law_411 : decode cL_law 411 = .ok (.iconst 1, 1) := by decide +kernel
theorem dL_law_412 : decode cL_law 412 = .ok (.iadd, 1) := by decide +kernel
theorem dL_law_413 : decode cL_law 413 = .ok (.iaload, 1) := by decide +kernel
theorem dL_law_414 : decode cL_law 414 = .ok (.aload_n 0, 1) := by decide +kernel
theorem dL_law_415 : decode cL_law 415 = .ok (.iload 5, 2) := by decide +kernel
theorem dL_law_417 : decode cL_law 417 = .ok (.iconst 2, 1) := by decide +kernel
theorem dL_law_418 : decode cL_law 418 = .ok (.iadd, 1) := by decide +kernel
theorem dL_law_419 : decode cL_law 419 = .ok (.iaload, 1) := by decide +kernel
theorem dL_law_420 : decode cL_law 420 = .ok (.invokevirtual 149, 3) := by decide +kernel
theorem dL_law_423 : decode cL_law 423 = .ok (.istore 7, 2) := by decide +kernel
theorem dL_law_425 : decode cL_law 425 = .ok (.aload_n 2, 1) := by decide +kernel
theorem dL_law_426 : decode cL_law 426 = .ok (.invokevirtual 139, 3) := by decide +kernel
theorem dL_law_429 : decode cL_law 429 = .ok (.iload 6, 2) := by decide +kernel
theorem dL_law_431 : decode cL_law 431 = .ok (.if_icmp .eq 5, 3) := by decide +kernel
theorem dL_law_434 : decode cL_law 434 = .ok (.iconst 0, 1) := by decide +kernel
theorem dL_law_435 : decode cL_law 435 = .ok (.ireturn, 1) := by decide +kernel
theorem dL_law_436 : decode cL_law 436 = .ok (.iload 6, 2) := by decide +kernel
theorem dL_law_438 : decode cL_law 438 = .ok (.ifCond .ne 15, 3) := by decide +kernel
theorem dL_law_441 : decode cL_law 441 = .ok (.aload_n 3, 1) := by decide +kernel
theorem dL_law_442 : decode cL_law 442 = .ok (.iconst 0, 1) := by decide +kernel
theorem dL_law_443 : decode cL_law 443 = .ok (.laload, 1) := by decide +kernel
theorem dL_law_444 : decode cL_law 444 = .ok (.iload 7, 2) := by decide +kernel
theorem dL_law_446 : decode cL_law 446 = .ok (.i2l, 1) := by decide +kernel
theorem dL_law_447 : decode cL_law 447 = .ok (.lcmp, 1) := by decide +kernel
theorem dL_law_448 : decode cL_law 448 = .ok (.ifCond .eq 5, 3) := by decide +kernel
theorem dL_law_451 : decode cL_law 451 = .ok (.iconst 0, 1) := by decide +kernel
theorem dL_law_452 : decode cL_law 452 = .ok (.ireturn, 1) := by decide +kernel
theorem dL_law_453 : decode cL_law 453 = .ok (.goto 1930, 3) := by decide +kernel
theorem dL_law_456 : decode cL_law 456 = .ok (.aload_n 1, 1) := by decide +kernel
theorem dL_law_457 : decode cL_law 457 = .ok (.aload_n 0, 1) := by decide +kernel
theorem dL_law_458 : decode cL_law 458 = .ok (.iload 5, 2) := by decide +kernel
theorem dL_law_460 : decode cL_law 460 = .ok (.iconst 1, 1) := by decide +kernel
theorem dL_law_461 : decode cL_law 461 = .ok (.iadd, 1) := by decide +kernel
theorem dL_law_462 : decode cL_law 462 = .ok (.iaload, 1) := by decide +kernel
theorem dL_law_463 : decode cL_law 463 = .ok (.aload_n 0, 1) := by decide +kernel
theorem dL_law_464 : decode cL_law 464 = .ok (.iload 5, 2) := by decide +kernel
theorem dL_law_466 : decode cL_law 466 = .ok (.iconst 2, 1) := by decide +kernel
theorem dL_law_467 : decode cL_law 467 = .ok (.iadd, 1) := by decide +kernel
theorem dL_law_468 : decode cL_law 468 = .ok (.iaload, 1) := by decide +kernel
theorem dL_law_469 : decode cL_law 469 = .ok (.aload_n 3, 1) := by decide +kernel
theorem dL_law_470 : decode cL_law 470 = .ok (.invokestatic 150, 3) := by decide +kernel
theorem dL_law_473 : decode cL_law 473 = .ok (.istore 6, 2) := by decide +kernel
theorem dL_law_475 : decode cL_law 475 = .ok (.aload_n 2, 1) := by decide +kernel
theorem dL_law_476 : decode cL_law 476 = .ok (.aload_n 0, 1) := by decide +kernel
theorem dL_law_477 : decode cL_law 477 = .ok (.iload 5, 2) := by decide +kernel
theorem dL_law_479 : decode cL_law 479 = .ok (.iconst 1, 1) := by decide +kernel
theorem dL_law_480 : decode cL_law 480 = .ok (.iadd, 1) := by decide +kernel
theorem dL_law_481 : decode cL_law 481 = .ok (.iaload, 1) := by decide +kernel
theorem dL_law_482 : decode cL_law 482 = .ok (.aload_n 0, 1) := by decide +kernel
theorem dL_law_483 : decode cL_law 483 = .ok (.iload 5, 2) := by decide +kernel
theorem dL_law_485 : decode cL_law 485 = .ok (.iconst 2, 1) := by decide +kernel
theorem dL_law_486 : decode cL_law 486 = .ok (.iadd, 1) := by decide +kernel
theorem dL_law_487 : decode cL_law 487 = .ok (.iaload, 1) := by decide +kernel
theorem dL_law_488 : decode cL_law 488 = .ok (.invokevirtual 152, 3) := by decide +kernel
theorem dL_law_491 : decode cL_law 491 = .ok (.istore 7, 2) := by decide +kernel
theorem dL_law_493 : decode cL_law 493 = .ok (.aload_n 2, 1) := by decide +kernel
theorem dL_law_494 : decode cL_law 494 = .ok (.invokevirtual 139, 3) := by decide +kernel
theorem dL_law_497 : decode cL_law 497 = .ok (.iload 6, 2) := by decide +kernel
theorem dL_law_499 : decode cL_law 499 = .ok (.if_icmp .eq 5, 3) := by decide +kernel
theorem dL_law_502 : decode cL_law 502 = .ok (.iconst 0, 1) := by decide +kernel
theorem dL_law_503 : decode cL_law 503 = .ok (.ireturn, 1) := by decide +kernel
theorem dL_law_504 : decode cL_law 504 = .ok (.iload 6, 2) := by decide +kernel
theorem dL_law_506 : decode cL_law 506 = .ok (.ifCond .ne 15, 3) := by decide +kernel
theorem dL_law_509 : decode cL_law 509 = .ok (.aload_n 3, 1) := by decide +kernel
theorem dL_law_510 : decode cL_law 510 = .ok (.iconst 0, 1) := by decide +kernel
theorem dL_law_511 : decode cL_law 511 = .ok (.laload, 1) := by decide +kernel
theorem dL_law_512 : decode cL_law 512 = .ok (.iload 7, 2) := by decide +kernel
theorem dL_law_514 : decode cL_law 514 = .ok (.i2l, 1) := by decide +kernel
theorem dL_law_515 : decode cL_law 515 = .ok (.lcmp, 1) := by decide +kernel
theorem dL_law_516 : decode cL_law 516 = .ok (.ifCond .eq 5, 3) := by decide +kernel
theorem dL_law_519 : decode cL_law 519 = .ok (.iconst 0, 1) := by decide +kernel
theorem dL_law_520 : decode cL_law 520 = .ok (.ireturn, 1) := by decide +kernel
theorem dL_law_521 : decode cL_law 521 = .ok (.goto 1862, 3) := by decide +kernel
theorem dL_law_524 : decode cL_law 524 = .ok (.aload_n 1, 1) := by decide +kernel
theorem dL_law_525 : decode cL_law 525 = .ok (.aload_n 0, 1) := by decide +kernel
theorem dL_law_526 : decode cL_law 526 = .ok (.iload 5, 2) := by decide +kernel
theorem dL_law_528 : decode cL_law 528 = .ok (.iconst 1, 1) := by decide +kernel
theorem dL_law_529 : decode cL_law 529 = .ok (.iadd, 1) := by decide +kernel
theorem dL_law_530 : decode cL_law 530 = .ok (.iaload, 1) := by decide +kernel
theorem dL_law_531 : decode cL_law 531 = .ok (.aload_n 0, 1) := by decide +kernel
theorem dL_law_532 : decode cL_law 532 = .ok (.iload 5, 2) := by decide +kernel
theorem dL_law_534 : decode cL_law 534 = .ok (.iconst 2, 1) := by decide +kernel
theorem dL_law_535 : decode cL_law 535 = .ok (.iadd, 1) := by decide +kernel
theorem dL_law_536 : decode cL_law 536 = .ok (.iaload, 1) := by decide +kernel
theorem dL_law_537 : decode cL_law 537 = .ok (.aload_n 3, 1) := by decide +kernel
theorem dL_law_538 : decode cL_law 538 = .ok (.invokestatic 153, 3) := by decide +kernel
theorem dL_law_541 : decode cL_law 541 = .ok (.istore 6, 2) := by decide +kernel
theorem dL_law_543 : decode cL_law 543 = .ok (.aload_n 2, 1) := by decide +kernel
theorem dL_law_544 : decode cL_law 544 = .ok (.aload_n 0, 1) := by decide +kernel
theorem dL_law_545 : decode cL_law 545 = .ok (.iload 5, 2) := by decide +kernel
theorem dL_law_547 : decode cL_law 547 = .ok (.iconst 1, 1) := by decide +kernel
theorem dL_law_548 : decode cL_law 548 = .ok (.iadd, 1) := by decide +kernel
theorem dL_law_549 : decode cL_law 549 = .ok (.iaload, 1) := by decide +kernel
theorem dL_law_550 : decode cL_law 550 = .ok (.aload_n 0, 1) := by decide +kernel
theorem dL_law_551 : decode cL_law 551 = .ok (.iload 5, 2) := by decide +kernel
theorem dL_law_553 : decode cL_law 553 = .ok (.iconst 2, 1) := by decide +kernel
theorem dL_law_554 : decode cL_law 554 = .ok (.iadd, 1) := by decide +kernel
theorem dL_law_555 : decode cL_law 555 = .ok (.iaload, 1) := by decide +kernel
theorem dL_law_556 : decode cL_law 556 = .ok (.invokevirtual 155, 3) := by decide +kernel
theorem dL_law_559 : decode cL_law 559 = .ok (.istore 7, 2) := by decide +kernel
theorem dL_law_561 : decode cL_law 561 = .ok (.aload_n 2, 1) := by decide +kernel
theorem dL_law_562 : decode cL_law 562 = .ok (.invokevirtual 139, 3) := by decide +kernel
theorem dL_law_565 : decode cL_law 565 = .ok (.iload 6, 2) := by decide +kernel
theorem dL_law_567 : decode cL_law 567 = .ok (.if_icmp .eq 5, 3) := by decide +kernel
theorem dL_law_570 : decode cL_law 570 = .ok (.iconst 0, 1) := by decide +kernel
theorem dL_law_571 : decode cL_law 571 = .ok (.ireturn, 1) := by decide +kernel
theorem dL_law_572 : decode cL_law 572 = .ok (.iload 6, 2) := by decide +kernel
theorem dL_law_574 : decode cL_law 574 = .ok (.ifCond .ne 15, 3) := by decide +kernel
theorem dL_law_577 : decode cL_law 577 = .ok (.aload_n 3, 1) := by decide +kernel
theorem dL_law_578 : decode cL_law 578 = .ok (.iconst 0, 1) := by decide +kernel
theorem dL_law_579 : decode cL_law 579 = .ok (.laload, 1) := by decide +kernel
theorem dL_law_580 : decode cL_law 580 = .ok (.iload 7, 2) := by decide +kernel
theorem dL_law_582 : decode cL_law 582 = .ok (.i2l, 1) := by decide +kernel
theorem dL_law_583 : decode cL_law 583 = .ok (.lcmp, 1) := by decide +kernel
theorem dL_law_584 : decode cL_law 584 = .ok (.ifCond .eq 5, 3) := by decide +kernel
theorem dL_law_587 : decode cL_law 587 = .ok (.iconst 0, 1) := by decide +kernel
theorem dL_law_588 : decode cL_law 588 = .ok (.ireturn, 1) := by decide +kernel
theorem dL_law_589 : decode cL_law 589 = .ok (.goto 1794, 3) := by decide +kernel
theorem dL_law_592 : decode cL_law 592 = .ok (.aload_n 1, 1) := by decide +kernel
theorem dL_law_593 : decode cL_law 593 = .ok (.aload_n 0, 1) := by decide +kernel
theorem dL_law_594 : decode cL_law 594 = .ok (.iload 5, 2) := by decide +kernel
theorem dL_law_596 : decode cL_law 596 = .ok (.iconst 1, 1) := by decide +kernel
theorem dL_law_597 : decode cL_law 597 = .ok (.iadd, 1) := by decide +kernel
theorem dL_law_598 : decode cL_law 598 = .ok (.iaload, 1) := by decide +kernel
theorem dL_law_599 : decode cL_law 599 = .ok (.aload_n 3, 1) := by decide +kernel
theorem dL_law_600 : decode cL_law 600 = .ok (.invokestatic 156, 3) := by decide +kernel
theorem dL_law_603 : decode cL_law 603 = .ok (.istore 6, 2) := by decide +kernel
theorem dL_law_605 : decode cL_law 605 = .ok (.aload_n 2, 1) := by decide +kernel
theorem dL_law_606 : decode cL_law 606 = .ok (.aload_n 0, 1) := by decide +kernel
theorem dL_law_607 : decode cL_law 607 = .ok (.iload 5, 2) := by decide +kernel
theorem dL_law_609 : decode cL_law 609 = .ok (.iconst 1, 1) := by decide +kernel
theorem dL_law_610 : decode cL_law 610 = .ok (.iadd, 1) := by decide +kernel
theorem dL_law_611 : decode cL_law 611 = .ok (.iaload, 1) := by decide +kernel
theorem dL_law_612 : decode cL_law 612 = .ok (.invokevirtual 159, 3) := by decide +kernel
theorem dL_law_615 : decode cL_law 615 = .ok (.istore 7, 2) := by decide +kernel
theorem dL_law_617 : decode cL_law 617 = .ok (.aload_n 2, 1) := by decide +kernel
theorem dL_law_618 : decode cL_law 618 = .ok (.invokevirtual 139, 3) := by decide +kernel
theorem dL_law_621 : decode cL_law 621 = .ok (.iload 6, 2) := by decide +kernel
theorem dL_law_623 : decode cL_law 623 = .ok (.if_icmp .eq 5, 3) := by decide +kernel
theorem dL_law_626 : decode cL_law 626 = .ok (.iconst 0, 1) := by decide +kernel
theorem dL_law_627 : decode cL_law 627 = .ok (.ireturn, 1) := by decide +kernel
theorem dL_law_628 : decode cL_law 628 = .ok (.iload 6, 2) := by decide +kernel
theorem dL_law_630 : decode cL_law 630 = .ok (.ifCond .ne 15, 3) := by decide +kernel
theorem dL_law_633 : decode cL_law 633 = .ok (.aload_n 3, 1) := by decide +kernel
theorem dL_law_634 : decode cL_law 634 = .ok (.iconst 0, 1) := by decide +kernel
theorem dL_law_635 : decode cL_law 635 = .ok (.laload, 1) := by decide +kernel
theorem dL_law_636 : decode cL_law 636 = .ok (.iload 7, 2) := by decide +kernel
theorem dL_law_638 : decode cL_law 638 = .ok (.i2l, 1) := by decide +kernel
theorem dL_law_639 : decode cL_law 639 = .ok (.lcmp, 1) := by decide +kernel
theorem dL_law_640 : decode cL_law 640 = .ok (.ifCond .eq 5, 3) := by decide +kernel
theorem dL_law_643 : decode cL_law 643 = .ok (.iconst 0, 1) := by decide +kernel
theorem dL_law_644 : decode cL_law 644 = .ok (.ireturn, 1) := by decide +kernel
theorem dL_law_645 : decode cL_law 645 = .ok (.goto 1738, 3) := by decide +kernel
theorem dL_law_648 : decode cL_law 648 = .ok (.aload_n 1, 1) := by decide +kernel
theorem dL_law_649 : decode cL_law 649 = .ok (.aload_n 0, 1) := by decide +kernel
theorem dL_law_650 : decode cL_law 650 = .ok (.iload 5, 2) := by decide +kernel
theorem dL_law_652 : decode cL_law 652 = .ok (.iconst 1, 1) := by decide +kernel
theorem dL_law_653 : decode cL_law 653 = .ok (.iadd, 1) := by decide +kernel
theorem dL_law_654 : decode cL_law 654 = .ok (.iaload, 1) := by decide +kernel
theorem dL_law_655 : decode cL_law 655 = .ok (.aload_n 3, 1) := by decide +kernel
theorem dL_law_656 : decode cL_law 656 = .ok (.invokestatic 160, 3) := by decide +kernel
theorem dL_law_659 : decode cL_law 659 = .ok (.istore 6, 2) := by decide +kernel
theorem dL_law_661 : decode cL_law 661 = .ok (.aload_n 2, 1) := by decide +kernel
theorem dL_law_662 : decode cL_law 662 = .ok (.aload_n 0, 1) := by decide +kernel
theorem dL_law_663 : decode cL_law 663 = .ok (.iload 5, 2) := by decide +kernel
theorem dL_law_665 : decode cL_law 665 = .ok (.iconst 1, 1) := by decide +kernel
theorem dL_law_666 : decode cL_law 666 = .ok (.iadd, 1) := by decide +kernel
theorem dL_law_667 : decode cL_law 667 = .ok (.iaload, 1) := by decide +kernel
theorem dL_law_668 : decode cL_law 668 = .ok (.invokevirtual 162, 3) := by decide +kernel
theorem dL_law_671 : decode cL_law 671 = .ok (.istore 7, 2) := by decide +kernel
theorem dL_law_673 : decode cL_law 673 = .ok (.aload_n 2, 1) := by decide +kernel
theorem dL_law_674 : decode cL_law 674 = .ok (.invokevirtual 139, 3) := by decide +kernel
theorem dL_law_677 : decode cL_law 677 = .ok (.iload 6, 2) := by decide +kernel
theorem dL_law_679 : decode cL_law 679 = .ok (.if_icmp .eq 5, 3) := by decide +kernel
theorem dL_law_682 : decode cL_law 682 = .ok (.iconst 0, 1) := by decide +kernel
theorem dL_law_683 : decode cL_law 683 = .ok (.ireturn, 1) := by decide +kernel
theorem dL_law_684 : decode cL_law 684 = .ok (.iload 6, 2) := by decide +kernel
theorem dL_law_686 : decode cL_law 686 = .ok (.ifCond .ne 15, 3) := by decide +kernel
theorem dL_law_689 : decode cL_law 689 = .ok (.aload_n 3, 1) := by decide +kernel
theorem dL_law_690 : decode cL_law 690 = .ok (.iconst 0, 1) := by decide +kernel
theorem dL_law_691 : decode cL_law 691 = .ok (.laload, 1) := by decide +kernel
theorem dL_law_692 : decode cL_law 692 = .ok (.iload 7, 2) := by decide +kernel
theorem dL_law_694 : decode cL_law 694 = .ok (.i2l, 1) := by decide +kernel
theorem dL_law_695 : decode cL_law 695 = .ok (.lcmp, 1) := by decide +kernel
theorem dL_law_696 : decode cL_law 696 = .ok (.ifCond .eq 5, 3) := by decide +kernel
theorem dL_law_699 : decode cL_law 699 = .ok (.iconst 0, 1) := by decide +kernel
theorem dL_law_700 : decode cL_law 700 = .ok (.ireturn, 1) := by decide +kernel
theorem dL_law_701 : decode cL_law 701 = .ok (.goto 1682, 3) := by decide +kernel
theorem dL_law_704 : decode cL_law 704 = .ok (.aload_n 1, 1) := by decide +kernel
theorem dL_law_705 : decode cL_law 705 = .ok (.aload_n 0, 1) := by decide +kernel
theorem dL_law_706 : decode cL_law 706 = .ok (.iload 5, 2) := by decide +kernel
theorem dL_law_708 : decode cL_law 708 = .ok (.iconst 1, 1) := by decide +kernel
theorem dL_law_709 : decode cL_law 709 = .ok (.iadd, 1) := by decide +kernel
theorem dL_law_710 : decode cL_law 710 = .ok (.iaload, 1) := by decide +kernel
theorem dL_law_711 : decode cL_law 711 = .ok (.aload_n 3, 1) := by decide +kernel
theorem dL_law_712 : decode cL_law 712 = .ok (.invokestatic 163, 3) := by decide +kernel
theorem dL_law_715 : decode cL_law 715 = .ok (.istore 6, 2) := by decide +kernel
theorem dL_law_717 : decode cL_law 717 = .ok (.aload_n 2, 1) := by decide +kernel
theorem dL_law_718 : decode cL_law 718 = .ok (.aload_n 0, 1) := by decide +kernel
theorem dL_law_719 : decode cL_law 719 = .ok (.iload 5, 2) := by decide +kernel
theorem dL_law_721 : decode cL_law 721 = .ok (.iconst 1, 1) := by decide +kernel
theorem dL_law_722 : decode cL_law 722 = .ok (.iadd, 1) := by decide +kernel
theorem dL_law_723 : decode cL_law 723 = .ok (.iaload, 1) := by decide +kernel
theorem dL_law_724 : decode cL_law 724 = .ok (.invokevirtual 165, 3) := by decide +kernel
theorem dL_law_727 : decode cL_law 727 = .ok (.istore 7, 2) := by decide +kernel
theorem dL_law_729 : decode cL_law 729 = .ok (.aload_n 2, 1) := by decide +kernel
theorem dL_law_730 : decode cL_law 730 = .ok (.invokevirtual 139, 3) := by decide +kernel
theorem dL_law_733 : decode cL_law 733 = .ok (.iload 6, 2) := by decide +kernel
theorem dL_law_735 : decode cL_law 735 = .ok (.if_icmp .eq 5, 3) := by decide +kernel
theorem dL_law_738 : decode cL_law 738 = .ok (.iconst 0, 1) := by decide +kernel
theorem dL_law_739 : decode cL_law 739 = .ok (.ireturn, 1) := by decide +kernel
theorem dL_law_740 : decode cL_law 740 = .ok (.iload 6, 2) := by decide +kernel
theorem dL_law_742 : decode cL_law 742 = .ok (.ifCond .ne 15, 3) := by decide +kernel
theorem dL_law_745 : decode cL_law 745 = .ok (.aload_n 3, 1) := by decide +kernel
theorem dL_law_746 : decode cL_law 746 = .ok (.iconst 0, 1) := by decide +kernel
theorem dL_law_747 : decode cL_law 747 = .ok (.laload, 1) := by decide +kernel
theorem dL_law_748 : decode cL_law 748 = .ok (.iload 7, 2) := by decide +kernel
theorem dL_law_750 : decode cL_law 750 = .ok (.i2l, 1) := by decide +kernel
theorem dL_law_751 : decode cL_law 751 = .ok (.lcmp, 1) := by decide +kernel
theorem dL_law_752 : decode cL_law 752 = .ok (.ifCond .eq 5, 3) := by decide +kernel
theorem dL_law_755 : decode cL_law 755 = .ok (.iconst 0, 1) := by decide +kernel
theorem dL_law_756 : decode cL_law 756 = .ok (.ireturn, 1) := by decide +kernel
theorem dL_law_757 : decode cL_law 757 = .ok (.goto 1626, 3) := by decide +kernel
theorem dL_law_760 : decode cL_law 760 = .ok (.aload_n 1, 1) := by decide +kernel
theorem dL_law_761 : decode cL_law 761 = .ok (.aload_n 0, 1) := by decide +kernel
theorem dL_law_762 : decode cL_law 762 = .ok (.iload 5, 2) := by decide +kernel
theorem dL_law_764 : decode cL_law 764 = .ok (.iconst 1, 1) := by decide +kernel
theorem dL_law_765 : decode cL_law 765 = .ok (.iadd, 1) := by decide +kernel
theorem dL_law_766 : decode cL_law 766 = .ok (.iaload, 1) := by decide +kernel
theorem dL_law_767 : decode cL_law 767 = .ok (.ifCond .eq 7, 3) := by decide +kernel
theorem dL_law_770 : decode cL_law 770 = .ok (.iconst 1, 1) := by decide +kernel
theorem dL_law_771 : decode cL_law 771 = .ok (.goto 4, 3) := by decide +kernel
theorem dL_law_774 : decode cL_law 774 = .ok (.iconst 0, 1) := by decide +kernel
theorem dL_law_775 : decode cL_law 775 = .ok (.invokevirtual 166, 3) := by decide +kernel
theorem dL_law_778 : decode cL_law 778 = .ok (.aload_n 2, 1) := by decide +kernel
theorem dL_law_779 : decode cL_law 779 = .ok (.aload_n 0, 1) := by decide +kernel
theorem dL_law_780 : decode cL_law 780 = .ok (.iload 5, 2) := by decide +kernel
theorem dL_law_782 : decode cL_law 782 = .ok (.iconst 1, 1) := by decide +kernel
theorem dL_law_783 : decode cL_law 783 = .ok (.iadd, 1) := by decide +kernel
theorem dL_law_784 : decode cL_law 784 = .ok (.iaload, 1) := by decide +kernel
theorem dL_law_785 : decode cL_law 785 = .ok (.ifCond .eq 7, 3) := by decide +kernel
theorem dL_law_788 : decode cL_law 788 = .ok (.iconst 1, 1) := by decide +kernel
theorem dL_law_789 : decode cL_law 789 = .ok (.goto 4, 3) := by decide +kernel
theorem dL_law_792 : decode cL_law 792 = .ok (.iconst 0, 1) := by decide +kernel
theorem dL_law_793 : decode cL_law 793 = .ok (.invokevirtual 170, 3) := by decide +kernel
theorem dL_law_796 : decode cL_law 796 = .ok (.if_icmp .eq 1587, 3) := by decide +kernel
theorem dL_law_799 : decode cL_law 799 = .ok (.iconst 0, 1) := by decide +kernel
theorem dL_law_800 : decode cL_law 800 = .ok (.ireturn, 1) := by decide +kernel
theorem dL_law_801 : decode cL_law 801 = .ok (.aload_n 1, 1) := by decide +kernel
theorem dL_law_802 : decode cL_law 802 = .ok (.aload_n 0, 1) := by decide +kernel
theorem dL_law_803 : decode cL_law 803 = .ok (.iload 5, 2) := by decide +kernel
theorem dL_law_805 : decode cL_law 805 = .ok (.iconst 1, 1) := by decide +kernel
theorem dL_law_806 : decode cL_law 806 = .ok (.iadd, 1) := by decide +kernel
theorem dL_law_807 : decode cL_law 807 = .ok (.iaload, 1) := by decide +kernel
theorem dL_law_808 : decode cL_law 808 = .ok (.aload_n 0, 1) := by decide +kernel
theorem dL_law_809 : decode cL_law 809 = .ok (.iload 5, 2) := by decide +kernel
theorem dL_law_811 : decode cL_law 811 = .ok (.iconst 2, 1) := by decide +kernel
theorem dL_law_812 : decode cL_law 812 = .ok (.iadd, 1) := by decide +kernel
theorem dL_law_813 : decode cL_law 813 = .ok (.iaload, 1) := by decide +kernel
theorem dL_law_814 : decode cL_law 814 = .ok (.aload_n 3, 1) := by decide +kernel
theorem dL_law_815 : decode cL_law 815 = .ok (.invokestatic 171, 3) := by decide +kernel
theorem dL_law_818 : decode cL_law 818 = .ok (.istore 6, 2) := by decide +kernel
theorem dL_law_820 : decode cL_law 820 = .ok (.aload_n 2, 1) := by decide +kernel
theorem dL_law_821 : decode cL_law 821 = .ok (.aload_n 0, 1) := by decide +kernel
theorem dL_law_822 : decode cL_law 822 = .ok (.iload 5, 2) := by decide +kernel
theorem dL_law_824 : decode cL_law 824 = .ok (.iconst 1, 1) := by decide +kernel
theorem dL_law_825 : decode cL_law 825 = .ok (.iadd, 1) := by decide +kernel
theorem dL_law_826 : decode cL_law 826 = .ok (.iaload, 1) := by decide +kernel
theorem dL_law_827 : decode cL_law 827 = .ok (.aload_n 0, 1) := by decide +kernel
theorem dL_law_828 : decode cL_law 828 = .ok (.iload 5, 2) := by decide +kernel
theorem dL_law_830 : decode cL_law 830 = .ok (.iconst 2, 1) := by decide +kernel
theorem dL_law_831 : decode cL_law 831 = .ok (.iadd, 1) := by decide +kernel
theorem dL_law_832 : decode cL_law 832 = .ok (.iaload, 1) := by decide +kernel
theorem dL_law_833 : decode cL_law 833 = .ok (.invokevirtual 173, 3) := by decide +kernel
theorem dL_law_836 : decode cL_law 836 = .ok (.istore 7, 2) := by decide +kernel
theorem dL_law_838 : decode cL_law 838 = .ok (.aload_n 2, 1) := by decide +kernel
theorem dL_law_839 : decode cL_law 839 = .ok (.invokevirtual 139, 3) := by decide +kernel
theorem dL_law_842 : decode cL_law 842 = .ok (.iload 6, 2) := by decide +kernel
theorem dL_law_844 : decode cL_law 844 = .ok (.if_icmp .eq 5, 3) := by decide +kernel
theorem dL_law_847 : decode cL_law 847 = .ok (.iconst 0, 1) := by decide +kernel
theorem dL_law_848 : decode cL_law 848 = .ok (.ireturn, 1) := by decide +kernel
theorem dL_law_849 : decode cL_law 849 = .ok (.iload 6, 2) := by decide +kernel
theorem dL_law_851 : decode cL_law 851 = .ok (.ifCond .ne 15, 3) := by decide +kernel
theorem dL_law_854 : decode cL_law 854 = .ok (.aload_n 3, 1) := by decide +kernel
theorem dL_law_855 : decode cL_law 855 = .ok (.iconst 0, 1) := by decide +kernel
theorem dL_law_856 : decode cL_law 856 = .ok (.laload, 1) := by decide +kernel
theorem dL_law_857 : decode cL_law 857 = .ok (.iload 7, 2) := by decide +kernel
theorem dL_law_859 : decode cL_law 859 = .ok (.i2l, 1) := by decide +kernel
theorem dL_law_860 : decode cL_law 860 = .ok (.lcmp, 1) := by decide +kernel
theorem dL_law_861 : decode cL_law 861 = .ok (.ifCond .eq 5, 3) := by decide +kernel
theorem dL_law_864 : decode cL_law 864 = .ok (.iconst 0, 1) := by decide +kernel
theorem dL_law_865 : decode cL_law 865 = .ok (.ireturn, 1) := by decide +kernel
theorem dL_law_866 : decode cL_law 866 = .ok (.goto 1517, 3) := by decide +kernel
theorem dL_law_869 : decode cL_law 869 = .ok (.aload_n 1, 1) := by decide +kernel
theorem dL_law_870 : decode cL_law 870 = .ok (.aload_n 0, 1) := by decide +kernel
theorem dL_law_871 : decode cL_law 871 = .ok (.iload 5, 2) := by decide +kernel
theorem dL_law_873 : decode cL_law 873 = .ok (.iconst 1, 1) := by decide +kernel
theorem dL_law_874 : decode cL_law 874 = .ok (.iadd, 1) := by decide +kernel
theorem dL_law_875 : decode cL_law 875 = .ok (.iaload, 1) := by decide +kernel
theorem dL_law_876 : decode cL_law 876 = .ok (.i2c, 1) := by decide +kernel
theorem dL_law_877 : decode cL_law 877 = .ok (.aload_n 0, 1) := by decide +kernel
theorem dL_law_878 : decode cL_law 878 = .ok (.iload 5, 2) := by decide +kernel
theorem dL_law_880 : decode cL_law 880 = .ok (.iconst 2, 1) := by decide +kernel
theorem dL_law_881 : decode cL_law 881 = .ok (.iadd, 1) := by decide +kernel
theorem dL_law_882 : decode cL_law 882 = .ok (.iaload, 1) := by decide +kernel
theorem dL_law_883 : decode cL_law 883 = .ok (.aload_n 0, 1) := by decide +kernel
theorem dL_law_884 : decode cL_law 884 = .ok (.iload 5, 2) := by decide +kernel
theorem dL_law_886 : decode cL_law 886 = .ok (.iconst 3, 1) := by decide +kernel
theorem dL_law_887 : decode cL_law 887 = .ok (.iadd, 1) := by decide +kernel
theorem dL_law_888 : decode cL_law 888 = .ok (.iaload, 1) := by decide +kernel
theorem dL_law_889 : decode cL_law 889 = .ok (.aload_n 3, 1) := by decide +kernel
theorem dL_law_890 : decode cL_law 890 = .ok (.invokestatic 174, 3) := by decide +kernel
theorem dL_law_893 : decode cL_law 893 = .ok (.istore 6, 2) := by decide +kernel
theorem dL_law_895 : decode cL_law 895 = .ok (.aload_n 2, 1) := by decide +kernel
theorem dL_law_896 : decode cL_law 896 = .ok (.aload_n 0, 1) := by decide +kernel
theorem dL_law_897 : decode cL_law 897 = .ok (.iload 5, 2) := by decide +kernel
theorem dL_law_899 : decode cL_law 899 = .ok (.iconst 1, 1) := by decide +kernel
theorem dL_law_900 : decode cL_law 900 = .ok (.iadd, 1) := by decide +kernel
theorem dL_law_901 : decode cL_law 901 = .ok (.iaload, 1) := by decide +kernel
theorem dL_law_902 : decode cL_law 902 = .ok (.i2c, 1) := by decide +kernel
theorem dL_law_903 : decode cL_law 903 = .ok (.aload_n 0, 1) := by decide +kernel
theorem dL_law_904 : decode cL_law 904 = .ok (.iload 5, 2) := by decide +kernel
theorem dL_law_906 : decode cL_law 906 = .ok (.iconst 2, 1) := by decide +kernel
theorem dL_law_907 : decode cL_law 907 = .ok (.iadd, 1) := by decide +kernel
theorem dL_law_908 : decode cL_law 908 = .ok (.iaload, 1) := by decide +kernel
theorem dL_law_909 : decode cL_law 909 = .ok (.aload_n 0, 1) := by decide +kernel
theorem dL_law_910 : decode cL_law 910 = .ok (.iload 5, 2) := by decide +kernel
theorem dL_law_912 : decode cL_law 912 = .ok (.iconst 3, 1) := by decide +kernel
theorem dL_law_913 : decode cL_law 913 = .ok (.iadd, 1) := by decide +kernel
theorem dL_law_914 : decode cL_law 914 = .ok (.iaload, 1) := by decide +kernel
theorem dL_law_915 : decode cL_law 915 = .ok (.invokevirtual 177, 3) := by decide +kernel
theorem dL_law_918 : decode cL_law 918 = .ok (.istore 7, 2) := by decide +kernel
theorem dL_law_920 : decode cL_law 920 = .ok (.aload_n 2, 1) := by decide +kernel
theorem dL_law_921 : decode cL_law 921 = .ok (.invokevirtual 139, 3) := by decide +kernel
theorem dL_law_924 : decode cL_law 924 = .ok (.iload 6, 2) := by decide +kernel
theorem dL_law_926 : decode cL_law 926 = .ok (.if_icmp .eq 5, 3) := by decide +kernel
theorem dL_law_929 : decode cL_law 929 = .ok (.iconst 0, 1) := by decide +kernel
theorem dL_law_930 : decode cL_law 930 = .ok (.ireturn, 1) := by decide +kernel
theorem dL_law_931 : decode cL_law 931 = .ok (.iload 6, 2) := by decide +kernel
theorem dL_law_933 : decode cL_law 933 = .ok (.ifCond .ne 15, 3) := by decide +kernel
theorem dL_law_936 : decode cL_law 936 = .ok (.aload_n 3, 1) := by decide +kernel
