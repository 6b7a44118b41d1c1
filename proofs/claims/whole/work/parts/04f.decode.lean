theorem dX12_codesPart_85 : decode cX12_codesPart 85 = .ok (.idiv, 1) := by decide +kernel
theorem dX12_codesPart_86 : decode cX12_codesPart 86 = .ok (.imul, 1) := by decide +kernel
theorem dX12_codesPart_87 : decode cX12_codesPart 87 = .ok (.iload 7, 2) := by decide +kernel
theorem dX12_codesPart_89 : decode cX12_codesPart 89 = .ok (.iconst 4, 1) := by decide +kernel
theorem dX12_codesPart_90 : decode cX12_codesPart 90 = .ok (.idiv, 1) := by decide +kernel
theorem dX12_codesPart_91 : decode cX12_codesPart 91 = .ok (.iadd, 1) := by decide +kernel
theorem dX12_codesPart_92 : decode cX12_codesPart 92 = .ok (.iload 4, 2) := by decide +kernel
theorem dX12_codesPart_94 : decode cX12_codesPart 94 = .ok (.iastore, 1) := by decide +kernel
theorem dX12_codesPart_95 : decode cX12_codesPart 95 = .ok (.aload_n 0, 1) := by decide +kernel
theorem dX12_codesPart_96 : decode cX12_codesPart 96 = .ok (.iload 7, 2) := by decide +kernel
theorem dX12_codesPart_98 : decode cX12_codesPart 98 = .ok (.iload 8, 2) := by decide +kernel
theorem dX12_codesPart_100 : decode cX12_codesPart 100 = .ok (.aload 5, 2) := by decide +kernel
theorem dX12_codesPart_102 : decode cX12_codesPart 102 = .ok (.invokevirtual 285, 3) := by decide +kernel
theorem dX12_codesPart_105 : decode cX12_codesPart 105 = .ok (.iinc 6 1, 3) := by decide +kernel
theorem dX12_codesPart_108 : decode cX12_codesPart 108 = .ok (.goto (-66), 3) := by decide +kernel
theorem dX12_codesPart_111 : decode cX12_codesPart 111 = .ok (.aload_n 0, 1) := by decide +kernel
theorem dX12_codesPart_112 : decode cX12_codesPart 112 = .ok (.getfield 155, 3) := by decide +kernel
theorem dX12_codesPart_115 : decode cX12_codesPart 115 = .ok (.aload_n 0, 1) := by decide +kernel
theorem dX12_codesPart_116 : decode cX12_codesPart 116 = .ok (.getfield 162, 3) := by decide +kernel
theorem dX12_codesPart_119 : decode cX12_codesPart 119 = .ok (.aload_n 0, 1) := by decide +kernel
theorem dX12_codesPart_120 : decode cX12_codesPart 120 = .ok (.getfield 165, 3) := by decide +kernel
theorem dX12_codesPart_123 : decode cX12_codesPart 123 = .ok (.iload_n 1, 1) := by decide +kernel
theorem dX12_codesPart_124 : decode cX12_codesPart 124 = .ok (.iload_n 2, 1) := by decide +kernel
theorem dX12_codesPart_125 : decode cX12_codesPart 125 = .ok (.iload_n 3, 1) := by decide +kernel
theorem dX12_codesPart_126 : decode cX12_codesPart 126 = .ok (.iload 4, 2) := by decide +kernel
theorem dX12_codesPart_128 : decode cX12_codesPart 128 = .ok (.aload_n 0, 1) := by decide +kernel
theorem dX12_codesPart_129 : decode cX12_codesPart 129 = .ok (.getfield 168, 3) := by decide +kernel
theorem dX12_codesPart_132 : decode cX12_codesPart 132 = .ok (.aload_n 0, 1) := by decide +kernel
theorem dX12_codesPart_133 : decode cX12_codesPart 133 = .ok (.getfield 205, 3) := by decide +kernel
theorem dX12_codesPart_136 : decode cX12_codesPart 136 = .ok (.aload_n 0, 1) := by decide +kernel
theorem dX12_codesPart_137 : decode cX12_codesPart 137 = .ok (.getfield 22, 3) := by decide +kernel
theorem dX12_codesPart_140 : decode cX12_codesPart 140 = .ok (.aload_n 0, 1) := by decide +kernel
theorem dX12_codesPart_141 : decode cX12_codesPart 141 = .ok (.getfield 29, 3) := by decide +kernel
theorem dX12_codesPart_144 : decode cX12_codesPart 144 = .ok (.invokestatic 289, 3) := by decide +kernel
theorem dX12_codesPart_147 : decode cX12_codesPart 147 = .ok (.return_, 1) := by decide +kernel
theorem dX12_codesParts_0 : decode cX12_codesParts 0 = .ok (.bipush 16, 2) := by decide +kernel
theorem dX12_codesParts_2 : decode cX12_codesParts 2 = .ok (.newarray .int, 2) := by decide +kernel
theorem dX12_codesParts_4 : decode cX12_codesParts 4 = .ok (.astore_n 1, 1) := by decide +kernel
theorem dX12_codesParts_5 : decode cX12_codesParts 5 = .ok (.iconst 0, 1) := by decide +kernel
theorem dX12_codesParts_6 : decode cX12_codesParts 6 = .ok (.istore_n 2, 1) := by decide +kernel
theorem dX12_codesParts_7 : decode cX12_codesParts 7 = .ok (.iload_n 2, 1) := by decide +kernel
theorem dX12_codesParts_8 : decode cX12_codesParts 8 = .ok (.iconst 4, 1) := by decide +kernel
theorem dX12_codesParts_9 : decode cX12_codesParts 9 = .ok (.if_icmp .ge 130, 3) := by decide +kernel
theorem dX12_codesParts_12 : decode cX12_codesParts 12 = .ok (.iload_n 2, 1) := by decide +kernel
theorem dX12_codesParts_13 : decode cX12_codesParts 13 = .ok (.iconst 2, 1) := by decide +kernel
theorem dX12_codesParts_14 : decode cX12_codesParts 14 = .ok (.irem, 1) := by decide +kernel
theorem dX12_codesParts_15 : decode cX12_codesParts 15 = .ok (.bipush 8, 2) := by decide +kernel
theorem dX12_codesParts_17 : decode cX12_codesParts 17 = .ok (.imul, 1) := by decide +kernel
theorem dX12_codesParts_18 : decode cX12_codesParts 18 = .ok (.istore_n 3, 1) := by decide +kernel
theorem dX12_codesParts_19 : decode cX12_codesParts 19 = .ok (.iload_n 2, 1) := by decide +kernel
theorem dX12_codesParts_20 : decode cX12_codesParts 20 = .ok (.iconst 2, 1) := by decide +kernel
theorem dX12_codesParts_21 : decode cX12_codesParts 21 = .ok (.idiv, 1) := by decide +kernel
theorem dX12_codesParts_22 : decode cX12_codesParts 22 = .ok (.bipush 8, 2) := by decide +kernel
theorem dX12_codesParts_24 : decode cX12_codesParts 24 = .ok (.imul, 1) := by decide +kernel
theorem dX12_codesParts_25 : decode cX12_codesParts 25 = .ok (.istore 4, 2) := by decide +kernel
theorem dX12_codesParts_27 : decode cX12_codesParts 27 = .ok (.aload_n 0, 1) := by decide +kernel
theorem dX12_codesParts_28 : decode cX12_codesParts 28 = .ok (.iload_n 3, 1) := by decide +kernel
theorem dX12_codesParts_29 : decode cX12_codesParts 29 = .ok (.iload 4, 2) := by decide +kernel
theorem dX12_codesParts_31 : decode cX12_codesParts 31 = .ok (.invokevirtual 293, 3) := by decide +kernel
theorem dX12_codesParts_34 : decode cX12_codesParts 34 = .ok (.ifCond .eq 7, 3) := by decide +kernel
theorem dX12_codesParts_37 : decode cX12_codesParts 37 = .ok (.iconst 4, 1) := by decide +kernel
theorem dX12_codesParts_38 : decode cX12_codesParts 38 = .ok (.goto 5, 3) := by decide +kernel
theorem dX12_codesParts_41 : decode cX12_codesParts 41 = .ok (.bipush 8, 2) := by decide +kernel
theorem dX12_codesParts_43 : decode cX12_codesParts 43 = .ok (.istore 5, 2) := by decide +kernel
theorem dX12_codesParts_45 : decode cX12_codesParts 45 = .ok (.iconst 0, 1) := by decide +kernel
theorem dX12_codesParts_46 : decode cX12_codesParts 46 = .ok (.istore 6, 2) := by decide +kernel
theorem dX12_codesParts_48 : decode cX12_codesParts 48 = .ok (.iload 6, 2) := by decide +kernel
theorem dX12_codesParts_50 : decode cX12_codesParts 50 = .ok (.iconst 4, 1) := by decide +kernel
theorem dX12_codesParts_51 : decode cX12_codesParts 51 = .ok (.if_icmp .ge 33, 3) := by decide +kernel
theorem dX12_codesParts_54 : decode cX12_codesParts 54 = .ok (.aload_n 1, 1) := by decide +kernel
theorem dX12_codesParts_55 : decode cX12_codesParts 55 = .ok (.iconst 4, 1) := by decide +kernel
theorem dX12_codesParts_56 : decode cX12_codesParts 56 = .ok (.iload 4, 2) := by decide +kernel
theorem dX12_codesParts_58 : decode cX12_codesParts 58 = .ok (.iconst 4, 1) := by decide +kernel
theorem dX12_codesParts_59 : decode cX12_codesParts 59 = .ok (.idiv, 1) := by decide +kernel
theorem dX12_codesParts_60 : decode cX12_codesParts 60 = .ok (.iload 6, 2) := by decide +kernel
theorem dX12_codesParts_62 : decode cX12_codesParts 62 = .ok (.iconst 2, 1) := by decide +kernel
theorem dX12_codesParts_63 : decode cX12_codesParts 63 = .ok (.idiv, 1) := by decide +kernel
theorem dX12_codesParts_64 : decode cX12_codesParts 64 = .ok (.iadd, 1) := by decide +kernel
theorem dX12_codesParts_65 : decode cX12_codesParts 65 = .ok (.imul, 1) := by decide +kernel
theorem dX12_codesParts_66 : decode cX12_codesParts 66 = .ok (.iload_n 3, 1) := by decide +kernel
theorem dX12_codesParts_67 : decode cX12_codesParts 67 = .ok (.iconst 4, 1) := by decide +kernel
theorem dX12_codesParts_68 : decode cX12_codesParts 68 = .ok (.idiv, 1) := by decide +kernel
theorem dX12_codesParts_69 : decode cX12_codesParts 69 = .ok (.iadd, 1) := by decide +kernel
theorem dX12_codesParts_70 : decode cX12_codesParts 70 = .ok (.iload 6, 2) := by decide +kernel
theorem dX12_codesParts_72 : decode cX12_codesParts 72 = .ok (.iconst 2, 1) := by decide +kernel
theorem dX12_codesParts_73 : decode cX12_codesParts 73 = .ok (.irem, 1) := by decide +kernel
theorem dX12_codesParts_74 : decode cX12_codesParts 74 = .ok (.iadd, 1) := by decide +kernel
theorem dX12_codesParts_75 : decode cX12_codesParts 75 = .ok (.iload 5, 2) := by decide +kernel
theorem dX12_codesParts_77 : decode cX12_codesParts 77 = .ok (.iastore, 1) := by decide +kernel
theorem dX12_codesParts_78 : decode cX12_codesParts 78 = .ok (.iinc 6 1, 3) := by decide +kernel
theorem dX12_codesParts_81 : decode cX12_codesParts 81 = .ok (.goto (-33), 3) := by decide +kernel
theorem dX12_codesParts_84 : decode cX12_codesParts 84 = .ok (.iconst 0, 1) := by decide +kernel
theorem dX12_codesParts_85 : decode cX12_codesParts 85 = .ok (.istore 6, 2) := by decide +kernel
theorem dX12_codesParts_87 : decode cX12_codesParts 87 = .ok (.iload 6, 2) := by decide +kernel
theorem dX12_codesParts_89 : decode cX12_codesParts 89 = .ok (.iload 5, 2) := by decide +kernel
theorem dX12_codesParts_91 : decode cX12_codesParts 91 = .ok (.bipush 8, 2) := by decide +kernel
theorem dX12_codesParts_93 : decode cX12_codesParts 93 = .ok (.if_icmp .ne 7, 3) := by decide +kernel
theorem dX12_codesParts_96 : decode cX12_codesParts 96 = .ok (.iconst 1, 1) := by decide +kernel
theorem dX12_codesParts_97 : decode cX12_codesParts 97 = .ok (.goto 4, 3) := by decide +kernel
theorem dX12_codesParts_100 : decode cX12_codesParts 100 = .ok (.iconst 4, 1) := by decide +kernel
theorem dX12_codesParts_101 : decode cX12_codesParts 101 = .ok (.if_icmp .ge 32, 3) := by decide +kernel
theorem dX12_codesParts_104 : decode cX12_codesParts 104 = .ok (.aload_n 0, 1) := by decide +kernel
theorem dX12_codesParts_105 : decode cX12_codesParts 105 = .ok (.iload_n 3, 1) := by decide +kernel
theorem dX12_codesParts_106 : decode cX12_codesParts 106 = .ok (.iload 6, 2) := by decide +kernel
theorem dX12_codesParts_108 : decode cX12_codesParts 108 = .ok (.iconst 2, 1) := by decide +kernel
theorem dX12_codesParts_109 : decode cX12_codesParts 109 = .ok (.irem, 1) := by decide +kernel
theorem dX12_codesParts_110 : decode cX12_codesParts 110 = .ok (.iconst 4, 1) := by decide +kernel
theorem dX12_codesParts_111 : decode cX12_codesParts 111 = .ok (.imul, 1) := by decide +kernel
theorem dX12_codesParts_112 : decode cX12_codesParts 112 = .ok (.iadd, 1) := by decide +kernel
theorem dX12_codesParts_113 : decode cX12_codesParts 113 = .ok (.iload 4, 2) := by decide +kernel
theorem dX12_codesParts_115 : decode cX12_codesParts 115 = .ok (.iload 6, 2) := by decide +kernel
theorem dX12_codesParts_117 : decode cX12_codesParts 117 = .ok (.iconst 2, 1) := by decide +kernel
theorem dX12_codesParts_118 : decode cX12_codesParts 118 = .ok (.idiv, 1) := by decide +kernel
theorem dX12_codesParts_119 : decode cX12_codesParts 119 = .ok (.iconst 4, 1) := by decide +kernel
theorem dX12_codesParts_120 : decode cX12_codesParts 120 = .ok (.imul, 1) := by decide +kernel
theorem dX12_codesParts_121 : decode cX12_codesParts 121 = .ok (.iadd, 1) := by decide +kernel
theorem dX12_codesParts_122 : decode cX12_codesParts 122 = .ok (.iload 5, 2) := by decide +kernel
theorem dX12_codesParts_124 : decode cX12_codesParts 124 = .ok (.invokevirtual 296, 3) := by decide +kernel
theorem dX12_codesParts_127 : decode cX12_codesParts 127 = .ok (.iinc 6 1, 3) := by decide +kernel
theorem dX12_codesParts_130 : decode cX12_codesParts 130 = .ok (.goto (-43), 3) := by decide +kernel
theorem dX12_codesParts_133 : decode cX12_codesParts 133 = .ok (.iinc 2 1, 3) := by decide +kernel
theorem dX12_codesParts_136 : decode cX12_codesParts 136 = .ok (.goto (-129), 3) := by decide +kernel
theorem dX12_codesParts_139 : decode cX12_codesParts 139 = .ok (.aload_n 1, 1) := by decide +kernel
theorem dX12_codesParts_140 : decode cX12_codesParts 140 = .ok (.areturn, 1) := by decide +kernel
theorem dX12_errorNow_0 : decode cX12_errorNow 0 = .ok (.lconst 0, 1) := by decide +kernel
theorem dX12_errorNow_1 : decode cX12_errorNow 1 = .ok (.lstore_n 1, 1) := by decide +kernel
theorem dX12_errorNow_2 : decode cX12_errorNow 2 = .ok (.iconst 0, 1) := by decide +kernel
theorem dX12_errorNow_3 : decode cX12_errorNow 3 = .ok (.istore_n 3, 1) := by decide +kernel
theorem dX12_errorNow_4 : decode cX12_errorNow 4 = .ok (.iload_n 3, 1) := by decide +kernel
theorem dX12_errorNow_5 : decode cX12_errorNow 5 = .ok (.sipush 256, 3) := by decide +kernel
theorem dX12_errorNow_8 : decode cX12_errorNow 8 = .ok (.if_icmp .ge 33, 3) := by decide +kernel
theorem dX12_errorNow_11 : decode cX12_errorNow 11 = .ok (.aload_n 0, 1) := by decide +kernel
theorem dX12_errorNow_12 : decode cX12_errorNow 12 = .ok (.getfield 155, 3) := by decide +kernel
theorem dX12_errorNow_15 : decode cX12_errorNow 15 = .ok (.iload_n 3, 1) := by decide +kernel
theorem dX12_errorNow_16 : decode cX12_errorNow 16 = .ok (.iaload, 1) := by decide +kernel
theorem dX12_errorNow_17 : decode cX12_errorNow 17 = .ok (.aload_n 0, 1) := by decide +kernel
theorem dX12_errorNow_18 : decode cX12_errorNow 18 = .ok (.getfield 18, 3) := by decide +kernel
theorem dX12_errorNow_21 : decode cX12_errorNow 21 = .ok (.iload_n 3, 1) := by decide +kernel
theorem dX12_errorNow_22 : decode cX12_errorNow 22 = .ok (.iaload, 1) := by decide +kernel
theorem dX12_errorNow_23 : decode cX12_errorNow 23 = .ok (.isub, 1) := by decide +kernel
theorem dX12_errorNow_24 : decode cX12_errorNow 24 = .ok (.i2l, 1) := by decide +kernel
theorem dX12_errorNow_25 : decode cX12_errorNow 25 = .ok (.lstore 4, 2) := by decide +kernel
theorem dX12_errorNow_27 : decode cX12_errorNow 27 = .ok (.lload_n 1, 1) := by decide +kernel
theorem dX12_errorNow_28 : decode cX12_errorNow 28 = .ok (.lload 4, 2) := by decide +kernel
theorem dX12_errorNow_30 : decode cX12_errorNow 30 = .ok (.lload 4, 2) := by decide +kernel
theorem dX12_errorNow_32 : decode cX12_errorNow 32 = .ok (.lmul, 1) := by decide +kernel
theorem dX12_errorNow_33 : decode cX12_errorNow 33 = .ok (.ladd, 1) := by decide +kernel
theorem dX12_errorNow_34 : decode cX12_errorNow 34 = .ok (.lstore_n 1, 1) := by decide +kernel
theorem dX12_errorNow_35 : decode cX12_errorNow 35 = .ok (.iinc 3 1, 3) := by decide +kernel
theorem dX12_errorNow_38 : decode cX12_errorNow 38 = .ok (.goto (-34), 3) := by decide +kernel
theorem dX12_errorNow_41 : decode cX12_errorNow 41 = .ok (.lload_n 1, 1) := by decide +kernel
theorem dX12_errorNow_42 : decode cX12_errorNow 42 = .ok (.lreturn, 1) := by decide +kernel
theorem dX12_code_0 : decode cX12_code 0 = .ok (.iload_n 1, 1) := by decide +kernel
theorem dX12_code_1 : decode cX12_code 1 = .ok (.bipush 105, 2) := by decide +kernel
theorem dX12_code_3 : decode cX12_code 3 = .ok (.if_icmp .eq 21, 3) := by decide +kernel
theorem dX12_code_6 : decode cX12_code 6 = .ok (.iload_n 1, 1) := by decide +kernel
theorem dX12_code_7 : decode cX12_code 7 = .ok (.bipush 112, 2) := by decide +kernel
theorem dX12_code_9 : decode cX12_code 9 = .ok (.if_icmp .eq 15, 3) := by decide +kernel
theorem dX12_code_12 : decode cX12_code 12 = .ok (.iload_n 1, 1) := by decide +kernel
theorem dX12_code_13 : decode cX12_code 13 = .ok (.bipush 98, 2) := by decide +kernel
theorem dX12_code_15 : decode cX12_code 15 = .ok (.if_icmp .eq 9, 3) := by decide +kernel
theorem dX12_code_18 : decode cX12_code 18 = .ok (.aload_n 0, 1) := by decide +kernel
theorem dX12_code_19 : decode cX12_code 19 = .ok (.iconst 1, 1) := by decide +kernel
theorem dX12_code_20 : decode cX12_code 20 = .ok (.invokevirtual 299, 3) := by decide +kernel
theorem dX12_code_23 : decode cX12_code 23 = .ok (.ireturn, 1) := by decide +kernel
theorem dX12_code_24 : decode cX12_code 24 = .ok (.iload_n 1, 1) := by decide +kernel
theorem dX12_code_25 : decode cX12_code 25 = .ok (.bipush 105, 2) := by decide +kernel
theorem dX12_code_27 : decode cX12_code 27 = .ok (.if_icmp .eq 17, 3) := by decide +kernel
theorem dX12_code_30 : decode cX12_code 30 = .ok (.iload_n 2, 1) := by decide +kernel
theorem dX12_code_31 : decode cX12_code 31 = .ok (.iconst 0, 1) := by decide +kernel
theorem dX12_code_32 : decode cX12_code 32 = .ok (.aload_n 0, 1) := by decide +kernel
theorem dX12_code_33 : decode cX12_code 33 = .ok (.getfield 302, 3) := by decide +kernel
theorem dX12_code_36 : decode cX12_code 36 = .ok (.iconst 1, 1) := by decide +kernel
theorem dX12_code_37 : decode cX12_code 37 = .ok (.isub, 1) := by decide +kernel
theorem dX12_code_38 : decode cX12_code 38 = .ok (.invokestatic 113, 3) := by decide +kernel
theorem dX12_code_41 : decode cX12_code 41 = .ok (.ifCond .eq 7, 3) := by decide +kernel
theorem dX12_code_44 : decode cX12_code 44 = .ok (.iconst 1, 1) := by decide +kernel
theorem dX12_code_45 : decode cX12_code 45 = .ok (.goto 4, 3) := by decide +kernel
theorem dX12_code_48 : decode cX12_code 48 = .ok (.iconst 0, 1) := by decide +kernel
theorem dX12_code_49 : decode cX12_code 49 = .ok (.istore 4, 2) := by decide +kernel
theorem dX12_code_51 : decode cX12_code 51 = .ok (.iload_n 1, 1) := by decide +kernel
theorem dX12_code_52 : decode cX12_code 52 = .ok (.bipush 98, 2) := by decide +kernel
theorem dX12_code_54 : decode cX12_code 54 = .ok (.if_icmp .ne 17, 3) := by decide +kernel
theorem dX12_code_57 : decode cX12_code 57 = .ok (.iload_n 3, 1) := by decide +kernel
theorem dX12_code_58 : decode cX12_code 58 = .ok (.iconst 0, 1) := by decide +kernel
theorem dX12_code_59 : decode cX12_code 59 = .ok (.aload_n 0, 1) := by decide +kernel
theorem dX12_code_60 : decode cX12_code 60 = .ok (.getfield 302, 3) := by decide +kernel
theorem dX12_code_63 : decode cX12_code 63 = .ok (.iconst 1, 1) := by decide +kernel
theorem dX12_code_64 : decode cX12_code 64 = .ok (.isub, 1) := by decide +kernel
theorem dX12_code_65 : decode cX12_code 65 = .ok (.invokestatic 113, 3) := by decide +kernel
theorem dX12_code_68 : decode cX12_code 68 = .ok (.ifCond .eq 7, 3) := by decide +kernel
theorem dX12_code_71 : decode cX12_code 71 = .ok (.iconst 1, 1) := by decide +kernel
theorem dX12_code_72 : decode cX12_code 72 = .ok (.goto 4, 3) := by decide +kernel
theorem dX12_code_75 : decode cX12_code 75 = .ok (.iconst 0, 1) := by decide +kernel
theorem dX12_code_76 : decode cX12_code 76 = .ok (.istore 5, 2) := by decide +kernel
theorem dX12_code_78 : decode cX12_code 78 = .ok (.aload_n 0, 1) := by decide +kernel
theorem dX12_code_79 : decode cX12_code 79 = .ok (.iload 4, 2) := by decide +kernel
theorem dX12_code_81 : decode cX12_code 81 = .ok (.ifCond .eq 8, 3) := by decide +kernel
theorem dX12_code_84 : decode cX12_code 84 = .ok (.iload 5, 2) := by decide +kernel
theorem dX12_code_86 : decode cX12_code 86 = .ok (.ifCond .ne 7, 3) := by decide +kernel
theorem dX12_code_89 : decode cX12_code 89 = .ok (.iconst 2, 1) := by decide +kernel
theorem dX12_code_90 : decode cX12_code 90 = .ok (.goto 17, 3) := by decide +kernel
theorem dX12_code_93 : decode cX12_code 93 = .ok (.aload_n 0, 1) := by decide +kernel
theorem dX12_code_94 : decode cX12_code 94 = .ok (.getfield 305, 3) := by decide +kernel
theorem dX12_code_97 : decode cX12_code 97 = .ok (.bipush 12, 2) := by decide +kernel
theorem dX12_code_99 : decode cX12_code 99 = .ok (.if_icmp .ne 7, 3) := by decide +kernel
theorem dX12_code_102 : decode cX12_code 102 = .ok (.iconst 3, 1) := by decide +kernel
theorem dX12_code_103 : decode cX12_code 103 = .ok (.goto 4, 3) := by decide +kernel
theorem dX12_code_106 : decode cX12_code 106 = .ok (.iconst 0, 1) := by decide +kernel
theorem dX12_code_107 : decode cX12_code 107 = .ok (.putfield 110, 3) := by decide +kernel
theorem dX12_code_110 : decode cX12_code 110 = .ok (.aload_n 0, 1) := by decide +kernel
theorem dX12_code_111 : decode cX12_code 111 = .ok (.getfield 110, 3) := by decide +kernel
theorem dX12_code_114 : decode cX12_code 114 = .ok (.ifCond .le 5, 3) := by decide +kernel
theorem dX12_code_117 : decode cX12_code 117 = .ok (.iconst 0, 1) := by decide +kernel
theorem dX12_code_118 : decode cX12_code 118 = .ok (.ireturn, 1) := by decide +kernel
theorem dX12_code_119 : decode cX12_code 119 = .ok (.aload_n 0, 1) := by decide +kernel
theorem dX12_code_120 : decode cX12_code 120 = .ok (.iload_n 1, 1) := by decide +kernel
theorem dX12_code_121 : decode cX12_code 121 = .ok (.putfield 189, 3) := by decide +kernel
theorem dX12_code_124 : decode cX12_code 124 = .ok (.aload_n 0, 1) := by decide +kernel
theorem dX12_code_125 : decode cX12_code 125 = .ok (.iload_n 1, 1) := by decide +kernel
theorem dX12_code_126 : decode cX12_code 126 = .ok (.bipush 105, 2) := by decide +kernel
theorem dX12_code_128 : decode cX12_code 128 = .ok (.if_icmp .ne 7, 3) := by decide +kernel
theorem dX12_code_131 : decode cX12_code 131 = .ok (.aconst_null, 1) := by decide +kernel
theorem dX12_code_132 : decode cX12_code 132 = .ok (.goto 14, 3) := by decide +kernel
theorem dX12_code_135 : decode cX12_code 135 = .ok (.aload_n 0, 1) := by decide +kernel
theorem dX12_code_136 : decode cX12_code 136 = .ok (.getfield 70, 3) := by decide +kernel
theorem dX12_code_139 : decode cX12_code 139 = .ok (.aload_n 0, 1) := by decide +kernel
theorem dX12_code_140 : decode cX12_code 140 = .ok (.getfield 89, 3) := by decide +kernel
theorem dX12_code_143 : decode cX12_code 143 = .ok (.iload_n 2, 1) := by decide +kernel
theorem dX12_code_144 : decode cX12_code 144 = .ok (.iaload, 1) := by decide +kernel
theorem dX12_code_145 : decode cX12_code 145 = .ok (.aaload, 1) := by decide +kernel
theorem dX12_code_146 : decode cX12_code 146 = .ok (.putfield 162, 3) := by decide +kernel
theorem dX12_code_149 : decode cX12_code 149 = .ok (.aload_n 0, 1) := by decide +kernel
theorem dX12_code_150 : decode cX12_code 150 = .ok (.iload_n 1, 1) := by decide +kernel
theorem dX12_code_151 : decode cX12_code 151 = .ok (.bipush 98, 2) := by decide +kernel
theorem dX12_code_153 : decode cX12_code 153 = .ok (.if_icmp .ne 17, 3) := by decide +kernel
theorem dX12_code_156 : decode cX12_code 156 = .ok (.aload_n 0, 1) := by decide +kernel
theorem dX12_code_157 : decode cX12_code 157 = .ok (.getfield 70, 3) := by decide +kernel
theorem dX12_code_160 : decode cX12_code 160 = .ok (.aload_n 0, 1) := by decide +kernel
theorem dX12_code_161 : decode cX12_code 161 = .ok (.getfield 89, 3) := by decide +kernel
theorem dX12_code_164 : decode cX12_code 164 = .ok (.iload_n 3, 1) := by decide +kernel
theorem dX12_code_165 : decode cX12_code 165 = .ok (.iaload, 1) := by decide +kernel
theorem dX12_code_166 : decode cX12_code 166 = .ok (.aaload, 1) := by decide +kernel
theorem dX12_code_167 : decode cX12_code 167 = .ok (.goto 4, 3) := by decide +kernel
theorem dX12_code_170 : decode cX12_code 170 = .ok (.aconst_null, 1) := by decide +kernel
theorem dX12_code_171 : decode cX12_code 171 = .ok (.putfield 165, 3) := by decide +kernel
theorem dX12_code_174 : decode cX12_code 174 = .ok (.aload_n 0, 1) := by decide +kernel
theorem dX12_code_175 : decode cX12_code 175 = .ok (.sipush 256, 3) := by decide +kernel
theorem dX12_code_178 : decode cX12_code 178 = .ok (.newarray .int, 2) := by decide +kernel
theorem dX12_code_180 : decode cX12_code 180 = .ok (.putfield 155, 3) := by decide +kernel
theorem dX12_code_183 : decode cX12_code 183 = .ok (.aload_n 0, 1) := by decide +kernel
theorem dX12_code_184 : decode cX12_code 184 = .ok (.bipush 16, 2) := by decide +kernel
theorem dX12_code_186 : decode cX12_code 186 = .ok (.newarray .int, 2) := by decide +kernel
theorem dX12_code_188 : decode cX12_code 188 = .ok (.putfield 258, 3) := by decide +kernel
theorem dX12_code_191 : decode cX12_code 191 = .ok (.aload_n 0, 1) := by decide +kernel
theorem dX12_code_192 : decode cX12_code 192 = .ok (.bipush 64, 2) := by decide +kernel
theorem dX12_code_194 : decode cX12_code 194 = .ok (.newarray .int, 2) := by decide +kernel
theorem dX12_code_196 : decode cX12_code 196 = .ok (.putfield 168, 3) := by decide +kernel
theorem dX12_code_199 : decode cX12_code 199 = .ok (.aload_n 0, 1) := by decide +kernel
theorem dX12_code_200 : decode cX12_code 200 = .ok (.sipush 256, 3) := by decide +kernel
theorem dX12_code_203 : decode cX12_code 203 = .ok (.newarray .int, 2) := by decide +kernel
theorem dX12_code_205 : decode cX12_code 205 = .ok (.putfield 205, 3) := by decide +kernel
theorem dX12_code_208 : decode cX12_code 208 = .ok (.aload_n 0, 1) := by decide +kernel
theorem dX12_code_209 : decode cX12_code 209 = .ok (.invokevirtual 308, 3) := by decide +kernel
theorem dX12_code_212 : decode cX12_code 212 = .ok (.astore 6, 2) := by decide +kernel
theorem dX12_code_214 : decode cX12_code 214 = .ok (.aload_n 0, 1) := by decide +kernel
theorem dX12_code_215 : decode cX12_code 215 = .ok (.iconst 0, 1) := by decide +kernel
theorem dX12_code_216 : decode cX12_code 216 = .ok (.aload 6, 2) := by decide +kernel
theorem dX12_code_218 : decode cX12_code 218 = .ok (.invokevirtual 312, 3) := by decide +kernel
theorem dX12_code_221 : decode cX12_code 221 = .ok (.astore 7, 2) := by decide +kernel
theorem dX12_code_223 : decode cX12_code 223 = .ok (.aload_n 0, 1) := by decide +kernel
theorem dX12_code_224 : decode cX12_code 224 = .ok (.getfield 29, 3) := by decide +kernel
theorem dX12_code_227 : decode cX12_code 227 = .ok (.iconst 2, 1) := by decide +kernel
theorem dX12_code_228 : decode cX12_code 228 = .ok (.if_icmp .ne 13, 3) := by decide +kernel
theorem dX12_code_231 : decode cX12_code 231 = .ok (.aload_n 0, 1) := by decide +kernel
theorem dX12_code_232 : decode cX12_code 232 = .ok (.iconst 1, 1) := by decide +kernel
theorem dX12_code_233 : decode cX12_code 233 = .ok (.aload 6, 2) := by decide +kernel
theorem dX12_code_235 : decode cX12_code 235 = .ok (.invokevirtual 312, 3) := by decide +kernel
theorem dX12_code_238 : decode cX12_code 238 = .ok (.goto 4, 3) := by decide +kernel
theorem dX12_code_241 : decode cX12_code 241 = .ok (.aconst_null, 1) := by decide +kernel
theorem dX12_code_242 : decode cX12_code 242 = .ok (.astore 8, 2) := by decide +kernel
theorem dX12_code_244 : decode cX12_code 244 = .ok (.bipush 8, 2) := by decide +kernel
theorem dX12_code_246 : decode cX12_code 246 = .ok (.aload 7, 2) := by decide +kernel
theorem dX12_code_248 : decode cX12_code 248 = .ok (.arraylength, 1) := by decide +kernel
theorem dX12_code_249 : decode cX12_code 249 = .ok (.aload 8, 2) := by decide +kernel
theorem dX12_code_251 : decode cX12_code 251 = .ok (.ifnonnull 7, 3) := by decide +kernel
theorem dX12_code_254 : decode cX12_code 254 = .ok (.iconst 0, 1) := by decide +kernel
theorem dX12_code_255 : decode cX12_code 255 = .ok (.goto 6, 3) := by decide +kernel
theorem dX12_code_258 : decode cX12_code 258 = .ok (.aload 8, 2) := by decide +kernel
theorem dX12_code_260 : decode cX12_code 260 = .ok (.arraylength, 1) := by decide +kernel
theorem dX12_code_261 : decode cX12_code 261 = .ok (.iadd, 1) := by decide +kernel
theorem dX12_code_262 : decode cX12_code 262 = .ok (.imul, 1) := by decide +kernel
theorem dX12_code_263 : decode cX12_code 263 = .ok (.istore 9, 2) := by decide +kernel
theorem dX12_code_265 : decode cX12_code 265 = .ok (.iconst 0, 1) := by decide +kernel
theorem dX12_code_266 : decode cX12_code 266 = .ok (.aload_n 0, 1) := by decide +kernel
theorem dX12_code_267 : decode cX12_code 267 = .ok (.getfield 36, 3) := by decide +kernel
theorem dX12_code_270 : decode cX12_code 270 = .ok (.aload_n 0, 1) := by decide +kernel
theorem dX12_code_271 : decode cX12_code 271 = .ok (.getfield 134, 3) := by decide +kernel
theorem dX12_code_274 : decode cX12_code 274 = .ok (.isub, 1) := by decide +kernel
theorem dX12_code_275 : decode cX12_code 275 = .ok (.invokestatic 9, 3) := by decide +kernel
theorem dX12_code_278 : decode cX12_code 278 = .ok (.iload 9, 2) := by decide +kernel
theorem dX12_code_280 : decode cX12_code 280 = .ok (.iadd, 1) := by decide +kernel
theorem dX12_code_281 : decode cX12_code 281 = .ok (.istore 10, 2) := by decide +kernel
theorem dX12_code_283 : decode cX12_code 283 = .ok (.aload_n 0, 1) := by decide +kernel
theorem dX12_code_284 : decode cX12_code 284 = .ok (.getfield 36, 3) := by decide +kernel
theorem dX12_code_287 : decode cX12_code 287 = .ok (.iconst (-1), 1) := by decide +kernel
theorem dX12_code_288 : decode cX12_code 288 = .ok (.if_icmp .eq 18, 3) := by decide +kernel
theorem dX12_code_291 : decode cX12_code 291 = .ok (.iload 10, 2) := by decide +kernel
theorem dX12_code_293 : decode cX12_code 293 = .ok (.aload_n 0, 1) := by decide +kernel
theorem dX12_code_294 : decode cX12_code 294 = .ok (.getfield 131, 3) := by decide +kernel
theorem dX12_code_297 : decode cX12_code 297 = .ok (.if_icmp .le 9, 3) := by decide +kernel
theorem dX12_code_300 : decode cX12_code 300 = .ok (.aload_n 0, 1) := by decide +kernel
theorem dX12_code_301 : decode cX12_code 301 = .ok (.iconst 4, 1) := by decide +kernel
theorem dX12_code_302 : decode cX12_code 302 = .ok (.invokevirtual 299, 3) := by decide +kernel
theorem dX12_code_305 : decode cX12_code 305 = .ok (.ireturn, 1) := by decide +kernel
theorem dX12_code_306 : decode cX12_code 306 = .ok (.aload_n 0, 1) := by decide +kernel
theorem dX12_code_307 : decode cX12_code 307 = .ok (.getfield 155, 3) := by decide +kernel
theorem dX12_code_310 : decode cX12_code 310 = .ok (.aload_n 0, 1) := by decide +kernel
theorem dX12_code_311 : decode cX12_code 311 = .ok (.getfield 22, 3) := by decide +kernel
theorem dX12_code_314 : decode cX12_code 314 = .ok (.aload_n 0, 1) := by decide +kernel
theorem dX12_code_315 : decode cX12_code 315 = .ok (.getfield 26, 3) := by decide +kernel
theorem dX12_code_318 : decode cX12_code 318 = .ok (.aload_n 0, 1) := by decide +kernel
theorem dX12_code_319 : decode cX12_code 319 = .ok (.getfield 29, 3) := by decide +kernel
theorem dX12_code_322 : decode cX12_code 322 = .ok (.invokestatic 316, 3) := by decide +kernel
theorem dX12_code_325 : decode cX12_code 325 = .ok (.aload_n 0, 1) := by decide +kernel
theorem dX12_code_326 : decode cX12_code 326 = .ok (.aload 6, 2) := by decide +kernel
theorem dX12_code_328 : decode cX12_code 328 = .ok (.aload 7, 2) := by decide +kernel
theorem dX12_code_330 : decode cX12_code 330 = .ok (.aload 8, 2) := by decide +kernel
theorem dX12_code_332 : decode cX12_code 332 = .ok (.iload 9, 2) := by decide +kernel
theorem dX12_code_334 : decode cX12_code 334 = .ok (.iload_n 1, 1) := by decide +kernel
theorem dX12_code_335 : decode cX12_code 335 = .ok (.bipush 105, 2) := by decide +kernel
theorem dX12_code_337 : decode cX12_code 337 = .ok (.if_icmp .ne 7, 3) := by decide +kernel
theorem dX12_code_340 : decode cX12_code 340 = .ok (.iconst (-1), 1) := by decide +kernel
theorem dX12_code_341 : decode cX12_code 341 = .ok (.goto 4, 3) := by decide +kernel
theorem dX12_code_344 : decode cX12_code 344 = .ok (.iload_n 2, 1) := by decide +kernel
theorem dX12_code_345 : decode cX12_code 345 = .ok (.iload_n 1, 1) := by decide +kernel
theorem dX12_code_346 : decode cX12_code 346 = .ok (.bipush 98, 2) := by decide +kernel
theorem dX12_code_348 : decode cX12_code 348 = .ok (.if_icmp .ne 7, 3) := by decide +kernel
theorem dX12_code_351 : decode cX12_code 351 = .ok (.iload_n 3, 1) := by decide +kernel
theorem dX12_code_352 : decode cX12_code 352 = .ok (.goto 4, 3) := by decide +kernel
theorem dX12_code_355 : decode cX12_code 355 = .ok (.iconst (-1), 1) := by decide +kernel
theorem dX12_code_356 : decode cX12_code 356 = .ok (.invokevirtual 319, 3) := by decide +kernel
theorem dX12_code_359 : decode cX12_code 359 = .ok (.aload_n 0, 1) := by decide +kernel
theorem dX12_code_360 : decode cX12_code 360 = .ok (.getfield 36, 3) := by decide +kernel
theorem dX12_code_363 : decode cX12_code 363 = .ok (.iconst (-1), 1) := by decide +kernel
theorem dX12_code_364 : decode cX12_code 364 = .ok (.if_icmp .eq 64, 3) := by decide +kernel
theorem dX12_code_367 : decode cX12_code 367 = .ok (.aload_n 0, 1) := by decide +kernel
theorem dX12_code_368 : decode cX12_code 368 = .ok (.iload 10, 2) := by decide +kernel
theorem dX12_code_370 : decode cX12_code 370 = .ok (.putfield 36, 3) := by decide +kernel
theorem dX12_code_373 : decode cX12_code 373 = .ok (.iconst 4, 1) := by decide +kernel
theorem dX12_code_374 : decode cX12_code 374 = .ok (.iload 10, 2) := by decide +kernel
theorem dX12_code_376 : decode cX12_code 376 = .ok (.imul, 1) := by decide +kernel
theorem dX12_code_377 : decode cX12_code 377 = .ok (.iconst 3, 1) := by decide +kernel
theorem dX12_code_378 : decode cX12_code 378 = .ok (.aload_n 0, 1) := by decide +kernel
theorem dX12_code_379 : decode cX12_code 379 = .ok (.getfield 131, 3) := by decide +kernel
theorem dX12_code_382 : decode cX12_code 382 = .ok (.imul, 1) := by decide +kernel
theorem dX12_code_383 : decode cX12_code 383 = .ok (.if_icmp .le 7, 3) := by decide +kernel
theorem dX12_code_386 : decode cX12_code 386 = .ok (.iconst 1, 1) := by decide +kernel
theorem dX12_code_387 : decode cX12_code 387 = .ok (.goto 19, 3) := by decide +kernel
theorem dX12_code_390 : decode cX12_code 390 = .ok (.iconst 4, 1) := by decide +kernel
theorem dX12_code_391 : decode cX12_code 391 = .ok (.iload 10, 2) := by decide +kernel
theorem dX12_code_393 : decode cX12_code 393 = .ok (.imul, 1) := by decide +kernel
theorem dX12_code_394 : decode cX12_code 394 = .ok (.aload_n 0, 1) := by decide +kernel
theorem dX12_code_395 : decode cX12_code 395 = .ok (.getfield 131, 3) := by decide +kernel
theorem dX12_code_398 : decode cX12_code 398 = .ok (.if_icmp .ge 7, 3) := by decide +kernel
theorem dX12_code_401 : decode cX12_code 401 = .ok (.iconst (-1), 1) := by decide +kernel
theorem dX12_code_402 : decode cX12_code 402 = .ok (.goto 4, 3) := by decide +kernel
theorem dX12_code_405 : decode cX12_code 405 = .ok (.iconst 0, 1) := by decide +kernel
theorem dX12_code_406 : decode cX12_code 406 = .ok (.istore 11, 2) := by decide +kernel
theorem dX12_code_408 : decode cX12_code 408 = .ok (.aload_n 0, 1) := by decide +kernel
theorem dX12_code_409 : decode cX12_code 409 = .ok (.iconst 1, 1) := by decide +kernel
theorem dX12_code_410 : decode cX12_code 410 = .ok (.bipush 40, 2) := by decide +kernel
theorem dX12_code_412 : decode cX12_code 412 = .ok (.aload_n 0, 1) := by decide +kernel
theorem dX12_code_413 : decode cX12_code 413 = .ok (.getfield 22, 3) := by decide +kernel
theorem dX12_code_416 : decode cX12_code 416 = .ok (.iload 11, 2) := by decide +kernel
theorem dX12_code_418 : decode cX12_code 418 = .ok (.iadd, 1) := by decide +kernel
theorem dX12_code_419 : decode cX12_code 419 = .ok (.invokestatic 3, 3) := by decide +kernel
theorem dX12_code_422 : decode cX12_code 422 = .ok (.invokestatic 9, 3) := by decide +kernel
theorem dX12_code_425 : decode cX12_code 425 = .ok (.putfield 22, 3) := by decide +kernel
theorem dX12_code_428 : decode cX12_code 428 = .ok (.iload 9, 2) := by decide +kernel
theorem dX12_code_430 : decode cX12_code 430 = .ok (.ireturn, 1) := by decide +kernel
theorem dX12_keeps_0 : decode cX12_keeps 0 = .ok (.aload_n 0, 1) := by decide +kernel
theorem dX12_keeps_1 : decode cX12_keeps 1 = .ok (.getfield 39, 3) := by decide +kernel
theorem dX12_keeps_4 : decode cX12_keeps 4 = .ok (.aload_n 0, 1) := by decide +kernel
theorem dX12_keeps_5 : decode cX12_keeps 5 = .ok (.getfield 305, 3) := by decide +kernel
theorem dX12_keeps_8 : decode cX12_keeps 8 = .ok (.aload_n 0, 1) := by decide +kernel
theorem dX12_keeps_9 : decode cX12_keeps 9 = .ok (.getfield 189, 3) := by decide +kernel
theorem dX12_keeps_12 : decode cX12_keeps 12 = .ok (.castore, 1) := by decide +kernel
theorem dX12_keeps_13 : decode cX12_keeps 13 = .ok (.aload_n 0, 1) := by decide +kernel
theorem dX12_keeps_14 : decode cX12_keeps 14 = .ok (.getfield 43, 3) := by decide +kernel
theorem dX12_keeps_17 : decode cX12_keeps 17 = .ok (.aload_n 0, 1) := by decide +kernel
theorem dX12_keeps_18 : decode cX12_keeps 18 = .ok (.getfield 305, 3) := by decide +kernel
theorem dX12_keeps_21 : decode cX12_keeps 21 = .ok (.aload_n 0, 1) := by decide +kernel
theorem dX12_keeps_22 : decode cX12_keeps 22 = .ok (.getfield 22, 3) := by decide +kernel
theorem dX12_keeps_25 : decode cX12_keeps 25 = .ok (.iastore, 1) := by decide +kernel
theorem dX12_keeps_26 : decode cX12_keeps 26 = .ok (.aload_n 0, 1) := by decide +kernel
theorem dX12_keeps_27 : decode cX12_keeps 27 = .ok (.getfield 46, 3) := by decide +kernel
theorem dX12_keeps_30 : decode cX12_keeps 30 = .ok (.aload_n 0, 1) := by decide +kernel
theorem dX12_keeps_31 : decode cX12_keeps 31 = .ok (.getfield 305, 3) := by decide +kernel
theorem dX12_keeps_34 : decode cX12_keeps 34 = .ok (.aload_n 0, 1) := by decide +kernel
theorem dX12_keeps_35 : decode cX12_keeps 35 = .ok (.getfield 26, 3) := by decide +kernel
theorem dX12_keeps_38 : decode cX12_keeps 38 = .ok (.iastore, 1) := by decide +kernel
theorem dX12_keeps_39 : decode cX12_keeps 39 = .ok (.aload_n 0, 1) := by decide +kernel
theorem dX12_keeps_40 : decode cX12_keeps 40 = .ok (.getfield 49, 3) := by decide +kernel
theorem dX12_keeps_43 : decode cX12_keeps 43 = .ok (.aload_n 0, 1) := by decide +kernel
theorem dX12_keeps_44 : decode cX12_keeps 44 = .ok (.getfield 305, 3) := by decide +kernel
theorem dX12_keeps_47 : decode cX12_keeps 47 = .ok (.aload_n 0, 1) := by decide +kernel
theorem dX12_keeps_48 : decode cX12_keeps 48 = .ok (.getfield 29, 3) := by decide +kernel
theorem dX12_keeps_51 : decode cX12_keeps 51 = .ok (.iastore, 1) := by decide +kernel
theorem dX12_keeps_52 : decode cX12_keeps 52 = .ok (.aload_n 0, 1) := by decide +kernel
theorem dX12_keeps_53 : decode cX12_keeps 53 = .ok (.getfield 52, 3) := by decide +kernel
theorem dX12_keeps_56 : decode cX12_keeps 56 = .ok (.aload_n 0, 1) := by decide +kernel
theorem dX12_keeps_57 : decode cX12_keeps 57 = .ok (.getfield 305, 3) := by decide +kernel
theorem dX12_keeps_60 : decode cX12_keeps 60 = .ok (.aload_n 0, 1) := by decide +kernel
theorem dX12_keeps_61 : decode cX12_keeps 61 = .ok (.getfield 32, 3) := by decide +kernel
theorem dX12_keeps_64 : decode cX12_keeps 64 = .ok (.bastore, 1) := by decide +kernel
theorem dX12_keeps_65 : decode cX12_keeps 65 = .ok (.aload_n 0, 1) := by decide +kernel
theorem dX12_keeps_66 : decode cX12_keeps 66 = .ok (.getfield 56, 3) := by decide +kernel
theorem dX12_keeps_69 : decode cX12_keeps 69 = .ok (.aload_n 0, 1) := by decide +kernel
theorem dX12_keeps_70 : decode cX12_keeps 70 = .ok (.getfield 305, 3) := by decide +kernel
theorem dX12_keeps_73 : decode cX12_keeps 73 = .ok (.iload 5, 2) := by decide +kernel
theorem dX12_keeps_75 : decode cX12_keeps 75 = .ok (.iastore, 1) := by decide +kernel
theorem dX12_keeps_76 : decode cX12_keeps 76 = .ok (.aload_n 0, 1) := by decide +kernel
theorem dX12_keeps_77 : decode cX12_keeps 77 = .ok (.getfield 59, 3) := by decide +kernel
theorem dX12_keeps_80 : decode cX12_keeps 80 = .ok (.aload_n 0, 1) := by decide +kernel
theorem dX12_keeps_81 : decode cX12_keeps 81 = .ok (.getfield 305, 3) := by decide +kernel
theorem dX12_keeps_84 : decode cX12_keeps 84 = .ok (.iload 6, 2) := by decide +kernel
theorem dX12_keeps_86 : decode cX12_keeps 86 = .ok (.iastore, 1) := by decide +kernel
theorem dX12_keeps_87 : decode cX12_keeps 87 = .ok (.aload_n 0, 1) := by decide +kernel
theorem dX12_keeps_88 : decode cX12_keeps 88 = .ok (.getfield 62, 3) := by decide +kernel
theorem dX12_keeps_91 : decode cX12_keeps 91 = .ok (.aload_n 0, 1) := by decide +kernel
theorem dX12_keeps_92 : decode cX12_keeps 92 = .ok (.getfield 305, 3) := by decide +kernel
theorem dX12_keeps_95 : decode cX12_keeps 95 = .ok (.iload 4, 2) := by decide +kernel
theorem dX12_keeps_97 : decode cX12_keeps 97 = .ok (.iastore, 1) := by decide +kernel
theorem dX12_keeps_98 : decode cX12_keeps 98 = .ok (.aload_n 0, 1) := by decide +kernel
theorem dX12_keeps_99 : decode cX12_keeps 99 = .ok (.getfield 65, 3) := by decide +kernel
theorem dX12_keeps_102 : decode cX12_keeps 102 = .ok (.aload_n 0, 1) := by decide +kernel
theorem dX12_keeps_103 : decode cX12_keeps 103 = .ok (.getfield 305, 3) := by decide +kernel
theorem dX12_keeps_106 : decode cX12_keeps 106 = .ok (.aload_n 0, 1) := by decide +kernel
theorem dX12_keeps_107 : decode cX12_keeps 107 = .ok (.invokevirtual 322, 3) := by decide +kernel
theorem dX12_keeps_110 : decode cX12_keeps 110 = .ok (.lastore, 1) := by decide +kernel
theorem dX12_keeps_111 : decode cX12_keeps 111 = .ok (.aload_n 0, 1) := by decide +kernel
theorem dX12_keeps_112 : decode cX12_keeps 112 = .ok (.getfield 70, 3) := by decide +kernel
theorem dX12_keeps_115 : decode cX12_keeps 115 = .ok (.aload_n 0, 1) := by decide +kernel
theorem dX12_keeps_116 : decode cX12_keeps 116 = .ok (.getfield 305, 3) := by decide +kernel
theorem dX12_keeps_119 : decode cX12_keeps 119 = .ok (.aload_n 0, 1) := by decide +kernel
theorem dX12_keeps_120 : decode cX12_keeps 120 = .ok (.getfield 155, 3) := by decide +kernel
theorem dX12_keeps_123 : decode cX12_keeps 123 = .ok (.aastore, 1) := by decide +kernel
theorem dX12_keeps_124 : decode cX12_keeps 124 = .ok (.aload_n 0, 1) := by decide +kernel
theorem dX12_keeps_125 : decode cX12_keeps 125 = .ok (.getfield 74, 3) := by decide +kernel
theorem dX12_keeps_128 : decode cX12_keeps 128 = .ok (.aload_n 0, 1) := by decide +kernel
theorem dX12_keeps_129 : decode cX12_keeps 129 = .ok (.getfield 305, 3) := by decide +kernel
theorem dX12_keeps_132 : decode cX12_keeps 132 = .ok (.aload_n 0, 1) := by decide +kernel
theorem dX12_keeps_133 : decode cX12_keeps 133 = .ok (.getfield 205, 3) := by decide +kernel
theorem dX12_keeps_136 : decode cX12_keeps 136 = .ok (.aastore, 1) := by decide +kernel
theorem dX12_keeps_137 : decode cX12_keeps 137 = .ok (.aload_n 0, 1) := by decide +kernel
theorem dX12_keeps_138 : decode cX12_keeps 138 = .ok (.getfield 80, 3) := by decide +kernel
theorem dX12_keeps_141 : decode cX12_keeps 141 = .ok (.aload_n 0, 1) := by decide +kernel
theorem dX12_keeps_142 : decode cX12_keeps 142 = .ok (.getfield 305, 3) := by decide +kernel
theorem dX12_keeps_145 : decode cX12_keeps 145 = .ok (.aload_n 1, 1) := by decide +kernel
theorem dX12_keeps_146 : decode cX12_keeps 146 = .ok (.aastore, 1) := by decide +kernel
theorem dX12_keeps_147 : decode cX12_keeps 147 = .ok (.aload_n 0, 1) := by decide +kernel
theorem dX12_keeps_148 : decode cX12_keeps 148 = .ok (.getfield 83, 3) := by decide +kernel
theorem dX12_keeps_151 : decode cX12_keeps 151 = .ok (.aload_n 0, 1) := by decide +kernel
theorem dX12_keeps_152 : decode cX12_keeps 152 = .ok (.getfield 305, 3) := by decide +kernel
theorem dX12_keeps_155 : decode cX12_keeps 155 = .ok (.aload_n 0, 1) := by decide +kernel
theorem dX12_keeps_156 : decode cX12_keeps 156 = .ok (.getfield 258, 3) := by decide +kernel
theorem dX12_keeps_159 : decode cX12_keeps 159 = .ok (.aastore, 1) := by decide +kernel
theorem dX12_keeps_160 : decode cX12_keeps 160 = .ok (.aload_n 0, 1) := by decide +kernel
theorem dX12_keeps_161 : decode cX12_keeps 161 = .ok (.getfield 86, 3) := by decide +kernel
theorem dX12_keeps_164 : decode cX12_keeps 164 = .ok (.aload_n 0, 1) := by decide +kernel
theorem dX12_keeps_165 : decode cX12_keeps 165 = .ok (.getfield 305, 3) := by decide +kernel
theorem dX12_keeps_168 : decode cX12_keeps 168 = .ok (.aload_n 0, 1) := by decide +kernel
theorem dX12_keeps_169 : decode cX12_keeps 169 = .ok (.getfield 168, 3) := by decide +kernel
theorem dX12_keeps_172 : decode cX12_keeps 172 = .ok (.aastore, 1) := by decide +kernel
theorem dX12_keeps_173 : decode cX12_keeps 173 = .ok (.aload_n 0, 1) := by decide +kernel
theorem dX12_keeps_174 : decode cX12_keeps 174 = .ok (.getfield 77, 3) := by decide +kernel
theorem dX12_keeps_177 : decode cX12_keeps 177 = .ok (.iconst 2, 1) := by decide +kernel
theorem dX12_keeps_178 : decode cX12_keeps 178 = .ok (.aload_n 0, 1) := by decide +kernel
theorem dX12_keeps_179 : decode cX12_keeps 179 = .ok (.getfield 305, 3) := by decide +kernel
theorem dX12_keeps_182 : decode cX12_keeps 182 = .ok (.imul, 1) := by decide +kernel
theorem dX12_keeps_183 : decode cX12_keeps 183 = .ok (.aload_n 2, 1) := by decide +kernel
theorem dX12_keeps_184 : decode cX12_keeps 184 = .ok (.aastore, 1) := by decide +kernel
theorem dX12_keeps_185 : decode cX12_keeps 185 = .ok (.aload_n 0, 1) := by decide +kernel
theorem dX12_keeps_186 : decode cX12_keeps 186 = .ok (.getfield 77, 3) := by decide +kernel
theorem dX12_keeps_189 : decode cX12_keeps 189 = .ok (.iconst 2, 1) := by decide +kernel
theorem dX12_keeps_190 : decode cX12_keeps 190 = .ok (.aload_n 0, 1) := by decide +kernel
theorem dX12_keeps_191 : decode cX12_keeps 191 = .ok (.getfield 305, 3) := by decide +kernel
theorem dX12_keeps_194 : decode cX12_keeps 194 = .ok (.imul, 1) := by decide +kernel
theorem dX12_keeps_195 : decode cX12_keeps 195 = .ok (.iconst 1, 1) := by decide +kernel
theorem dX12_keeps_196 : decode cX12_keeps 196 = .ok (.iadd, 1) := by decide +kernel
theorem dX12_keeps_197 : decode cX12_keeps 197 = .ok (.aload_n 3, 1) := by decide +kernel
theorem dX12_keeps_198 : decode cX12_keeps 198 = .ok (.aastore, 1) := by decide +kernel
theorem dX12_keeps_199 : decode cX12_keeps 199 = .ok (.aload_n 0, 1) := by decide +kernel
theorem dX12_keeps_200 : decode cX12_keeps 200 = .ok (.getfield 32, 3) := by decide +kernel
theorem dX12_keeps_203 : decode cX12_keeps 203 = .ok (.ifCond .eq 22, 3) := by decide +kernel
theorem dX12_keeps_206 : decode cX12_keeps 206 = .ok (.aload_n 0, 1) := by decide +kernel
theorem dX12_keeps_207 : decode cX12_keeps 207 = .ok (.aload_n 0, 1) := by decide +kernel
theorem dX12_keeps_208 : decode cX12_keeps 208 = .ok (.getfield 89, 3) := by decide +kernel
theorem dX12_keeps_211 : decode cX12_keeps 211 = .ok (.aload_n 0, 1) := by decide +kernel
theorem dX12_keeps_212 : decode cX12_keeps 212 = .ok (.getfield 302, 3) := by decide +kernel
theorem dX12_keeps_215 : decode cX12_keeps 215 = .ok (.aload_n 0, 1) := by decide +kernel
theorem dX12_keeps_216 : decode cX12_keeps 216 = .ok (.getfield 305, 3) := by decide +kernel
theorem dX12_keeps_219 : decode cX12_keeps 219 = .ok (.invokestatic 326, 3) := by decide +kernel
theorem dX12_keeps_222 : decode cX12_keeps 222 = .ok (.putfield 302, 3) := by decide +kernel
theorem dX12_keeps_225 : decode cX12_keeps 225 = .ok (.aload_n 0, 1) := by decide +kernel
theorem dX12_keeps_226 : decode cX12_keeps 226 = .ok (.dup, 1) := by decide +kernel
theorem dX12_keeps_227 : decode cX12_keeps 227 = .ok (.getfield 305, 3) := by decide +kernel
theorem dX12_keeps_230 : decode cX12_keeps 230 = .ok (.iconst 1, 1) := by decide +kernel
theorem dX12_keeps_231 : decode cX12_keeps 231 = .ok (.iadd, 1) := by decide +kernel
theorem dX12_keeps_232 : decode cX12_keeps 232 = .ok (.putfield 305, 3) := by decide +kernel
theorem dX12_keeps_235 : decode cX12_keeps 235 = .ok (.return_, 1) := by decide +kernel
theorem dX12_keeps__0 : decode cX12_keeps_ 0 = .ok (.iload_n 1, 1) := by decide +kernel
theorem dX12_keeps__1 : decode cX12_keeps_ 1 = .ok (.iconst 2, 1) := by decide +kernel
theorem dX12_keeps__2 : decode cX12_keeps_ 2 = .ok (.invokestatic 3, 3) := by decide +kernel
theorem dX12_keeps__5 : decode cX12_keeps_ 5 = .ok (.istore_n 3, 1) := by decide +kernel
theorem dX12_keeps__6 : decode cX12_keeps_ 6 = .ok (.iload_n 3, 1) := by decide +kernel
theorem dX12_keeps__7 : decode cX12_keeps_ 7 = .ok (.ifCond .le 17, 3) := by decide +kernel
theorem dX12_keeps__10 : decode cX12_keeps_ 10 = .ok (.aload_n 0, 1) := by decide +kernel
theorem dX12_keeps__11 : decode cX12_keeps_ 11 = .ok (.iload_n 3, 1) := by decide +kernel
theorem dX12_keeps__12 : decode cX12_keeps_ 12 = .ok (.aload_n 0, 1) := by decide +kernel
theorem dX12_keeps__13 : decode cX12_keeps_ 13 = .ok (.iload_n 3, 1) := by decide +kernel
theorem dX12_keeps__14 : decode cX12_keeps_ 14 = .ok (.iconst 1, 1) := by decide +kernel
theorem dX12_keeps__15 : decode cX12_keeps_ 15 = .ok (.isub, 1) := by decide +kernel
theorem dX12_keeps__16 : decode cX12_keeps_ 16 = .ok (.iaload, 1) := by decide +kernel
theorem dX12_keeps__17 : decode cX12_keeps_ 17 = .ok (.iastore, 1) := by decide +kernel
theorem dX12_keeps__18 : decode cX12_keeps_ 18 = .ok (.iinc 3 (-1), 3) := by decide +kernel
theorem dX12_keeps__21 : decode cX12_keeps_ 21 = .ok (.goto (-15), 3) := by decide +kernel
theorem dX12_keeps__24 : decode cX12_keeps_ 24 = .ok (.aload_n 0, 1) := by decide +kernel
theorem dX12_keeps__25 : decode cX12_keeps_ 25 = .ok (.iconst 0, 1) := by decide +kernel
theorem dX12_keeps__26 : decode cX12_keeps_ 26 = .ok (.iload_n 2, 1) := by decide +kernel
theorem dX12_keeps__27 : decode cX12_keeps_ 27 = .ok (.iastore, 1) := by decide +kernel
theorem dX12_keeps__28 : decode cX12_keeps_ 28 = .ok (.iconst 3, 1) := by decide +kernel
theorem dX12_keeps__29 : decode cX12_keeps_ 29 = .ok (.iload_n 1, 1) := by decide +kernel
theorem dX12_keeps__30 : decode cX12_keeps_ 30 = .ok (.iconst 1, 1) := by decide +kernel
theorem dX12_keeps__31 : decode cX12_keeps_ 31 = .ok (.iadd, 1) := by decide +kernel
theorem dX12_keeps__32 : decode cX12_keeps_ 32 = .ok (.invokestatic 3, 3) := by decide +kernel
theorem dX12_keeps__35 : decode cX12_keeps_ 35 = .ok (.ireturn, 1) := by decide +kernel
theorem dX12_pictures_0 : decode cX12_pictures 0 = .ok (.aload_n 0, 1) := by decide +kernel
theorem dX12_pictures_1 : decode cX12_pictures 1 = .ok (.iconst 0, 1) := by decide +kernel
theorem dX12_pictures_2 : decode cX12_pictures 2 = .ok (.putfield 110, 3) := by decide +kernel
theorem dX12_pictures_5 : decode cX12_pictures 5 = .ok (.aload_n 0, 1) := by decide +kernel
theorem dX12_pictures_6 : decode cX12_pictures 6 = .ok (.getfield 305, 3) := by decide +kernel
theorem dX12_pictures_9 : decode cX12_pictures 9 = .ok (.ireturn, 1) := by decide +kernel
theorem dX12_kept_0 : decode cX12_kept 0 = .ok (.aload_n 0, 1) := by decide +kernel
theorem dX12_kept_1 : decode cX12_kept 1 = .ok (.iconst 0, 1) := by decide +kernel
theorem dX12_kept_2 : decode cX12_kept 2 = .ok (.putfield 110, 3) := by decide +kernel
theorem dX12_kept_5 : decode cX12_kept 5 = .ok (.aload_n 0, 1) := by decide +kernel
theorem dX12_kept_6 : decode cX12_kept 6 = .ok (.getfield 302, 3) := by decide +kernel
theorem dX12_kept_9 : decode cX12_kept 9 = .ok (.ireturn, 1) := by decide +kernel
theorem dX12_keptAt_0 : decode cX12_keptAt 0 = .ok (.aload_n 0, 1) := by decide +kernel
theorem dX12_keptAt_1 : decode cX12_keptAt 1 = .ok (.iload_n 1, 1) := by decide +kernel
theorem dX12_keptAt_2 : decode cX12_keptAt 2 = .ok (.iconst 0, 1) := by decide +kernel
theorem dX12_keptAt_3 : decode cX12_keptAt 3 = .ok (.aload_n 0, 1) := by decide +kernel
theorem dX12_keptAt_4 : decode cX12_keptAt 4 = .ok (.getfield 302, 3) := by decide +kernel
theorem dX12_keptAt_7 : decode cX12_keptAt 7 = .ok (.iconst 1, 1) := by decide +kernel
theorem dX12_keptAt_8 : decode cX12_keptAt 8 = .ok (.isub, 1) := by decide +kernel
theorem dX12_keptAt_9 : decode cX12_keptAt 9 = .ok (.invokestatic 113, 3) := by decide +kernel
theorem dX12_keptAt_12 : decode cX12_keptAt 12 = .ok (.ifCond .eq 7, 3) := by decide +kernel
theorem dX12_keptAt_15 : decode cX12_keptAt 15 = .ok (.iconst 0, 1) := by decide +kernel
theorem dX12_keptAt_16 : decode cX12_keptAt 16 = .ok (.goto 4, 3) := by decide +kernel
theorem dX12_keptAt_19 : decode cX12_keptAt 19 = .ok (.iconst 1, 1) := by decide +kernel
theorem dX12_keptAt_20 : decode cX12_keptAt 20 = .ok (.putfield 110, 3) := by decide +kernel
theorem dX12_keptAt_23 : decode cX12_keptAt 23 = .ok (.aload_n 0, 1) := by decide +kernel
theorem dX12_keptAt_24 : decode cX12_keptAt 24 = .ok (.getfield 110, 3) := by decide +kernel
theorem dX12_keptAt_27 : decode cX12_keptAt 27 = .ok (.ifCond .ne 12, 3) := by decide +kernel
theorem dX12_keptAt_30 : decode cX12_keptAt 30 = .ok (.aload_n 0, 1) := by decide +kernel
theorem dX12_keptAt_31 : decode cX12_keptAt 31 = .ok (.getfield 89, 3) := by decide +kernel
theorem dX12_keptAt_34 : decode cX12_keptAt 34 = .ok (.iload_n 1, 1) := by decide +kernel
theorem dX12_keptAt_35 : decode cX12_keptAt 35 = .ok (.iaload, 1) := by decide +kernel
theorem dX12_keptAt_36 : decode cX12_keptAt 36 = .ok (.goto 4, 3) := by decide +kernel
theorem dX12_keptAt_39 : decode cX12_keptAt 39 = .ok (.iconst 0, 1) := by decide +kernel
theorem dX12_keptAt_40 : decode cX12_keptAt 40 = .ok (.ireturn, 1) := by decide +kernel
theorem dX12_coarseness_0 : decode cX12_coarseness 0 = .ok (.aload_n 0, 1) := by decide +kernel
theorem dX12_coarseness_1 : decode cX12_coarseness 1 = .ok (.iconst 0, 1) := by decide +kernel
theorem dX12_coarseness_2 : decode cX12_coarseness 2 = .ok (.putfield 110, 3) := by decide +kernel
theorem dX12_coarseness_5 : decode cX12_coarseness 5 = .ok (.aload_n 0, 1) := by decide +kernel
theorem dX12_coarseness_6 : decode cX12_coarseness 6 = .ok (.getfield 22, 3) := by decide +kernel
theorem dX12_coarseness_9 : decode cX12_coarseness 9 = .ok (.ireturn, 1) := by decide +kernel
theorem dX12_bucket_0 : decode cX12_bucket 0 = .ok (.aload_n 0, 1) := by decide +kernel
theorem dX12_bucket_1 : decode cX12_bucket 1 = .ok (.aload_n 0, 1) := by decide +kernel
theorem dX12_bucket_2 : decode cX12_bucket 2 = .ok (.getfield 36, 3) := by decide +kernel
theorem dX12_bucket_5 : decode cX12_bucket 5 = .ok (.iconst (-1), 1) := by decide +kernel
theorem dX12_bucket_6 : decode cX12_bucket 6 = .ok (.if_icmp .ne 7, 3) := by decide +kernel
theorem dX12_bucket_9 : decode cX12_bucket 9 = .ok (.iconst 1, 1) := by decide +kernel
theorem dX12_bucket_10 : decode cX12_bucket 10 = .ok (.goto 4, 3) := by decide +kernel
theorem dX12_bucket_13 : decode cX12_bucket 13 = .ok (.iconst 0, 1) := by decide +kernel
theorem dX12_bucket_14 : decode cX12_bucket 14 = .ok (.putfield 110, 3) := by decide +kernel
theorem dX12_bucket_17 : decode cX12_bucket 17 = .ok (.aload_n 0, 1) := by decide +kernel
theorem dX12_bucket_18 : decode cX12_bucket 18 = .ok (.getfield 110, 3) := by decide +kernel
theorem dX12_bucket_21 : decode cX12_bucket 21 = .ok (.ifCond .ne 10, 3) := by decide +kernel
theorem dX12_bucket_24 : decode cX12_bucket 24 = .ok (.aload_n 0, 1) := by decide +kernel
theorem dX12_bucket_25 : decode cX12_bucket 25 = .ok (.getfield 36, 3) := by decide +kernel
theorem dX12_bucket_28 : decode cX12_bucket 28 = .ok (.goto 4, 3) := by decide +kernel
theorem dX12_bucket_31 : decode cX12_bucket 31 = .ok (.iconst 0, 1) := by decide +kernel
theorem dX12_bucket_32 : decode cX12_bucket 32 = .ok (.ireturn, 1) := by decide +kernel
theorem dX12_noPicture_0 : decode cX12_noPicture 0 = .ok (.aload_n 0, 1) := by decide +kernel
theorem dX12_noPicture_1 : decode cX12_noPicture 1 = .ok (.iload_n 1, 1) := by decide +kernel
theorem dX12_noPicture_2 : decode cX12_noPicture 2 = .ok (.iconst 0, 1) := by decide +kernel
theorem dX12_noPicture_3 : decode cX12_noPicture 3 = .ok (.aload_n 0, 1) := by decide +kernel
theorem dX12_noPicture_4 : decode cX12_noPicture 4 = .ok (.getfield 305, 3) := by decide +kernel
theorem dX12_noPicture_7 : decode cX12_noPicture 7 = .ok (.iconst 1, 1) := by decide +kernel
theorem dX12_noPicture_8 : decode cX12_noPicture 8 = .ok (.isub, 1) := by decide +kernel
theorem dX12_noPicture_9 : decode cX12_noPicture 9 = .ok (.invokestatic 113, 3) := by decide +kernel
theorem dX12_noPicture_12 : decode cX12_noPicture 12 = .ok (.ifCond .eq 7, 3) := by decide +kernel
theorem dX12_noPicture_15 : decode cX12_noPicture 15 = .ok (.iconst 0, 1) := by decide +kernel
theorem dX12_noPicture_16 : decode cX12_noPicture 16 = .ok (.goto 4, 3) := by decide +kernel
theorem dX12_noPicture_19 : decode cX12_noPicture 19 = .ok (.iconst 1, 1) := by decide +kernel
theorem dX12_noPicture_20 : decode cX12_noPicture 20 = .ok (.putfield 110, 3) := by decide +kernel
theorem dX12_noPicture_23 : decode cX12_noPicture 23 = .ok (.aload_n 0, 1) := by decide +kernel
theorem dX12_noPicture_24 : decode cX12_noPicture 24 = .ok (.getfield 110, 3) := by decide +kernel
theorem dX12_noPicture_27 : decode cX12_noPicture 27 = .ok (.ifCond .le 7, 3) := by decide +kernel
theorem dX12_noPicture_30 : decode cX12_noPicture 30 = .ok (.iconst 1, 1) := by decide +kernel
theorem dX12_noPicture_31 : decode cX12_noPicture 31 = .ok (.goto 4, 3) := by decide +kernel
theorem dX12_noPicture_34 : decode cX12_noPicture 34 = .ok (.iconst 0, 1) := by decide +kernel
theorem dX12_noPicture_35 : decode cX12_noPicture 35 = .ok (.ireturn, 1) := by decide +kernel
theorem dX12_noPlace_0 : decode cX12_noPlace 0 = .ok (.aload_n 0, 1) := by decide +kernel
theorem dX12_noPlace_1 : decode cX12_noPlace 1 = .ok (.iload_n 1, 1) := by decide +kernel
theorem dX12_noPlace_2 : decode cX12_noPlace 2 = .ok (.iconst 0, 1) := by decide +kernel
theorem dX12_noPlace_3 : decode cX12_noPlace 3 = .ok (.aload_n 0, 1) := by decide +kernel
theorem dX12_noPlace_4 : decode cX12_noPlace 4 = .ok (.getfield 305, 3) := by decide +kernel
theorem dX12_noPlace_7 : decode cX12_noPlace 7 = .ok (.iconst 1, 1) := by decide +kernel
theorem dX12_noPlace_8 : decode cX12_noPlace 8 = .ok (.isub, 1) := by decide +kernel
theorem dX12_noPlace_9 : decode cX12_noPlace 9 = .ok (.invokestatic 113, 3) := by decide +kernel
theorem dX12_noPlace_12 : decode cX12_noPlace 12 = .ok (.ifCond .eq 15, 3) := by decide +kernel
theorem dX12_noPlace_15 : decode cX12_noPlace 15 = .ok (.iload_n 2, 1) := by decide +kernel
theorem dX12_noPlace_16 : decode cX12_noPlace 16 = .ok (.iload_n 3, 1) := by decide +kernel
theorem dX12_noPlace_17 : decode cX12_noPlace 17 = .ok (.invokestatic 126, 3) := by decide +kernel
theorem dX12_noPlace_20 : decode cX12_noPlace 20 = .ok (.ifCond .eq 7, 3) := by decide +kernel
theorem dX12_noPlace_23 : decode cX12_noPlace 23 = .ok (.iconst 0, 1) := by decide +kernel
theorem dX12_noPlace_24 : decode cX12_noPlace 24 = .ok (.goto 4, 3) := by decide +kernel
theorem dX12_noPlace_27 : decode cX12_noPlace 27 = .ok (.iconst 1, 1) := by decide +kernel
theorem dX12_noPlace_28 : decode cX12_noPlace 28 = .ok (.putfield 110, 3) := by decide +kernel
theorem dX12_noPlace_31 : decode cX12_noPlace 31 = .ok (.aload_n 0, 1) := by decide +kernel
theorem dX12_noPlace_32 : decode cX12_noPlace 32 = .ok (.getfield 110, 3) := by decide +kernel
theorem dX12_noPlace_35 : decode cX12_noPlace 35 = .ok (.ifCond .le 7, 3) := by decide +kernel
theorem dX12_noPlace_38 : decode cX12_noPlace 38 = .ok (.iconst 1, 1) := by decide +kernel
theorem dX12_noPlace_39 : decode cX12_noPlace 39 = .ok (.goto 4, 3) := by decide +kernel
theorem dX12_noPlace_42 : decode cX12_noPlace 42 = .ok (.iconst 0, 1) := by decide +kernel
theorem dX12_noPlace_43 : decode cX12_noPlace 43 = .ok (.ireturn, 1) := by decide +kernel
theorem dX12_kindOf_0 : decode cX12_kindOf 0 = .ok (.aload_n 0, 1) := by decide +kernel
theorem dX12_kindOf_1 : decode cX12_kindOf 1 = .ok (.iload_n 1, 1) := by decide +kernel
theorem dX12_kindOf_2 : decode cX12_kindOf 2 = .ok (.invokevirtual 328, 3) := by decide +kernel
theorem dX12_kindOf_5 : decode cX12_kindOf 5 = .ok (.ifCond .eq 8, 3) := by decide +kernel
theorem dX12_kindOf_8 : decode cX12_kindOf 8 = .ok (.bipush 32, 2) := by decide +kernel
theorem dX12_kindOf_10 : decode cX12_kindOf 10 = .ok (.goto 9, 3) := by decide +kernel
theorem dX12_kindOf_13 : decode cX12_kindOf 13 = .ok (.aload_n 0, 1) := by decide +kernel
theorem dX12_kindOf_14 : decode cX12_kindOf 14 = .ok (.getfield 39, 3) := by decide +kernel
theorem dX12_kindOf_17 : decode cX12_kindOf 17 = .ok (.iload_n 1, 1) := by decide +kernel
theorem dX12_kindOf_18 : decode cX12_kindOf 18 = .ok (.caload, 1) := by decide +kernel
theorem dX12_kindOf_19 : decode cX12_kindOf 19 = .ok (.ireturn, 1) := by decide +kernel
theorem dX12_coarsenessOf_0 : decode cX12_coarsenessOf 0 = .ok (.aload_n 0, 1) := by decide +kernel
theorem dX12_coarsenessOf_1 : decode cX12_coarsenessOf 1 = .ok (.iload_n 1, 1) := by decide +kernel
theorem dX12_coarsenessOf_2 : decode cX12_coarsenessOf 2 = .ok (.invokevirtual 328, 3) := by decide +kernel
theorem dX12_coarsenessOf_5 : decode cX12_coarsenessOf 5 = .ok (.ifCond .eq 7, 3) := by decide +kernel
theorem dX12_coarsenessOf_8 : decode cX12_coarsenessOf 8 = .ok (.iconst 0, 1) := by decide +kernel
theorem dX12_coarsenessOf_9 : decode cX12_coarsenessOf 9 = .ok (.goto 9, 3) := by decide +kernel
theorem dX12_coarsenessOf_12 : decode cX12_coarsenessOf 12 = .ok (.aload_n 0, 1) := by decide +kernel
theorem dX12_coarsenessOf_13 : decode cX12_coarsenessOf 13 = .ok (.getfield 43, 3) := by decide +kernel
theorem dX12_coarsenessOf_16 : decode cX12_coarsenessOf 16 = .ok (.iload_n 1, 1) := by decide +kernel
theorem dX12_coarsenessOf_17 : decode cX12_coarsenessOf 17 = .ok (.iaload, 1) := by decide +kernel
theorem dX12_coarsenessOf_18 : decode cX12_coarsenessOf 18 = .ok (.ireturn, 1) := by decide +kernel
theorem dX12_noSlice_0 : decode cX12_noSlice 0 = .ok (.aload_n 0, 1) := by decide +kernel
theorem dX12_noSlice_1 : decode cX12_noSlice 1 = .ok (.iload_n 1, 1) := by decide +kernel
theorem dX12_noSlice_2 : decode cX12_noSlice 2 = .ok (.iconst 0, 1) := by decide +kernel
theorem dX12_noSlice_3 : decode cX12_noSlice 3 = .ok (.aload_n 0, 1) := by decide +kernel
theorem dX12_noSlice_4 : decode cX12_noSlice 4 = .ok (.getfield 305, 3) := by decide +kernel
theorem dX12_noSlice_7 : decode cX12_noSlice 7 = .ok (.iconst 1, 1) := by decide +kernel
theorem dX12_noSlice_8 : decode cX12_noSlice 8 = .ok (.isub, 1) := by decide +kernel
theorem dX12_noSlice_9 : decode cX12_noSlice 9 = .ok (.invokestatic 113, 3) := by decide +kernel
theorem dX12_noSlice_12 : decode cX12_noSlice 12 = .ok (.ifCond .eq 23, 3) := by decide +kernel
theorem dX12_noSlice_15 : decode cX12_noSlice 15 = .ok (.iload_n 2, 1) := by decide +kernel
theorem dX12_noSlice_16 : decode cX12_noSlice 16 = .ok (.iconst 0, 1) := by decide +kernel
theorem dX12_noSlice_17 : decode cX12_noSlice 17 = .ok (.aload_n 0, 1) := by decide +kernel
theorem dX12_noSlice_18 : decode cX12_noSlice 18 = .ok (.getfield 49, 3) := by decide +kernel
theorem dX12_noSlice_21 : decode cX12_noSlice 21 = .ok (.iload_n 1, 1) := by decide +kernel
theorem dX12_noSlice_22 : decode cX12_noSlice 22 = .ok (.iaload, 1) := by decide +kernel
theorem dX12_noSlice_23 : decode cX12_noSlice 23 = .ok (.iconst 1, 1) := by decide +kernel
theorem dX12_noSlice_24 : decode cX12_noSlice 24 = .ok (.isub, 1) := by decide +kernel
theorem dX12_noSlice_25 : decode cX12_noSlice 25 = .ok (.invokestatic 113, 3) := by decide +kernel
theorem dX12_noSlice_28 : decode cX12_noSlice 28 = .ok (.ifCond .eq 7, 3) := by decide +kernel
theorem dX12_noSlice_31 : decode cX12_noSlice 31 = .ok (.iconst 0, 1) := by decide +kernel
theorem dX12_noSlice_32 : decode cX12_noSlice 32 = .ok (.goto 4, 3) := by decide +kernel
theorem dX12_noSlice_35 : decode cX12_noSlice 35 = .ok (.iconst 1, 1) := by decide +kernel
theorem dX12_noSlice_36 : decode cX12_noSlice 36 = .ok (.putfield 110, 3) := by decide +kernel
theorem dX12_noSlice_39 : decode cX12_noSlice 39 = .ok (.aload_n 0, 1) := by decide +kernel
theorem dX12_noSlice_40 : decode cX12_noSlice 40 = .ok (.getfield 110, 3) := by decide +kernel
theorem dX12_noSlice_43 : decode cX12_noSlice 43 = .ok (.ifCond .le 7, 3) := by decide +kernel
theorem dX12_noSlice_46 : decode cX12_noSlice 46 = .ok (.iconst 1, 1) := by decide +kernel
theorem dX12_noSlice_47 : decode cX12_noSlice 47 = .ok (.goto 4, 3) := by decide +kernel
theorem dX12_noSlice_50 : decode cX12_noSlice 50 = .ok (.iconst 0, 1) := by decide +kernel
theorem dX12_noSlice_51 : decode cX12_noSlice 51 = .ok (.ireturn, 1) := by decide +kernel
theorem dX12_bytes_0 : decode cX12_bytes 0 = .ok (.aload_n 0, 1) := by decide +kernel
theorem dX12_bytes_1 : decode cX12_bytes 1 = .ok (.iload_n 1, 1) := by decide +kernel
theorem dX12_bytes_2 : decode cX12_bytes 2 = .ok (.iload_n 2, 1) := by decide +kernel
theorem dX12_bytes_3 : decode cX12_bytes 3 = .ok (.invokevirtual 332, 3) := by decide +kernel
theorem dX12_bytes_6 : decode cX12_bytes 6 = .ok (.ifCond .eq 7, 3) := by decide +kernel
theorem dX12_bytes_9 : decode cX12_bytes 9 = .ok (.iconst 0, 1) := by decide +kernel
theorem dX12_bytes_10 : decode cX12_bytes 10 = .ok (.goto 14, 3) := by decide +kernel
theorem dX12_bytes_13 : decode cX12_bytes 13 = .ok (.aload_n 0, 1) := by decide +kernel
theorem dX12_bytes_14 : decode cX12_bytes 14 = .ok (.getfield 77, 3) := by decide +kernel
theorem dX12_bytes_17 : decode cX12_bytes 17 = .ok (.iconst 2, 1) := by decide +kernel
theorem dX12_bytes_18 : decode cX12_bytes 18 = .ok (.iload_n 1, 1) := by decide +kernel
theorem dX12_bytes_19 : decode cX12_bytes 19 = .ok (.imul, 1) := by decide +kernel
theorem dX12_bytes_20 : decode cX12_bytes 20 = .ok (.iload_n 2, 1) := by decide +kernel
theorem dX12_bytes_21 : decode cX12_bytes 21 = .ok (.iadd, 1) := by decide +kernel
theorem dX12_bytes_22 : decode cX12_bytes 22 = .ok (.aaload, 1) := by decide +kernel
theorem dX12_bytes_23 : decode cX12_bytes 23 = .ok (.arraylength, 1) := by decide +kernel
theorem dX12_bytes_24 : decode cX12_bytes 24 = .ok (.ireturn, 1) := by decide +kernel
theorem dX12_byteAt_0 : decode cX12_byteAt 0 = .ok (.aload_n 0, 1) := by decide +kernel
theorem dX12_byteAt_1 : decode cX12_byteAt 1 = .ok (.iload_n 1, 1) := by decide +kernel
theorem dX12_byteAt_2 : decode cX12_byteAt 2 = .ok (.iload_n 2, 1) := by decide +kernel
theorem dX12_byteAt_3 : decode cX12_byteAt 3 = .ok (.invokevirtual 332, 3) := by decide +kernel
theorem dX12_byteAt_6 : decode cX12_byteAt 6 = .ok (.ifCond .eq 5, 3) := by decide +kernel
theorem dX12_byteAt_9 : decode cX12_byteAt 9 = .ok (.iconst 0, 1) := by decide +kernel
theorem dX12_byteAt_10 : decode cX12_byteAt 10 = .ok (.ireturn, 1) := by decide +kernel
theorem dX12_byteAt_11 : decode cX12_byteAt 11 = .ok (.aload_n 0, 1) := by decide +kernel
theorem dX12_byteAt_12 : decode cX12_byteAt 12 = .ok (.getfield 77, 3) := by decide +kernel
theorem dX12_byteAt_15 : decode cX12_byteAt 15 = .ok (.iconst 2, 1) := by decide +kernel
theorem dX12_byteAt_16 : decode cX12_byteAt 16 = .ok (.iload_n 1, 1) := by decide +kernel
theorem dX12_byteAt_17 : decode cX12_byteAt 17 = .ok (.imul, 1) := by decide +kernel
theorem dX12_byteAt_18 : decode cX12_byteAt 18 = .ok (.iload_n 2, 1) := by decide +kernel
theorem dX12_byteAt_19 : decode cX12_byteAt 19 = .ok (.iadd, 1) := by decide +kernel
theorem dX12_byteAt_20 : decode cX12_byteAt 20 = .ok (.aaload, 1) := by decide +kernel
theorem dX12_byteAt_21 : decode cX12_byteAt 21 = .ok (.astore 4, 2) := by decide +kernel
theorem dX12_byteAt_23 : decode cX12_byteAt 23 = .ok (.aload_n 0, 1) := by decide +kernel
theorem dX12_byteAt_24 : decode cX12_byteAt 24 = .ok (.iload_n 3, 1) := by decide +kernel
theorem dX12_byteAt_25 : decode cX12_byteAt 25 = .ok (.iconst 0, 1) := by decide +kernel
theorem dX12_byteAt_26 : decode cX12_byteAt 26 = .ok (.aload 4, 2) := by decide +kernel
theorem dX12_byteAt_28 : decode cX12_byteAt 28 = .ok (.arraylength, 1) := by decide +kernel
theorem dX12_byteAt_29 : decode cX12_byteAt 29 = .ok (.iconst 1, 1) := by decide +kernel
theorem dX12_byteAt_30 : decode cX12_byteAt 30 = .ok (.isub, 1) := by decide +kernel
theorem dX12_byteAt_31 : decode cX12_byteAt 31 = .ok (.invokestatic 113, 3) := by decide +kernel
theorem dX12_byteAt_34 : decode cX12_byteAt 34 = .ok (.ifCond .eq 7, 3) := by decide +kernel
theorem dX12_byteAt_37 : decode cX12_byteAt 37 = .ok (.iconst 0, 1) := by decide +kernel
theorem dX12_byteAt_38 : decode cX12_byteAt 38 = .ok (.goto 4, 3) := by decide +kernel
theorem dX12_byteAt_41 : decode cX12_byteAt 41 = .ok (.iconst 1, 1) := by decide +kernel
theorem dX12_byteAt_42 : decode cX12_byteAt 42 = .ok (.putfield 110, 3) := by decide +kernel
theorem dX12_byteAt_45 : decode cX12_byteAt 45 = .ok (.aload_n 0, 1) := by decide +kernel
theorem dX12_byteAt_46 : decode cX12_byteAt 46 = .ok (.getfield 110, 3) := by decide +kernel
theorem dX12_byteAt_49 : decode cX12_byteAt 49 = .ok (.ifCond .ne 10, 3) := by decide +kernel
theorem dX12_byteAt_52 : decode cX12_byteAt 52 = .ok (.aload 4, 2) := by decide +kernel
theorem dX12_byteAt_54 : decode cX12_byteAt 54 = .ok (.iload_n 3, 1) := by decide +kernel
theorem dX12_byteAt_55 : decode cX12_byteAt 55 = .ok (.iaload, 1) := by decide +kernel
theorem dX12_byteAt_56 : decode cX12_byteAt 56 = .ok (.goto 4, 3) := by decide +kernel
theorem dX12_byteAt_59 : decode cX12_byteAt 59 = .ok (.iconst 0, 1) := by decide +kernel
theorem dX12_byteAt_60 : decode cX12_byteAt 60 = .ok (.ireturn, 1) := by decide +kernel
theorem dX12_square_0 : decode cX12_square 0 = .ok (.iconst 4, 1) := by decide +kernel
theorem dX12_square_1 : decode cX12_square 1 = .ok (.iload_n 1, 1) := by decide +kernel
theorem dX12_square_2 : decode cX12_square 2 = .ok (.iconst 4, 1) := by decide +kernel
theorem dX12_square_3 : decode cX12_square 3 = .ok (.idiv, 1) := by decide +kernel
theorem dX12_square_4 : decode cX12_square 4 = .ok (.imul, 1) := by decide +kernel
theorem dX12_square_5 : decode cX12_square 5 = .ok (.iload_n 0, 1) := by decide +kernel
theorem dX12_square_6 : decode cX12_square 6 = .ok (.iconst 4, 1) := by decide +kernel
theorem dX12_square_7 : decode cX12_square 7 = .ok (.idiv, 1) := by decide +kernel
theorem dX12_square_8 : decode cX12_square 8 = .ok (.iadd, 1) := by decide +kernel
theorem dX12_square_9 : decode cX12_square 9 = .ok (.ireturn, 1) := by decide +kernel
theorem dX12_partAt_0 : decode cX12_partAt 0 = .ok (.aload_n 0, 1) := by decide +kernel
theorem dX12_partAt_1 : decode cX12_partAt 1 = .ok (.iload_n 1, 1) := by decide +kernel
theorem dX12_partAt_2 : decode cX12_partAt 2 = .ok (.iload_n 2, 1) := by decide +kernel
theorem dX12_partAt_3 : decode cX12_partAt 3 = .ok (.iload_n 3, 1) := by decide +kernel
theorem dX12_partAt_4 : decode cX12_partAt 4 = .ok (.invokevirtual 335, 3) := by decide +kernel
theorem dX12_partAt_7 : decode cX12_partAt 7 = .ok (.ifCond .eq 7, 3) := by decide +kernel
theorem dX12_partAt_10 : decode cX12_partAt 10 = .ok (.iconst 0, 1) := by decide +kernel
theorem dX12_partAt_11 : decode cX12_partAt 11 = .ok (.goto 15, 3) := by decide +kernel
theorem dX12_partAt_14 : decode cX12_partAt 14 = .ok (.aload_n 0, 1) := by decide +kernel
theorem dX12_partAt_15 : decode cX12_partAt 15 = .ok (.getfield 80, 3) := by decide +kernel
theorem dX12_partAt_18 : decode cX12_partAt 18 = .ok (.iload_n 1, 1) := by decide +kernel
theorem dX12_partAt_19 : decode cX12_partAt 19 = .ok (.aaload, 1) := by decide +kernel
theorem dX12_partAt_20 : decode cX12_partAt 20 = .ok (.iload_n 2, 1) := by decide +kernel
theorem dX12_partAt_21 : decode cX12_partAt 21 = .ok (.iload_n 3, 1) := by decide +kernel
theorem dX12_partAt_22 : decode cX12_partAt 22 = .ok (.invokestatic 338, 3) := by decide +kernel
theorem dX12_partAt_25 : decode cX12_partAt 25 = .ok (.iaload, 1) := by decide +kernel
theorem dX12_partAt_26 : decode cX12_partAt 26 = .ok (.ireturn, 1) := by decide +kernel
theorem dX12_modeAt_0 : decode cX12_modeAt 0 = .ok (.aload_n 0, 1) := by decide +kernel
theorem dX12_modeAt_1 : decode cX12_modeAt 1 = .ok (.iload_n 1, 1) := by decide +kernel
theorem dX12_modeAt_2 : decode cX12_modeAt 2 = .ok (.iload_n 2, 1) := by decide +kernel
theorem dX12_modeAt_3 : decode cX12_modeAt 3 = .ok (.iload_n 3, 1) := by decide +kernel
theorem dX12_modeAt_4 : decode cX12_modeAt 4 = .ok (.invokevirtual 335, 3) := by decide +kernel
theorem dX12_modeAt_7 : decode cX12_modeAt 7 = .ok (.ifCond .eq 7, 3) := by decide +kernel
theorem dX12_modeAt_10 : decode cX12_modeAt 10 = .ok (.iconst 0, 1) := by decide +kernel
theorem dX12_modeAt_11 : decode cX12_modeAt 11 = .ok (.goto 15, 3) := by decide +kernel
theorem dX12_modeAt_14 : decode cX12_modeAt 14 = .ok (.aload_n 0, 1) := by decide +kernel
theorem dX12_modeAt_15 : decode cX12_modeAt 15 = .ok (.getfield 83, 3) := by decide +kernel
theorem dX12_modeAt_18 : decode cX12_modeAt 18 = .ok (.iload_n 1, 1) := by decide +kernel
theorem dX12_modeAt_19 : decode cX12_modeAt 19 = .ok (.aaload, 1) := by decide +kernel
theorem dX12_modeAt_20 : decode cX12_modeAt 20 = .ok (.iload_n 2, 1) := by decide +kernel
theorem dX12_modeAt_21 : decode cX12_modeAt 21 = .ok (.iload_n 3, 1) := by decide +kernel
theorem dX12_modeAt_22 : decode cX12_modeAt 22 = .ok (.invokestatic 338, 3) := by decide +kernel
theorem dX12_modeAt_25 : decode cX12_modeAt 25 = .ok (.iaload, 1) := by decide +kernel
theorem dX12_modeAt_26 : decode cX12_modeAt 26 = .ok (.ireturn, 1) := by decide +kernel
theorem dX12_vectorAt_0 : decode cX12_vectorAt 0 = .ok (.aload_n 0, 1) := by decide +kernel
theorem dX12_vectorAt_1 : decode cX12_vectorAt 1 = .ok (.iload_n 1, 1) := by decide +kernel
theorem dX12_vectorAt_2 : decode cX12_vectorAt 2 = .ok (.iload_n 2, 1) := by decide +kernel
theorem dX12_vectorAt_3 : decode cX12_vectorAt 3 = .ok (.iload_n 3, 1) := by decide +kernel
theorem dX12_vectorAt_4 : decode cX12_vectorAt 4 = .ok (.invokevirtual 335, 3) := by decide +kernel
theorem dX12_vectorAt_7 : decode cX12_vectorAt 7 = .ok (.ifCond .eq 5, 3) := by decide +kernel
theorem dX12_vectorAt_10 : decode cX12_vectorAt 10 = .ok (.iconst 0, 1) := by decide +kernel
theorem dX12_vectorAt_11 : decode cX12_vectorAt 11 = .ok (.ireturn, 1) := by decide +kernel
theorem dX12_vectorAt_12 : decode cX12_vectorAt 12 = .ok (.aload_n 0, 1) := by decide +kernel
theorem dX12_vectorAt_13 : decode cX12_vectorAt 13 = .ok (.getfield 83, 3) := by decide +kernel
theorem dX12_vectorAt_16 : decode cX12_vectorAt 16 = .ok (.iload_n 1, 1) := by decide +kernel
theorem dX12_vectorAt_17 : decode cX12_vectorAt 17 = .ok (.aaload, 1) := by decide +kernel
theorem dX12_vectorAt_18 : decode cX12_vectorAt 18 = .ok (.iload_n 2, 1) := by decide +kernel
theorem dX12_vectorAt_19 : decode cX12_vectorAt 19 = .ok (.iload_n 3, 1) := by decide +kernel
theorem dX12_vectorAt_20 : decode cX12_vectorAt 20 = .ok (.invokestatic 338, 3) := by decide +kernel
theorem dX12_vectorAt_23 : decode cX12_vectorAt 23 = .ok (.iaload, 1) := by decide +kernel
theorem dX12_vectorAt_24 : decode cX12_vectorAt 24 = .ok (.istore 5, 2) := by decide +kernel
theorem dX12_vectorAt_26 : decode cX12_vectorAt 26 = .ok (.aload_n 0, 1) := by decide +kernel
theorem dX12_vectorAt_27 : decode cX12_vectorAt 27 = .ok (.iload 5, 2) := by decide +kernel
theorem dX12_vectorAt_29 : decode cX12_vectorAt 29 = .ok (.bipush 6, 2) := by decide +kernel
theorem dX12_vectorAt_31 : decode cX12_vectorAt 31 = .ok (.if_icmp .eq 18, 3) := by decide +kernel
theorem dX12_vectorAt_34 : decode cX12_vectorAt 34 = .ok (.iload 5, 2) := by decide +kernel
theorem dX12_vectorAt_36 : decode cX12_vectorAt 36 = .ok (.iload 4, 2) := by decide +kernel
theorem dX12_vectorAt_38 : decode cX12_vectorAt 38 = .ok (.ifCond .eq 7, 3) := by decide +kernel
theorem dX12_vectorAt_41 : decode cX12_vectorAt 41 = .ok (.iconst 5, 1) := by decide +kernel
theorem dX12_vectorAt_42 : decode cX12_vectorAt 42 = .ok (.goto 4, 3) := by decide +kernel
theorem dX12_vectorAt_45 : decode cX12_vectorAt 45 = .ok (.iconst 4, 1) := by decide +kernel
theorem dX12_vectorAt_46 : decode cX12_vectorAt 46 = .ok (.if_icmp .ne 7, 3) := by decide +kernel
theorem dX12_vectorAt_49 : decode cX12_vectorAt 49 = .ok (.iconst 0, 1) := by decide +kernel
theorem dX12_vectorAt_50 : decode cX12_vectorAt 50 = .ok (.goto 4, 3) := by decide +kernel
theorem dX12_vectorAt_53 : decode cX12_vectorAt 53 = .ok (.iconst 2, 1) := by decide +kernel
theorem dX12_vectorAt_54 : decode cX12_vectorAt 54 = .ok (.putfield 110, 3) := by decide +kernel
theorem dX12_vectorAt_57 : decode cX12_vectorAt 57 = .ok (.iconst 4, 1) := by decide +kernel
theorem dX12_vectorAt_58 : decode cX12_vectorAt 58 = .ok (.iload_n 2, 1) := by decide +kernel
theorem dX12_vectorAt_59 : decode cX12_vectorAt 59 = .ok (.iload_n 3, 1) := by decide +kernel
theorem dX12_vectorAt_60 : decode cX12_vectorAt 60 = .ok (.invokestatic 338, 3) := by decide +kernel
theorem dX12_vectorAt_63 : decode cX12_vectorAt 63 = .ok (.imul, 1) := by decide +kernel
theorem dX12_vectorAt_64 : decode cX12_vectorAt 64 = .ok (.iload 4, 2) := by decide +kernel
theorem dX12_vectorAt_66 : decode cX12_vectorAt 66 = .ok (.ifCond .eq 7, 3) := by decide +kernel
theorem dX12_vectorAt_69 : decode cX12_vectorAt 69 = .ok (.iconst 2, 1) := by decide +kernel
theorem dX12_vectorAt_70 : decode cX12_vectorAt 70 = .ok (.goto 4, 3) := by decide +kernel
theorem dX12_vectorAt_73 : decode cX12_vectorAt 73 = .ok (.iconst 0, 1) := by decide +kernel
theorem dX12_vectorAt_74 : decode cX12_vectorAt 74 = .ok (.iadd, 1) := by decide +kernel
theorem dX12_vectorAt_75 : decode cX12_vectorAt 75 = .ok (.istore 6, 2) := by decide +kernel
theorem dX12_vectorAt_77 : decode cX12_vectorAt 77 = .ok (.aload_n 0, 1) := by decide +kernel
theorem dX12_vectorAt_78 : decode cX12_vectorAt 78 = .ok (.getfield 110, 3) := by decide +kernel
theorem dX12_vectorAt_81 : decode cX12_vectorAt 81 = .ok (.ifCond .ne 36, 3) := by decide +kernel
theorem dX12_vectorAt_84 : decode cX12_vectorAt 84 = .ok (.bipush 100, 2) := by decide +kernel
theorem dX12_vectorAt_86 : decode cX12_vectorAt 86 = .ok (.aload_n 0, 1) := by decide +kernel
theorem dX12_vectorAt_87 : decode cX12_vectorAt 87 = .ok (.getfield 86, 3) := by decide +kernel
theorem dX12_vectorAt_90 : decode cX12_vectorAt 90 = .ok (.iload_n 1, 1) := by decide +kernel
theorem dX12_vectorAt_91 : decode cX12_vectorAt 91 = .ok (.aaload, 1) := by decide +kernel
theorem dX12_vectorAt_92 : decode cX12_vectorAt 92 = .ok (.iload 6, 2) := by decide +kernel
theorem dX12_vectorAt_94 : decode cX12_vectorAt 94 = .ok (.iaload, 1) := by decide +kernel
theorem dX12_vectorAt_95 : decode cX12_vectorAt 95 = .ok (.bipush 8, 2) := by decide +kernel
theorem dX12_vectorAt_97 : decode cX12_vectorAt 97 = .ok (.iadd, 1) := by decide +kernel
theorem dX12_vectorAt_98 : decode cX12_vectorAt 98 = .ok (.imul, 1) := by decide +kernel
theorem dX12_vectorAt_99 : decode cX12_vectorAt 99 = .ok (.aload_n 0, 1) := by decide +kernel
theorem dX12_vectorAt_100 : decode cX12_vectorAt 100 = .ok (.getfield 86, 3) := by decide +kernel
theorem dX12_vectorAt_103 : decode cX12_vectorAt 103 = .ok (.iload_n 1, 1) := by decide +kernel
theorem dX12_vectorAt_104 : decode cX12_vectorAt 104 = .ok (.aaload, 1) := by decide +kernel
theorem dX12_vectorAt_105 : decode cX12_vectorAt 105 = .ok (.iload 6, 2) := by decide +kernel
theorem dX12_vectorAt_107 : decode cX12_vectorAt 107 = .ok (.iconst 1, 1) := by decide +kernel
theorem dX12_vectorAt_108 : decode cX12_vectorAt 108 = .ok (.iadd, 1) := by decide +kernel
theorem dX12_vectorAt_109 : decode cX12_vectorAt 109 = .ok (.iaload, 1) := by decide +kernel
theorem dX12_vectorAt_110 : decode cX12_vectorAt 110 = .ok (.iadd, 1) := by decide +kernel
theorem dX12_vectorAt_111 : decode cX12_vectorAt 111 = .ok (.bipush 8, 2) := by decide +kernel
theorem dX12_vectorAt_113 : decode cX12_vectorAt 113 = .ok (.iadd, 1) := by decide +kernel
theorem dX12_vectorAt_114 : decode cX12_vectorAt 114 = .ok (.goto 4, 3) := by decide +kernel
theorem dX12_vectorAt_117 : decode cX12_vectorAt 117 = .ok (.iconst 0, 1) := by decide +kernel
theorem dX12_vectorAt_118 : decode cX12_vectorAt 118 = .ok (.ireturn, 1) := by decide +kernel
theorem dX12_levelAt_0 : decode cX12_levelAt 0 = .ok (.aload_n 0, 1) := by decide +kernel
theorem dX12_levelAt_1 : decode cX12_levelAt 1 = .ok (.iload_n 1, 1) := by decide +kernel
theorem dX12_levelAt_2 : decode cX12_levelAt 2 = .ok (.iload_n 2, 1) := by decide +kernel
theorem dX12_levelAt_3 : decode cX12_levelAt 3 = .ok (.iload_n 3, 1) := by decide +kernel
theorem dX12_levelAt_4 : decode cX12_levelAt 4 = .ok (.invokevirtual 335, 3) := by decide +kernel
theorem dX12_levelAt_7 : decode cX12_levelAt 7 = .ok (.ifCond .eq 7, 3) := by decide +kernel
theorem dX12_levelAt_10 : decode cX12_levelAt 10 = .ok (.iconst 0, 1) := by decide +kernel
theorem dX12_levelAt_11 : decode cX12_levelAt 11 = .ok (.goto 16, 3) := by decide +kernel
theorem dX12_levelAt_14 : decode cX12_levelAt 14 = .ok (.aload_n 0, 1) := by decide +kernel
theorem dX12_levelAt_15 : decode cX12_levelAt 15 = .ok (.getfield 74, 3) := by decide +kernel
theorem dX12_levelAt_18 : decode cX12_levelAt 18 = .ok (.iload_n 1, 1) := by decide +kernel
theorem dX12_levelAt_19 : decode cX12_levelAt 19 = .ok (.aaload, 1) := by decide +kernel
theorem dX12_levelAt_20 : decode cX12_levelAt 20 = .ok (.bipush 16, 2) := by decide +kernel
theorem dX12_levelAt_22 : decode cX12_levelAt 22 = .ok (.iload_n 3, 1) := by decide +kernel
theorem dX12_levelAt_23 : decode cX12_levelAt 23 = .ok (.imul, 1) := by decide +kernel
theorem dX12_levelAt_24 : decode cX12_levelAt 24 = .ok (.iload_n 2, 1) := by decide +kernel
theorem dX12_levelAt_25 : decode cX12_levelAt 25 = .ok (.iadd, 1) := by decide +kernel
theorem dX12_levelAt_26 : decode cX12_levelAt 26 = .ok (.iaload, 1) := by decide +kernel
theorem dX12_levelAt_27 : decode cX12_levelAt 27 = .ok (.ireturn, 1) := by decide +kernel
theorem dX12_built_0 : decode cX12_built 0 = .ok (.aload_n 0, 1) := by decide +kernel
theorem dX12_built_1 : decode cX12_built 1 = .ok (.iload_n 1, 1) := by decide +kernel
theorem dX12_built_2 : decode cX12_built 2 = .ok (.iload_n 2, 1) := by decide +kernel
theorem dX12_built_3 : decode cX12_built 3 = .ok (.iload_n 3, 1) := by decide +kernel
theorem dX12_built_4 : decode cX12_built 4 = .ok (.invokevirtual 335, 3) := by decide +kernel
theorem dX12_built_7 : decode cX12_built 7 = .ok (.ifCond .eq 7, 3) := by decide +kernel
theorem dX12_built_10 : decode cX12_built 10 = .ok (.iconst 0, 1) := by decide +kernel
theorem dX12_built_11 : decode cX12_built 11 = .ok (.goto 16, 3) := by decide +kernel
theorem dX12_built_14 : decode cX12_built 14 = .ok (.aload_n 0, 1) := by decide +kernel
theorem dX12_built_15 : decode cX12_built 15 = .ok (.getfield 70, 3) := by decide +kernel
theorem dX12_built_18 : decode cX12_built 18 = .ok (.iload_n 1, 1) := by decide +kernel
theorem dX12_built_19 : decode cX12_built 19 = .ok (.aaload, 1) := by decide +kernel
theorem dX12_built_20 : decode cX12_built 20 = .ok (.bipush 16, 2) := by decide +kernel
theorem dX12_built_22 : decode cX12_built 22 = .ok (.iload_n 3, 1) := by decide +kernel
theorem dX12_built_23 : decode cX12_built 23 = .ok (.imul, 1) := by decide +kernel
theorem dX12_built_24 : decode cX12_built 24 = .ok (.iload_n 2, 1) := by decide +kernel
theorem dX12_built_25 : decode cX12_built 25 = .ok (.iadd, 1) := by decide +kernel
theorem dX12_built_26 : decode cX12_built 26 = .ok (.iaload, 1) := by decide +kernel
theorem dX12_built_27 : decode cX12_built 27 = .ok (.ireturn, 1) := by decide +kernel
theorem dX12_errorOf_0 : decode cX12_errorOf 0 = .ok (.aload_n 0, 1) := by decide +kernel
theorem dX12_errorOf_1 : decode cX12_errorOf 1 = .ok (.iload_n 1, 1) := by decide +kernel
theorem dX12_errorOf_2 : decode cX12_errorOf 2 = .ok (.invokevirtual 328, 3) := by decide +kernel
theorem dX12_errorOf_5 : decode cX12_errorOf 5 = .ok (.ifCond .eq 7, 3) := by decide +kernel
theorem dX12_errorOf_8 : decode cX12_errorOf 8 = .ok (.lconst 0, 1) := by decide +kernel
theorem dX12_errorOf_9 : decode cX12_errorOf 9 = .ok (.goto 9, 3) := by decide +kernel
theorem dX12_errorOf_12 : decode cX12_errorOf 12 = .ok (.aload_n 0, 1) := by decide +kernel
theorem dX12_errorOf_13 : decode cX12_errorOf 13 = .ok (.getfield 65, 3) := by decide +kernel
theorem dX12_errorOf_16 : decode cX12_errorOf 16 = .ok (.iload_n 1, 1) := by decide +kernel
theorem dX12_errorOf_17 : decode cX12_errorOf 17 = .ok (.laload, 1) := by decide +kernel
theorem dX12_errorOf_18 : decode cX12_errorOf 18 = .ok (.lreturn, 1) := by decide +kernel
theorem dX12_heaviest_0 : decode cX12_heaviest 0 = .ok (.aload_n 0, 1) := by decide +kernel
theorem dX12_heaviest_1 : decode cX12_heaviest 1 = .ok (.iload_n 1, 1) := by decide +kernel
theorem dX12_heaviest_2 : decode cX12_heaviest 2 = .ok (.iconst 0, 1) := by decide +kernel
theorem dX12_heaviest_3 : decode cX12_heaviest 3 = .ok (.aload_n 0, 1) := by decide +kernel
theorem dX12_heaviest_4 : decode cX12_heaviest 4 = .ok (.getfield 305, 3) := by decide +kernel
theorem dX12_heaviest_7 : decode cX12_heaviest 7 = .ok (.iconst 1, 1) := by decide +kernel
theorem dX12_heaviest_8 : decode cX12_heaviest 8 = .ok (.isub, 1) := by decide +kernel
theorem dX12_heaviest_9 : decode cX12_heaviest 9 = .ok (.invokestatic 113, 3) := by decide +kernel
theorem dX12_heaviest_12 : decode cX12_heaviest 12 = .ok (.ifCond .eq 7, 3) := by decide +kernel
theorem dX12_heaviest_15 : decode cX12_heaviest 15 = .ok (.iconst 0, 1) := by decide +kernel
theorem dX12_heaviest_16 : decode cX12_heaviest 16 = .ok (.goto 4, 3) := by decide +kernel
theorem dX12_heaviest_19 : decode cX12_heaviest 19 = .ok (.iconst 1, 1) := by decide +kernel
theorem dX12_heaviest_20 : decode cX12_heaviest 20 = .ok (.putfield 110, 3) := by decide +kernel
theorem dX12_heaviest_23 : decode cX12_heaviest 23 = .ok (.iconst 0, 1) := by decide +kernel
theorem dX12_heaviest_24 : decode cX12_heaviest 24 = .ok (.istore_n 2, 1) := by decide +kernel
theorem dX12_heaviest_25 : decode cX12_heaviest 25 = .ok (.iload_n 2, 1) := by decide +kernel
theorem dX12_heaviest_26 : decode cX12_heaviest 26 = .ok (.aload_n 0, 1) := by decide +kernel
theorem dX12_heaviest_27 : decode cX12_heaviest 27 = .ok (.getfield 305, 3) := by decide +kernel
theorem dX12_heaviest_30 : decode cX12_heaviest 30 = .ok (.if_icmp .ge 89, 3) := by decide +kernel
theorem dX12_heaviest_33 : decode cX12_heaviest 33 = .ok (.aload_n 0, 1) := by decide +kernel
theorem dX12_heaviest_34 : decode cX12_heaviest 34 = .ok (.getfield 110, 3) := by decide +kernel
theorem dX12_heaviest_37 : decode cX12_heaviest 37 = .ok (.ifCond .ne 82, 3) := by decide +kernel
theorem dX12_heaviest_40 : decode cX12_heaviest 40 = .ok (.iconst 0, 1) := by decide +kernel
theorem dX12_heaviest_41 : decode cX12_heaviest 41 = .ok (.istore_n 3, 1) := by decide +kernel
theorem dX12_heaviest_42 : decode cX12_heaviest 42 = .ok (.iconst 0, 1) := by decide +kernel
theorem dX12_heaviest_43 : decode cX12_heaviest 43 = .ok (.istore 4, 2) := by decide +kernel
theorem dX12_heaviest_45 : decode cX12_heaviest 45 = .ok (.iload 4, 2) := by decide +kernel
theorem dX12_heaviest_47 : decode cX12_heaviest 47 = .ok (.aload_n 0, 1) := by decide +kernel
theorem dX12_heaviest_48 : decode cX12_heaviest 48 = .ok (.getfield 305, 3) := by decide +kernel
theorem dX12_heaviest_51 : decode cX12_heaviest 51 = .ok (.if_icmp .ge 55, 3) := by decide +kernel
theorem dX12_heaviest_54 : decode cX12_heaviest 54 = .ok (.iload_n 3, 1) := by decide +kernel
theorem dX12_heaviest_55 : decode cX12_heaviest 55 = .ok (.aload_n 0, 1) := by decide +kernel
theorem dX12_heaviest_56 : decode cX12_heaviest 56 = .ok (.getfield 62, 3) := by decide +kernel
theorem dX12_heaviest_59 : decode cX12_heaviest 59 = .ok (.iload 4, 2) := by decide +kernel
theorem dX12_heaviest_61 : decode cX12_heaviest 61 = .ok (.iaload, 1) := by decide +kernel
theorem dX12_heaviest_62 : decode cX12_heaviest 62 = .ok (.aload_n 0, 1) := by decide +kernel
theorem dX12_heaviest_63 : decode cX12_heaviest 63 = .ok (.getfield 62, 3) := by decide +kernel
theorem dX12_heaviest_66 : decode cX12_heaviest 66 = .ok (.iload_n 2, 1) := by decide +kernel
theorem dX12_heaviest_67 : decode cX12_heaviest 67 = .ok (.iaload, 1) := by decide +kernel
theorem dX12_heaviest_68 : decode cX12_heaviest 68 = .ok (.if_icmp .gt 25, 3) := by decide +kernel
theorem dX12_heaviest_71 : decode cX12_heaviest 71 = .ok (.aload_n 0, 1) := by decide +kernel
theorem dX12_heaviest_72 : decode cX12_heaviest 72 = .ok (.getfield 62, 3) := by decide +kernel
theorem dX12_heaviest_75 : decode cX12_heaviest 75 = .ok (.iload 4, 2) := by decide +kernel
theorem dX12_heaviest_77 : decode cX12_heaviest 77 = .ok (.iaload, 1) := by decide +kernel
theorem dX12_heaviest_78 : decode cX12_heaviest 78 = .ok (.aload_n 0, 1) := by decide +kernel
theorem dX12_heaviest_79 : decode cX12_heaviest 79 = .ok (.getfield 62, 3) := by decide +kernel
theorem dX12_heaviest_82 : decode cX12_heaviest 82 = .ok (.iload_n 2, 1) := by decide +kernel
theorem dX12_heaviest_83 : decode cX12_heaviest 83 = .ok (.iaload, 1) := by decide +kernel
theorem dX12_heaviest_84 : decode cX12_heaviest 84 = .ok (.if_icmp .ne 13, 3) := by decide +kernel
theorem dX12_heaviest_87 : decode cX12_heaviest 87 = .ok (.iload 4, 2) := by decide +kernel
theorem dX12_heaviest_89 : decode cX12_heaviest 89 = .ok (.iload_n 2, 1) := by decide +kernel
theorem dX12_heaviest_90 : decode cX12_heaviest 90 = .ok (.if_icmp .ge 7, 3) := by decide +kernel
theorem dX12_heaviest_93 : decode cX12_heaviest 93 = .ok (.iconst 1, 1) := by decide +kernel
theorem dX12_heaviest_94 : decode cX12_heaviest 94 = .ok (.goto 4, 3) := by decide +kernel
theorem dX12_heaviest_97 : decode cX12_heaviest 97 = .ok (.iconst 0, 1) := by decide +kernel
theorem dX12_heaviest_98 : decode cX12_heaviest 98 = .ok (.iadd, 1) := by decide +kernel
theorem dX12_heaviest_99 : decode cX12_heaviest 99 = .ok (.istore_n 3, 1) := by decide +kernel
theorem dX12_heaviest_100 : decode cX12_heaviest 100 = .ok (.iinc 4 1, 3) := by decide +kernel
theorem dX12_heaviest_103 : decode cX12_heaviest 103 = .ok (.goto (-58), 3) := by decide +kernel
theorem dX12_heaviest_106 : decode cX12_heaviest 106 = .ok (.iload_n 3, 1) := by decide +kernel
theorem dX12_heaviest_107 : decode cX12_heaviest 107 = .ok (.iload_n 1, 1) := by decide +kernel
theorem dX12_heaviest_108 : decode cX12_heaviest 108 = .ok (.if_icmp .ne 5, 3) := by decide +kernel
theorem dX12_heaviest_111 : decode cX12_heaviest 111 = .ok (.iload_n 2, 1) := by decide +kernel
theorem dX12_heaviest_112 : decode cX12_heaviest 112 = .ok (.ireturn, 1) := by decide +kernel
theorem dX12_heaviest_113 : decode cX12_heaviest 113 = .ok (.iinc 2 1, 3) := by decide +kernel
theorem dX12_heaviest_116 : decode cX12_heaviest 116 = .ok (.goto (-91), 3) := by decide +kernel
theorem dX12_heaviest_119 : decode cX12_heaviest 119 = .ok (.iconst 0, 1) := by decide +kernel
theorem dX12_heaviest_120 : decode cX12_heaviest 120 = .ok (.ireturn, 1) := by decide +kernel
theorem dX12_commonest_0 : decode cX12_commonest 0 = .ok (.aload_n 0, 1) := by decide +kernel
theorem dX12_commonest_1 : decode cX12_commonest 1 = .ok (.aload_n 0, 1) := by decide +kernel
theorem dX12_commonest_2 : decode cX12_commonest 2 = .ok (.getfield 305, 3) := by decide +kernel
theorem dX12_commonest_5 : decode cX12_commonest 5 = .ok (.ifCond .ne 7, 3) := by decide +kernel
theorem dX12_commonest_8 : decode cX12_commonest 8 = .ok (.iconst 1, 1) := by decide +kernel
theorem dX12_commonest_9 : decode cX12_commonest 9 = .ok (.goto 4, 3) := by decide +kernel
theorem dX12_commonest_12 : decode cX12_commonest 12 = .ok (.iconst 0, 1) := by decide +kernel
theorem dX12_commonest_13 : decode cX12_commonest 13 = .ok (.putfield 110, 3) := by decide +kernel
theorem dX12_commonest_16 : decode cX12_commonest 16 = .ok (.bipush 7, 2) := by decide +kernel
theorem dX12_commonest_18 : decode cX12_commonest 18 = .ok (.newarray .int, 2) := by decide +kernel
theorem dX12_commonest_20 : decode cX12_commonest 20 = .ok (.astore_n 1, 1) := by decide +kernel
theorem dX12_commonest_21 : decode cX12_commonest 21 = .ok (.iconst 0, 1) := by decide +kernel
theorem dX12_commonest_22 : decode cX12_commonest 22 = .ok (.istore_n 2, 1) := by decide +kernel
theorem dX12_commonest_23 : decode cX12_commonest 23 = .ok (.iload_n 2, 1) := by decide +kernel
theorem dX12_commonest_24 : decode cX12_commonest 24 = .ok (.aload_n 0, 1) := by decide +kernel
theorem dX12_commonest_25 : decode cX12_commonest 25 = .ok (.getfield 305, 3) := by decide +kernel
theorem dX12_commonest_28 : decode cX12_commonest 28 = .ok (.if_icmp .ge 79, 3) := by decide +kernel
theorem dX12_commonest_31 : decode cX12_commonest 31 = .ok (.iconst 0, 1) := by decide +kernel
theorem dX12_commonest_32 : decode cX12_commonest 32 = .ok (.istore_n 3, 1) := by decide +kernel
theorem dX12_commonest_33 : decode cX12_commonest 33 = .ok (.iload_n 3, 1) := by decide +kernel
theorem dX12_commonest_34 : decode cX12_commonest 34 = .ok (.bipush 16, 2) := by decide +kernel
theorem dX12_commonest_36 : decode cX12_commonest 36 = .ok (.if_icmp .ge 65, 3) := by decide +kernel
theorem dX12_commonest_39 : decode cX12_commonest 39 = .ok (.aload_n 0, 1) := by decide +kernel
theorem dX12_commonest_40 : decode cX12_commonest 40 = .ok (.getfield 80, 3) := by decide +kernel
theorem dX12_commonest_43 : decode cX12_commonest 43 = .ok (.iload_n 2, 1) := by decide +kernel
theorem dX12_commonest_44 : decode cX12_commonest 44 = .ok (.aaload, 1) := by decide +kernel
theorem dX12_commonest_45 : decode cX12_commonest 45 = .ok (.iload_n 3, 1) := by decide +kernel
theorem dX12_commonest_46 : decode cX12_commonest 46 = .ok (.iaload, 1) := by decide +kernel
theorem dX12_commonest_47 : decode cX12_commonest 47 = .ok (.iconst 4, 1) := by decide +kernel
theorem dX12_commonest_48 : decode cX12_commonest 48 = .ok (.if_icmp .eq 17, 3) := by decide +kernel
theorem dX12_commonest_51 : decode cX12_commonest 51 = .ok (.iload_n 3, 1) := by decide +kernel
theorem dX12_commonest_52 : decode cX12_commonest 52 = .ok (.iconst 2, 1) := by decide +kernel
theorem dX12_commonest_53 : decode cX12_commonest 53 = .ok (.irem, 1) := by decide +kernel
theorem dX12_commonest_54 : decode cX12_commonest 54 = .ok (.ifCond .ne 15, 3) := by decide +kernel
theorem dX12_commonest_57 : decode cX12_commonest 57 = .ok (.iload_n 3, 1) := by decide +kernel
theorem dX12_commonest_58 : decode cX12_commonest 58 = .ok (.iconst 4, 1) := by decide +kernel
theorem dX12_commonest_59 : decode cX12_commonest 59 = .ok (.idiv, 1) := by decide +kernel
theorem dX12_commonest_60 : decode cX12_commonest 60 = .ok (.iconst 2, 1) := by decide +kernel
theorem dX12_commonest_61 : decode cX12_commonest 61 = .ok (.irem, 1) := by decide +kernel
theorem dX12_commonest_62 : decode cX12_commonest 62 = .ok (.ifCond .ne 7, 3) := by decide +kernel
theorem dX12_commonest_65 : decode cX12_commonest 65 = .ok (.iconst 1, 1) := by decide +kernel
theorem dX12_commonest_66 : decode cX12_commonest 66 = .ok (.goto 4, 3) := by decide +kernel
theorem dX12_commonest_69 : decode cX12_commonest 69 = .ok (.iconst 0, 1) := by decide +kernel
theorem dX12_commonest_70 : decode cX12_commonest 70 = .ok (.istore 4, 2) := by decide +kernel
theorem dX12_commonest_72 : decode cX12_commonest 72 = .ok (.aload_n 1, 1) := by decide +kernel
theorem dX12_commonest_73 : decode cX12_commonest 73 = .ok (.aload_n 0, 1) := by decide +kernel
theorem dX12_commonest_74 : decode cX12_commonest 74 = .ok (.getfield 83, 3) := by decide +kernel
theorem dX12_commonest_77 : decode cX12_commonest 77 = .ok (.iload_n 2, 1) := by decide +kernel
theorem dX12_commonest_78 : decode cX12_commonest 78 = .ok (.aaload, 1) := by decide +kernel
theorem dX12_commonest_79 : decode cX12_commonest 79 = .ok (.iload_n 3, 1) := by decide +kernel
theorem dX12_commonest_80 : decode cX12_commonest 80 = .ok (.iaload, 1) := by decide +kernel
theorem dX12_commonest_81 : decode cX12_commonest 81 = .ok (.dup2, 1) := by decide +kernel
theorem dX12_commonest_82 : decode cX12_commonest 82 = .ok (.iaload, 1) := by decide +kernel
theorem dX12_commonest_83 : decode cX12_commonest 83 = .ok (.iload 4, 2) := by decide +kernel
theorem dX12_commonest_85 : decode cX12_commonest 85 = .ok (.ifCond .eq 7, 3) := by decide +kernel
theorem dX12_commonest_88 : decode cX12_commonest 88 = .ok (.iconst 1, 1) := by decide +kernel
theorem dX12_commonest_89 : decode cX12_commonest 89 = .ok (.goto 4, 3) := by decide +kernel
theorem dX12_commonest_92 : decode cX12_commonest 92 = .ok (.iconst 0, 1) := by decide +kernel
theorem dX12_commonest_93 : decode cX12_commonest 93 = .ok (.iadd, 1) := by decide +kernel
theorem dX12_commonest_94 : decode cX12_commonest 94 = .ok (.iastore, 1) := by decide +kernel
theorem dX12_commonest_95 : decode cX12_commonest 95 = .ok (.iinc 3 1, 3) := by decide +kernel
theorem dX12_commonest_98 : decode cX12_commonest 98 = .ok (.goto (-65), 3) := by decide +kernel
theorem dX12_commonest_101 : decode cX12_commonest 101 = .ok (.iinc 2 1, 3) := by decide +kernel
theorem dX12_commonest_104 : decode cX12_commonest 104 = .ok (.goto (-81), 3) := by decide +kernel
theorem dX12_commonest_107 : decode cX12_commonest 107 = .ok (.iconst 0, 1) := by decide +kernel
theorem dX12_commonest_108 : decode cX12_commonest 108 = .ok (.istore_n 2, 1) := by decide +kernel
theorem dX12_commonest_109 : decode cX12_commonest 109 = .ok (.iconst 1, 1) := by decide +kernel
theorem dX12_commonest_110 : decode cX12_commonest 110 = .ok (.istore_n 3, 1) := by decide +kernel
theorem dX12_commonest_111 : decode cX12_commonest 111 = .ok (.iload_n 3, 1) := by decide +kernel
theorem dX12_commonest_112 : decode cX12_commonest 112 = .ok (.bipush 7, 2) := by decide +kernel
theorem dX12_commonest_114 : decode cX12_commonest 114 = .ok (.if_icmp .ge 24, 3) := by decide +kernel
theorem dX12_commonest_117 : decode cX12_commonest 117 = .ok (.aload_n 1, 1) := by decide +kernel
theorem dX12_commonest_118 : decode cX12_commonest 118 = .ok (.iload_n 3, 1) := by decide +kernel
theorem dX12_commonest_119 : decode cX12_commonest 119 = .ok (.iaload, 1) := by decide +kernel
theorem dX12_commonest_120 : decode cX12_commonest 120 = .ok (.aload_n 1, 1) := by decide +kernel
theorem dX12_commonest_121 : decode cX12_commonest 121 = .ok (.iload_n 2, 1) := by decide +kernel
theorem dX12_commonest_122 : decode cX12_commonest 122 = .ok (.iaload, 1) := by decide +kernel
theorem dX12_commonest_123 : decode cX12_commonest 123 = .ok (.if_icmp .le 7, 3) := by decide +kernel
theorem dX12_commonest_126 : decode cX12_commonest 126 = .ok (.iload_n 3, 1) := by decide +kernel
theorem dX12_commonest_127 : decode cX12_commonest 127 = .ok (.goto 4, 3) := by decide +kernel
theorem dX12_commonest_130 : decode cX12_commonest 130 = .ok (.iload_n 2, 1) := by decide +kernel
theorem dX12_commonest_131 : decode cX12_commonest 131 = .ok (.istore_n 2, 1) := by decide +kernel
theorem dX12_commonest_132 : decode cX12_commonest 132 = .ok (.iinc 3 1, 3) := by decide +kernel
theorem dX12_commonest_135 : decode cX12_commonest 135 = .ok (.goto (-24), 3) := by decide +kernel
theorem dX12_commonest_138 : decode cX12_commonest 138 = .ok (.aload_n 0, 1) := by decide +kernel
theorem dX12_commonest_139 : decode cX12_commonest 139 = .ok (.getfield 110, 3) := by decide +kernel
theorem dX12_commonest_142 : decode cX12_commonest 142 = .ok (.ifCond .ne 7, 3) := by decide +kernel
theorem dX12_commonest_145 : decode cX12_commonest 145 = .ok (.iload_n 2, 1) := by decide +kernel
theorem dX12_commonest_146 : decode cX12_commonest 146 = .ok (.goto 4, 3) := by decide +kernel
theorem dX12_commonest_149 : decode cX12_commonest 149 = .ok (.iconst 0, 1) := by decide +kernel
theorem dX12_commonest_150 : decode cX12_commonest 150 = .ok (.ireturn, 1) := by decide +kernel
theorem dX12_leant_0 : decode cX12_leant 0 = .ok (.iload_n 1, 1) := by decide +kernel
theorem dX12_leant_1 : decode cX12_leant 1 = .ok (.iconst 0, 1) := by decide +kernel
theorem dX12_leant_2 : decode cX12_leant 2 = .ok (.aload_n 0, 1) := by decide +kernel
theorem dX12_leant_3 : decode cX12_leant 3 = .ok (.getfield 341, 3) := by decide +kernel
theorem dX12_leant_6 : decode cX12_leant 6 = .ok (.iconst 1, 1) := by decide +kernel
theorem dX12_leant_7 : decode cX12_leant 7 = .ok (.isub, 1) := by decide +kernel
theorem dX12_leant_8 : decode cX12_leant 8 = .ok (.invokestatic 113, 3) := by decide +kernel
theorem dX12_leant_11 : decode cX12_leant 11 = .ok (.ifCond .eq 10, 3) := by decide +kernel
theorem dX12_leant_14 : decode cX12_leant 14 = .ok (.aload_n 0, 1) := by decide +kernel
theorem dX12_leant_15 : decode cX12_leant 15 = .ok (.getfield 104, 3) := by decide +kernel
theorem dX12_leant_18 : decode cX12_leant 18 = .ok (.iload_n 1, 1) := by decide +kernel
theorem dX12_leant_19 : decode cX12_leant 19 = .ok (.aaload, 1) := by decide +kernel
theorem dX12_leant_20 : decode cX12_leant 20 = .ok (.areturn, 1) := by decide +kernel
theorem dX12_leant_21 : decode cX12_leant 21 = .ok (.sipush 256, 3) := by decide +kernel
theorem dX12_leant_24 : decode cX12_leant 24 = .ok (.newarray .int, 2) := by decide +kernel
theorem dX12_leant_26 : decode cX12_leant 26 = .ok (.astore_n 2, 1) := by decide +kernel
theorem dX12_leant_27 : decode cX12_leant 27 = .ok (.iconst 0, 1) := by decide +kernel
theorem dX12_leant_28 : decode cX12_leant 28 = .ok (.istore_n 3, 1) := by decide +kernel
theorem dX12_leant_29 : decode cX12_leant 29 = .ok (.iload_n 3, 1) := by decide +kernel
theorem dX12_leant_30 : decode cX12_leant 30 = .ok (.sipush 256, 3) := by decide +kernel
theorem dX12_leant_33 : decode cX12_leant 33 = .ok (.if_icmp .ge 15, 3) := by decide +kernel
theorem dX12_leant_36 : decode cX12_leant 36 = .ok (.aload_n 2, 1) := by decide +kernel
theorem dX12_leant_37 : decode cX12_leant 37 = .ok (.iload_n 3, 1) := by decide +kernel
theorem dX12_leant_38 : decode cX12_leant 38 = .ok (.sipush 128, 3) := by decide +kernel
theorem dX12_leant_41 : decode cX12_leant 41 = .ok (.iastore, 1) := by decide +kernel
theorem dX12_leant_42 : decode cX12_leant 42 = .ok (.iinc 3 1, 3) := by decide +kernel
theorem dX12_leant_45 : decode cX12_leant 45 = .ok (.goto (-16), 3) := by decide +kernel
theorem dX12_leant_48 : decode cX12_leant 48 = .ok (.aload_n 2, 1) := by decide +kernel
theorem dX12_leant_49 : decode cX12_leant 49 = .ok (.areturn, 1) := by decide +kernel
theorem dX12_isGood_0 : decode cX12_isGood 0 = .ok (.iload_n 1, 1) := by decide +kernel
theorem dX12_isGood_1 : decode cX12_isGood 1 = .ok (.iconst (-1), 1) := by decide +kernel
theorem dX12_isGood_2 : decode cX12_isGood 2 = .ok (.if_icmp .eq 20, 3) := by decide +kernel
theorem dX12_isGood_5 : decode cX12_isGood 5 = .ok (.iload_n 1, 1) := by decide +kernel
theorem dX12_isGood_6 : decode cX12_isGood 6 = .ok (.aload_n 0, 1) := by decide +kernel
theorem dX12_isGood_7 : decode cX12_isGood 7 = .ok (.getfield 341, 3) := by decide +kernel
theorem dX12_isGood_10 : decode cX12_isGood 10 = .ok (.if_icmp .ge 16, 3) := by decide +kernel
theorem dX12_isGood_13 : decode cX12_isGood 13 = .ok (.aload_n 0, 1) := by decide +kernel
theorem dX12_isGood_14 : decode cX12_isGood 14 = .ok (.getfield 107, 3) := by decide +kernel
theorem dX12_isGood_17 : decode cX12_isGood 17 = .ok (.iload_n 1, 1) := by decide +kernel
theorem dX12_isGood_18 : decode cX12_isGood 18 = .ok (.baload, 1) := by decide +kernel
theorem dX12_isGood_19 : decode cX12_isGood 19 = .ok (.ifCond .eq 7, 3) := by decide +kernel
theorem dX12_isGood_22 : decode cX12_isGood 22 = .ok (.iconst 1, 1) := by decide +kernel
theorem dX12_isGood_23 : decode cX12_isGood 23 = .ok (.goto 4, 3) := by decide +kernel
theorem dX12_isGood_26 : decode cX12_isGood 26 = .ok (.iconst 0, 1) := by decide +kernel
theorem dX12_isGood_27 : decode cX12_isGood 27 = .ok (.ireturn, 1) := by decide +kernel
theorem dX12_conceals_0 : decode cX12_conceals 0 = .ok (.iconst 0, 1) := by decide +kernel
theorem dX12_conceals_1 : decode cX12_conceals 1 = .ok (.istore 4, 2) := by decide +kernel
theorem dX12_conceals_3 : decode cX12_conceals 3 = .ok (.iload 4, 2) := by decide +kernel
theorem dX12_conceals_5 : decode cX12_conceals 5 = .ok (.bipush 64, 2) := by decide +kernel
theorem dX12_conceals_7 : decode cX12_conceals 7 = .ok (.if_icmp .ge 53, 3) := by decide +kernel
theorem dX12_conceals_10 : decode cX12_conceals 10 = .ok (.bipush 16, 2) := by decide +kernel
theorem dX12_conceals_12 : decode cX12_conceals 12 = .ok (.iload_n 3, 1) := by decide +kernel
theorem dX12_conceals_13 : decode cX12_conceals 13 = .ok (.iload 4, 2) := by decide +kernel
theorem dX12_conceals_15 : decode cX12_conceals 15 = .ok (.bipush 8, 2) := by decide +kernel
theorem dX12_conceals_17 : decode cX12_conceals 17 = .ok (.idiv, 1) := by decide +kernel
theorem dX12_conceals_18 : decode cX12_conceals 18 = .ok (.iadd, 1) := by decide +kernel
theorem dX12_conceals_19 : decode cX12_conceals 19 = .ok (.imul, 1) := by decide +kernel
theorem dX12_conceals_20 : decode cX12_conceals 20 = .ok (.iload_n 2, 1) := by decide +kernel
theorem dX12_conceals_21 : decode cX12_conceals 21 = .ok (.iadd, 1) := by decide +kernel
theorem dX12_conceals_22 : decode cX12_conceals 22 = .ok (.iload 4, 2) := by decide +kernel
theorem dX12_conceals_24 : decode cX12_conceals 24 = .ok (.bipush 8, 2) := by decide +kernel
theorem dX12_conceals_26 : decode cX12_conceals 26 = .ok (.irem, 1) := by decide +kernel
theorem dX12_conceals_27 : decode cX12_conceals 27 = .ok (.iadd, 1) := by decide +kernel
theorem dX12_conceals_28 : decode cX12_conceals 28 = .ok (.istore 5, 2) := by decide +kernel
theorem dX12_conceals_30 : decode cX12_conceals 30 = .ok (.aload_n 1, 1) := by decide +kernel
theorem dX12_conceals_31 : decode cX12_conceals 31 = .ok (.iload 5, 2) := by decide +kernel
theorem dX12_conceals_33 : decode cX12_conceals 33 = .ok (.aload_n 0, 1) := by decide +kernel
theorem dX12_conceals_34 : decode cX12_conceals 34 = .ok (.getfield 344, 3) := by decide +kernel
theorem dX12_conceals_37 : decode cX12_conceals 37 = .ok (.ifnonnull 9, 3) := by decide +kernel
theorem dX12_conceals_40 : decode cX12_conceals 40 = .ok (.sipush 128, 3) := by decide +kernel
theorem dX12_conceals_43 : decode cX12_conceals 43 = .ok (.goto 10, 3) := by decide +kernel
theorem dX12_conceals_46 : decode cX12_conceals 46 = .ok (.aload_n 0, 1) := by decide +kernel
theorem dX12_conceals_47 : decode cX12_conceals 47 = .ok (.getfield 344, 3) := by decide +kernel
theorem dX12_conceals_50 : decode cX12_conceals 50 = .ok (.iload 5, 2) := by decide +kernel
theorem dX12_conceals_52 : decode cX12_conceals 52 = .ok (.iaload, 1) := by decide +kernel
theorem dX12_conceals_53 : decode cX12_conceals 53 = .ok (.iastore, 1) := by decide +kernel
theorem dX12_conceals_54 : decode cX12_conceals 54 = .ok (.iinc 4 1, 3) := by decide +kernel
theorem dX12_conceals_57 : decode cX12_conceals 57 = .ok (.goto (-54), 3) := by decide +kernel
theorem dX12_conceals_60 : decode cX12_conceals 60 = .ok (.return_, 1) := by decide +kernel
theorem dX12_decodes_0 : decode cX12_decodes 0 = .ok (.sipush 256, 3) := by decide +kernel
theorem dX12_decodes_3 : decode cX12_decodes 3 = .ok (.newarray .int, 2) := by decide +kernel
theorem dX12_decodes_5 : decode cX12_decodes 5 = .ok (.astore_n 3, 1) := by decide +kernel
theorem dX12_decodes_6 : decode cX12_decodes 6 = .ok (.aload_n 0, 1) := by decide +kernel
theorem dX12_decodes_7 : decode cX12_decodes 7 = .ok (.aload_n 0, 1) := by decide +kernel
theorem dX12_decodes_8 : decode cX12_decodes 8 = .ok (.getfield 56, 3) := by decide +kernel
theorem dX12_decodes_11 : decode cX12_decodes 11 = .ok (.iload_n 1, 1) := by decide +kernel
theorem dX12_decodes_12 : decode cX12_decodes 12 = .ok (.iaload, 1) := by decide +kernel
theorem dX12_decodes_13 : decode cX12_decodes 13 = .ok (.invokevirtual 347, 3) := by decide +kernel
theorem dX12_decodes_16 : decode cX12_decodes 16 = .ok (.astore 4, 2) := by decide +kernel
theorem dX12_decodes_18 : decode cX12_decodes 18 = .ok (.aload_n 0, 1) := by decide +kernel
theorem dX12_decodes_19 : decode cX12_decodes 19 = .ok (.aload_n 0, 1) := by decide +kernel
theorem dX12_decodes_20 : decode cX12_decodes 20 = .ok (.getfield 59, 3) := by decide +kernel
theorem dX12_decodes_23 : decode cX12_decodes 23 = .ok (.iload_n 1, 1) := by decide +kernel
theorem dX12_decodes_24 : decode cX12_decodes 24 = .ok (.iaload, 1) := by decide +kernel
theorem dX12_decodes_25 : decode cX12_decodes 25 = .ok (.invokevirtual 347, 3) := by decide +kernel
theorem dX12_decodes_28 : decode cX12_decodes 28 = .ok (.astore 5, 2) := by decide +kernel
theorem dX12_decodes_30 : decode cX12_decodes 30 = .ok (.iconst 0, 1) := by decide +kernel
theorem dX12_decodes_31 : decode cX12_decodes 31 = .ok (.istore 6, 2) := by decide +kernel
theorem dX12_decodes_33 : decode cX12_decodes 33 = .ok (.iload 6, 2) := by decide +kernel
theorem dX12_decodes_35 : decode cX12_decodes 35 = .ok (.iconst 4, 1) := by decide +kernel
theorem dX12_decodes_36 : decode cX12_decodes 36 = .ok (.if_icmp .ge 185, 3) := by decide +kernel
theorem dX12_decodes_39 : decode cX12_decodes 39 = .ok (.iload 6, 2) := by decide +kernel
theorem dX12_decodes_41 : decode cX12_decodes 41 = .ok (.iconst 2, 1) := by decide +kernel
theorem dX12_decodes_42 : decode cX12_decodes 42 = .ok (.irem, 1) := by decide +kernel
theorem dX12_decodes_43 : decode cX12_decodes 43 = .ok (.bipush 8, 2) := by decide +kernel
theorem dX12_decodes_45 : decode cX12_decodes 45 = .ok (.imul, 1) := by decide +kernel
theorem dX12_decodes_46 : decode cX12_decodes 46 = .ok (.istore 7, 2) := by decide +kernel
theorem dX12_decodes_48 : decode cX12_decodes 48 = .ok (.iload 6, 2) := by decide +kernel
theorem dX12_decodes_50 : decode cX12_decodes 50 = .ok (.iconst 2, 1) := by decide +kernel
theorem dX12_decodes_51 : decode cX12_decodes 51 = .ok (.idiv, 1) := by decide +kernel
theorem dX12_decodes_52 : decode cX12_decodes 52 = .ok (.bipush 8, 2) := by decide +kernel
theorem dX12_decodes_54 : decode cX12_decodes 54 = .ok (.imul, 1) := by decide +kernel
theorem dX12_decodes_55 : decode cX12_decodes 55 = .ok (.istore 8, 2) := by decide +kernel
theorem dX12_decodes_57 : decode cX12_decodes 57 = .ok (.aload_n 0, 1) := by decide +kernel
theorem dX12_decodes_58 : decode cX12_decodes 58 = .ok (.getfield 49, 3) := by decide +kernel
theorem dX12_decodes_61 : decode cX12_decodes 61 = .ok (.iload_n 1, 1) := by decide +kernel
theorem dX12_decodes_62 : decode cX12_decodes 62 = .ok (.iaload, 1) := by decide +kernel
theorem dX12_decodes_63 : decode cX12_decodes 63 = .ok (.iconst 2, 1) := by decide +kernel
theorem dX12_decodes_64 : decode cX12_decodes 64 = .ok (.if_icmp .ne 10, 3) := by decide +kernel
theorem dX12_decodes_67 : decode cX12_decodes 67 = .ok (.iload 6, 2) := by decide +kernel
theorem dX12_decodes_69 : decode cX12_decodes 69 = .ok (.iconst 2, 1) := by decide +kernel
theorem dX12_decodes_70 : decode cX12_decodes 70 = .ok (.idiv, 1) := by decide +kernel
theorem dX12_decodes_71 : decode cX12_decodes 71 = .ok (.goto 4, 3) := by decide +kernel
theorem dX12_decodes_74 : decode cX12_decodes 74 = .ok (.iconst 0, 1) := by decide +kernel
theorem dX12_decodes_75 : decode cX12_decodes 75 = .ok (.istore 9, 2) := by decide +kernel
theorem dX12_decodes_77 : decode cX12_decodes 77 = .ok (.aload_n 0, 1) := by decide +kernel
theorem dX12_decodes_78 : decode cX12_decodes 78 = .ok (.getfield 80, 3) := by decide +kernel
theorem dX12_decodes_81 : decode cX12_decodes 81 = .ok (.iload_n 1, 1) := by decide +kernel
theorem dX12_decodes_82 : decode cX12_decodes 82 = .ok (.aaload, 1) := by decide +kernel
theorem dX12_decodes_83 : decode cX12_decodes 83 = .ok (.iload 7, 2) := by decide +kernel
theorem dX12_decodes_85 : decode cX12_decodes 85 = .ok (.iload 8, 2) := by decide +kernel
theorem dX12_decodes_87 : decode cX12_decodes 87 = .ok (.invokestatic 338, 3) := by decide +kernel
theorem dX12_decodes_90 : decode cX12_decodes 90 = .ok (.iaload, 1) := by decide +kernel
theorem dX12_decodes_91 : decode cX12_decodes 91 = .ok (.istore 10, 2) := by decide +kernel
theorem dX12_decodes_93 : decode cX12_decodes 93 = .ok (.iload_n 2, 1) := by decide +kernel
theorem dX12_decodes_94 : decode cX12_decodes 94 = .ok (.iload 9, 2) := by decide +kernel
theorem dX12_decodes_96 : decode cX12_decodes 96 = .ok (.ishr, 1) := by decide +kernel
theorem dX12_decodes_97 : decode cX12_decodes 97 = .ok (.iconst 1, 1) := by decide +kernel
theorem dX12_decodes_98 : decode cX12_decodes 98 = .ok (.iand, 1) := by decide +kernel
theorem dX12_decodes_99 : decode cX12_decodes 99 = .ok (.iconst 1, 1) := by decide +kernel
theorem dX12_decodes_100 : decode cX12_decodes 100 = .ok (.if_icmp .ne 15, 3) := by decide +kernel
theorem dX12_decodes_103 : decode cX12_decodes 103 = .ok (.aload_n 0, 1) := by decide +kernel
theorem dX12_decodes_104 : decode cX12_decodes 104 = .ok (.aload_n 3, 1) := by decide +kernel
theorem dX12_decodes_105 : decode cX12_decodes 105 = .ok (.iload 7, 2) := by decide +kernel
theorem dX12_decodes_107 : decode cX12_decodes 107 = .ok (.iload 8, 2) := by decide +kernel
theorem dX12_decodes_109 : decode cX12_decodes 109 = .ok (.invokevirtual 351, 3) := by decide +kernel
theorem dX12_decodes_112 : decode cX12_decodes 112 = .ok (.goto 103, 3) := by decide +kernel
theorem dX12_decodes_115 : decode cX12_decodes 115 = .ok (.iconst 0, 1) := by decide +kernel
theorem dX12_decodes_116 : decode cX12_decodes 116 = .ok (.istore 11, 2) := by decide +kernel
theorem dX12_decodes_118 : decode cX12_decodes 118 = .ok (.iload 11, 2) := by decide +kernel
theorem dX12_decodes_120 : decode cX12_decodes 120 = .ok (.iload 10, 2) := by decide +kernel
theorem dX12_decodes_122 : decode cX12_decodes 122 = .ok (.bipush 8, 2) := by decide +kernel
theorem dX12_decodes_124 : decode cX12_decodes 124 = .ok (.if_icmp .ne 7, 3) := by decide +kernel
theorem dX12_decodes_127 : decode cX12_decodes 127 = .ok (.iconst 1, 1) := by decide +kernel
theorem dX12_decodes_128 : decode cX12_decodes 128 = .ok (.goto 4, 3) := by decide +kernel
theorem dX12_decodes_131 : decode cX12_decodes 131 = .ok (.iconst 4, 1) := by decide +kernel
theorem dX12_decodes_132 : decode cX12_decodes 132 = .ok (.if_icmp .ge 83, 3) := by decide +kernel
theorem dX12_decodes_135 : decode cX12_decodes 135 = .ok (.iload 7, 2) := by decide +kernel
theorem dX12_decodes_137 : decode cX12_decodes 137 = .ok (.iload 11, 2) := by decide +kernel
theorem dX12_decodes_139 : decode cX12_decodes 139 = .ok (.iconst 2, 1) := by decide +kernel
theorem dX12_decodes_140 : decode cX12_decodes 140 = .ok (.irem, 1) := by decide +kernel
theorem dX12_decodes_141 : decode cX12_decodes 141 = .ok (.iconst 4, 1) := by decide +kernel
theorem dX12_decodes_142 : decode cX12_decodes 142 = .ok (.imul, 1) := by decide +kernel
theorem dX12_decodes_143 : decode cX12_decodes 143 = .ok (.iadd, 1) := by decide +kernel
theorem dX12_decodes_144 : decode cX12_decodes 144 = .ok (.istore 12, 2) := by decide +kernel
theorem dX12_decodes_146 : decode cX12_decodes 146 = .ok (.iload 8, 2) := by decide +kernel
theorem dX12_decodes_148 : decode cX12_decodes 148 = .ok (.iload 11, 2) := by decide +kernel
theorem dX12_decodes_150 : decode cX12_decodes 150 = .ok (.iconst 2, 1) := by decide +kernel
theorem dX12_decodes_151 : decode cX12_decodes 151 = .ok (.idiv, 1) := by decide +kernel
theorem dX12_decodes_152 : decode cX12_decodes 152 = .ok (.iconst 4, 1) := by decide +kernel
theorem dX12_decodes_153 : decode cX12_decodes 153 = .ok (.imul, 1) := by decide +kernel
theorem dX12_decodes_154 : decode cX12_decodes 154 = .ok (.iadd, 1) := by decide +kernel
theorem dX12_decodes_155 : decode cX12_decodes 155 = .ok (.istore 13, 2) := by decide +kernel
theorem dX12_decodes_157 : decode cX12_decodes 157 = .ok (.aload_n 3, 1) := by decide +kernel
theorem dX12_decodes_158 : decode cX12_decodes 158 = .ok (.aload 4, 2) := by decide +kernel
theorem dX12_decodes_160 : decode cX12_decodes 160 = .ok (.aload 5, 2) := by decide +kernel
theorem dX12_decodes_162 : decode cX12_decodes 162 = .ok (.iload 12, 2) := by decide +kernel
theorem dX12_decodes_164 : decode cX12_decodes 164 = .ok (.iload 13, 2) := by decide +kernel
theorem dX12_decodes_166 : decode cX12_decodes 166 = .ok (.iload 10, 2) := by decide +kernel
theorem dX12_decodes_168 : decode cX12_decodes 168 = .ok (.aload_n 0, 1) := by decide +kernel
theorem dX12_decodes_169 : decode cX12_decodes 169 = .ok (.getfield 83, 3) := by decide +kernel
theorem dX12_decodes_172 : decode cX12_decodes 172 = .ok (.iload_n 1, 1) := by decide +kernel
theorem dX12_decodes_173 : decode cX12_decodes 173 = .ok (.aaload, 1) := by decide +kernel
theorem dX12_decodes_174 : decode cX12_decodes 174 = .ok (.iload 12, 2) := by decide +kernel
theorem dX12_decodes_176 : decode cX12_decodes 176 = .ok (.iload 13, 2) := by decide +kernel
theorem dX12_decodes_178 : decode cX12_decodes 178 = .ok (.invokestatic 338, 3) := by decide +kernel
theorem dX12_decodes_181 : decode cX12_decodes 181 = .ok (.iaload, 1) := by decide +kernel
theorem dX12_decodes_182 : decode cX12_decodes 182 = .ok (.aload_n 0, 1) := by decide +kernel
theorem dX12_decodes_183 : decode cX12_decodes 183 = .ok (.getfield 86, 3) := by decide +kernel
theorem dX12_decodes_186 : decode cX12_decodes 186 = .ok (.iload_n 1, 1) := by decide +kernel
theorem dX12_decodes_187 : decode cX12_decodes 187 = .ok (.aaload, 1) := by decide +kernel
theorem dX12_decodes_188 : decode cX12_decodes 188 = .ok (.aload_n 0, 1) := by decide +kernel
theorem dX12_decodes_189 : decode cX12_decodes 189 = .ok (.getfield 74, 3) := by decide +kernel
theorem dX12_decodes_192 : decode cX12_decodes 192 = .ok (.iload_n 1, 1) := by decide +kernel
theorem dX12_decodes_193 : decode cX12_decodes 193 = .ok (.aaload, 1) := by decide +kernel
theorem dX12_decodes_194 : decode cX12_decodes 194 = .ok (.aload_n 0, 1) := by decide +kernel
theorem dX12_decodes_195 : decode cX12_decodes 195 = .ok (.getfield 43, 3) := by decide +kernel
theorem dX12_decodes_198 : decode cX12_decodes 198 = .ok (.iload_n 1, 1) := by decide +kernel
theorem dX12_decodes_199 : decode cX12_decodes 199 = .ok (.iaload, 1) := by decide +kernel
theorem dX12_decodes_200 : decode cX12_decodes 200 = .ok (.aload_n 0, 1) := by decide +kernel
theorem dX12_decodes_201 : decode cX12_decodes 201 = .ok (.getfield 49, 3) := by decide +kernel
theorem dX12_decodes_204 : decode cX12_decodes 204 = .ok (.iload_n 1, 1) := by decide +kernel
theorem dX12_decodes_205 : decode cX12_decodes 205 = .ok (.iaload, 1) := by decide +kernel
theorem dX12_decodes_206 : decode cX12_decodes 206 = .ok (.invokestatic 289, 3) := by decide +kernel
theorem dX12_decodes_209 : decode cX12_decodes 209 = .ok (.iinc 11 1, 3) := by decide +kernel
theorem dX12_decodes_212 : decode cX12_decodes 212 = .ok (.goto (-94), 3) := by decide +kernel
theorem dX12_decodes_215 : decode cX12_decodes 215 = .ok (.iinc 6 1, 3) := by decide +kernel
theorem dX12_decodes_218 : decode cX12_decodes 218 = .ok (.goto (-185), 3) := by decide +kernel
theorem dX12_decodes_221 : decode cX12_decodes 221 = .ok (.aload_n 3, 1) := by decide +kernel
theorem dX12_decodes_222 : decode cX12_decodes 222 = .ok (.aload_n 0, 1) := by decide +kernel
theorem dX12_decodes_223 : decode cX12_decodes 223 = .ok (.getfield 43, 3) := by decide +kernel
theorem dX12_decodes_226 : decode cX12_decodes 226 = .ok (.iload_n 1, 1) := by decide +kernel
theorem dX12_decodes_227 : decode cX12_decodes 227 = .ok (.iaload, 1) := by decide +kernel
theorem dX12_decodes_228 : decode cX12_decodes 228 = .ok (.aload_n 0, 1) := by decide +kernel
theorem dX12_decodes_229 : decode cX12_decodes 229 = .ok (.getfield 46, 3) := by decide +kernel
theorem dX12_decodes_232 : decode cX12_decodes 232 = .ok (.iload_n 1, 1) := by decide +kernel
theorem dX12_decodes_233 : decode cX12_decodes 233 = .ok (.iaload, 1) := by decide +kernel
theorem dX12_decodes_234 : decode cX12_decodes 234 = .ok (.aload_n 0, 1) := by decide +kernel
theorem dX12_decodes_235 : decode cX12_decodes 235 = .ok (.getfield 49, 3) := by decide +kernel
theorem dX12_decodes_238 : decode cX12_decodes 238 = .ok (.iload_n 1, 1) := by decide +kernel
theorem dX12_decodes_239 : decode cX12_decodes 239 = .ok (.iaload, 1) := by decide +kernel
theorem dX12_decodes_240 : decode cX12_decodes 240 = .ok (.invokestatic 316, 3) := by decide +kernel
theorem dX12_decodes_243 : decode cX12_decodes 243 = .ok (.aload_n 3, 1) := by decide +kernel
theorem dX12_decodes_244 : decode cX12_decodes 244 = .ok (.areturn, 1) := by decide +kernel
theorem dX12_send_0 : decode cX12_send 0 = .ok (.aload_n 0, 1) := by decide +kernel
theorem dX12_send_1 : decode cX12_send 1 = .ok (.aload_n 0, 1) := by decide +kernel
theorem dX12_send_2 : decode cX12_send 2 = .ok (.getfield 355, 3) := by decide +kernel
theorem dX12_send_5 : decode cX12_send 5 = .ok (.aload_n 0, 1) := by decide +kernel
theorem dX12_send_6 : decode cX12_send 6 = .ok (.getfield 305, 3) := by decide +kernel
theorem dX12_send_9 : decode cX12_send 9 = .ok (.if_icmp .lt 7, 3) := by decide +kernel
