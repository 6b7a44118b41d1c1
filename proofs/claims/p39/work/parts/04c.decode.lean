theorem dX10_bit_66 : decode cX10_bit 66 = .ok (.isub, 1) := by decide +kernel
theorem dX10_bit_67 : decode cX10_bit 67 = .ok (.bipush 32, 2) := by decide +kernel
theorem dX10_bit_69 : decode cX10_bit 69 = .ok (.idiv, 1) := by decide +kernel
theorem dX10_bit_70 : decode cX10_bit 70 = .ok (.iadd, 1) := by decide +kernel
theorem dX10_bit_71 : decode cX10_bit 71 = .ok (.invokestatic 41, 3) := by decide +kernel
theorem dX10_bit_74 : decode cX10_bit 74 = .ok (.aload_n 0, 1) := by decide +kernel
theorem dX10_bit_75 : decode cX10_bit 75 = .ok (.lconst 0, 1) := by decide +kernel
theorem dX10_bit_76 : decode cX10_bit 76 = .ok (.lload 4, 2) := by decide +kernel
theorem dX10_bit_78 : decode cX10_bit 78 = .ok (.invokevirtual 45, 3) := by decide +kernel
theorem dX10_bit_81 : decode cX10_bit 81 = .ok (.return_, 1) := by decide +kernel
theorem dX10_plain_0 : decode cX10_plain 0 = .ok (.aload_n 0, 1) := by decide +kernel
theorem dX10_plain_1 : decode cX10_plain 1 = .ok (.getfield 26, 3) := by decide +kernel
theorem dX10_plain_4 : decode cX10_plain 4 = .ok (.ldc2_w 49, 3) := by decide +kernel
theorem dX10_plain_7 : decode cX10_plain 7 = .ok (.ldiv, 1) := by decide +kernel
theorem dX10_plain_8 : decode cX10_plain 8 = .ok (.lstore_n 2, 1) := by decide +kernel
theorem dX10_plain_9 : decode cX10_plain 9 = .ok (.aload_n 0, 1) := by decide +kernel
theorem dX10_plain_10 : decode cX10_plain 10 = .ok (.iload_n 1, 1) := by decide +kernel
theorem dX10_plain_11 : decode cX10_plain 11 = .ok (.ifCond .eq 7, 3) := by decide +kernel
theorem dX10_plain_14 : decode cX10_plain 14 = .ok (.lload_n 2, 1) := by decide +kernel
theorem dX10_plain_15 : decode cX10_plain 15 = .ok (.goto 4, 3) := by decide +kernel
theorem dX10_plain_18 : decode cX10_plain 18 = .ok (.lconst 0, 1) := by decide +kernel
theorem dX10_plain_19 : decode cX10_plain 19 = .ok (.lload_n 2, 1) := by decide +kernel
theorem dX10_plain_20 : decode cX10_plain 20 = .ok (.invokevirtual 45, 3) := by decide +kernel
theorem dX10_plain_23 : decode cX10_plain 23 = .ok (.return_, 1) := by decide +kernel
theorem dX10_narrow_0 : decode cX10_narrow 0 = .ok (.aload_n 0, 1) := by decide +kernel
theorem dX10_narrow_1 : decode cX10_narrow 1 = .ok (.dup, 1) := by decide +kernel
theorem dX10_narrow_2 : decode cX10_narrow 2 = .ok (.getfield 20, 3) := by decide +kernel
theorem dX10_narrow_5 : decode cX10_narrow 5 = .ok (.lload_n 1, 1) := by decide +kernel
theorem dX10_narrow_6 : decode cX10_narrow 6 = .ok (.ladd, 1) := by decide +kernel
theorem dX10_narrow_7 : decode cX10_narrow 7 = .ok (.putfield 20, 3) := by decide +kernel
theorem dX10_narrow_10 : decode cX10_narrow 10 = .ok (.aload_n 0, 1) := by decide +kernel
theorem dX10_narrow_11 : decode cX10_narrow 11 = .ok (.getfield 20, 3) := by decide +kernel
theorem dX10_narrow_14 : decode cX10_narrow 14 = .ok (.ldc2_w 24, 3) := by decide +kernel
theorem dX10_narrow_17 : decode cX10_narrow 17 = .ok (.lcmp, 1) := by decide +kernel
theorem dX10_narrow_18 : decode cX10_narrow 18 = .ok (.ifCond .le 43, 3) := by decide +kernel
theorem dX10_narrow_21 : decode cX10_narrow 21 = .ok (.aload_n 0, 1) := by decide +kernel
theorem dX10_narrow_22 : decode cX10_narrow 22 = .ok (.dup, 1) := by decide +kernel
theorem dX10_narrow_23 : decode cX10_narrow 23 = .ok (.getfield 20, 3) := by decide +kernel
theorem dX10_narrow_26 : decode cX10_narrow 26 = .ok (.ldc2_w 24, 3) := by decide +kernel
theorem dX10_narrow_29 : decode cX10_narrow 29 = .ok (.land, 1) := by decide +kernel
theorem dX10_narrow_30 : decode cX10_narrow 30 = .ok (.putfield 20, 3) := by decide +kernel
theorem dX10_narrow_33 : decode cX10_narrow 33 = .ok (.aload_n 0, 1) := by decide +kernel
theorem dX10_narrow_34 : decode cX10_narrow 34 = .ok (.getfield 13, 3) := by decide +kernel
theorem dX10_narrow_37 : decode cX10_narrow 37 = .ok (.aload_n 0, 1) := by decide +kernel
theorem dX10_narrow_38 : decode cX10_narrow 38 = .ok (.getfield 16, 3) := by decide +kernel
theorem dX10_narrow_41 : decode cX10_narrow 41 = .ok (.iconst 1, 1) := by decide +kernel
theorem dX10_narrow_42 : decode cX10_narrow 42 = .ok (.isub, 1) := by decide +kernel
theorem dX10_narrow_43 : decode cX10_narrow 43 = .ok (.aload_n 0, 1) := by decide +kernel
theorem dX10_narrow_44 : decode cX10_narrow 44 = .ok (.getfield 13, 3) := by decide +kernel
theorem dX10_narrow_47 : decode cX10_narrow 47 = .ok (.aload_n 0, 1) := by decide +kernel
theorem dX10_narrow_48 : decode cX10_narrow 48 = .ok (.getfield 16, 3) := by decide +kernel
theorem dX10_narrow_51 : decode cX10_narrow 51 = .ok (.iconst 1, 1) := by decide +kernel
theorem dX10_narrow_52 : decode cX10_narrow 52 = .ok (.isub, 1) := by decide +kernel
theorem dX10_narrow_53 : decode cX10_narrow 53 = .ok (.invokestatic 35, 3) := by decide +kernel
theorem dX10_narrow_56 : decode cX10_narrow 56 = .ok (.iconst 1, 1) := by decide +kernel
theorem dX10_narrow_57 : decode cX10_narrow 57 = .ok (.iadd, 1) := by decide +kernel
theorem dX10_narrow_58 : decode cX10_narrow 58 = .ok (.invokestatic 41, 3) := by decide +kernel
theorem dX10_narrow_61 : decode cX10_narrow 61 = .ok (.aload_n 0, 1) := by decide +kernel
theorem dX10_narrow_62 : decode cX10_narrow 62 = .ok (.lload_n 3, 1) := by decide +kernel
theorem dX10_narrow_63 : decode cX10_narrow 63 = .ok (.putfield 26, 3) := by decide +kernel
theorem dX10_narrow_66 : decode cX10_narrow 66 = .ok (.iconst 0, 1) := by decide +kernel
theorem dX10_narrow_67 : decode cX10_narrow 67 = .ok (.istore 5, 2) := by decide +kernel
theorem dX10_narrow_69 : decode cX10_narrow 69 = .ok (.iload 5, 2) := by decide +kernel
theorem dX10_narrow_71 : decode cX10_narrow 71 = .ok (.iconst 4, 1) := by decide +kernel
theorem dX10_narrow_72 : decode cX10_narrow 72 = .ok (.if_icmp .ge 36, 3) := by decide +kernel
theorem dX10_narrow_75 : decode cX10_narrow 75 = .ok (.aload_n 0, 1) := by decide +kernel
theorem dX10_narrow_76 : decode cX10_narrow 76 = .ok (.getfield 26, 3) := by decide +kernel
theorem dX10_narrow_79 : decode cX10_narrow 79 = .ok (.ldc2_w 51, 3) := by decide +kernel
theorem dX10_narrow_82 : decode cX10_narrow 82 = .ok (.lcmp, 1) := by decide +kernel
theorem dX10_narrow_83 : decode cX10_narrow 83 = .ok (.ifCond .ge 25, 3) := by decide +kernel
theorem dX10_narrow_86 : decode cX10_narrow 86 = .ok (.aload_n 0, 1) := by decide +kernel
theorem dX10_narrow_87 : decode cX10_narrow 87 = .ok (.invokevirtual 53, 3) := by decide +kernel
theorem dX10_narrow_90 : decode cX10_narrow 90 = .ok (.aload_n 0, 1) := by decide +kernel
theorem dX10_narrow_91 : decode cX10_narrow 91 = .ok (.dup, 1) := by decide +kernel
theorem dX10_narrow_92 : decode cX10_narrow 92 = .ok (.getfield 26, 3) := by decide +kernel
theorem dX10_narrow_95 : decode cX10_narrow 95 = .ok (.ldc2_w 56, 3) := by decide +kernel
theorem dX10_narrow_98 : decode cX10_narrow 98 = .ok (.lmul, 1) := by decide +kernel
theorem dX10_narrow_99 : decode cX10_narrow 99 = .ok (.putfield 26, 3) := by decide +kernel
theorem dX10_narrow_102 : decode cX10_narrow 102 = .ok (.iinc 5 1, 3) := by decide +kernel
theorem dX10_narrow_105 : decode cX10_narrow 105 = .ok (.goto (-36), 3) := by decide +kernel
theorem dX10_narrow_108 : decode cX10_narrow 108 = .ok (.return_, 1) := by decide +kernel
theorem dX10_giveByte_0 : decode cX10_giveByte 0 = .ok (.aload_n 0, 1) := by decide +kernel
theorem dX10_giveByte_1 : decode cX10_giveByte 1 = .ok (.getfield 16, 3) := by decide +kernel
theorem dX10_giveByte_4 : decode cX10_giveByte 4 = .ok (.ifCond .lt 42, 3) := by decide +kernel
theorem dX10_giveByte_7 : decode cX10_giveByte 7 = .ok (.aload_n 0, 1) := by decide +kernel
theorem dX10_giveByte_8 : decode cX10_giveByte 8 = .ok (.getfield 16, 3) := by decide +kernel
theorem dX10_giveByte_11 : decode cX10_giveByte 11 = .ok (.aload_n 0, 1) := by decide +kernel
theorem dX10_giveByte_12 : decode cX10_giveByte 12 = .ok (.getfield 13, 3) := by decide +kernel
theorem dX10_giveByte_15 : decode cX10_giveByte 15 = .ok (.arraylength, 1) := by decide +kernel
theorem dX10_giveByte_16 : decode cX10_giveByte 16 = .ok (.if_icmp .ge 30, 3) := by decide +kernel
theorem dX10_giveByte_19 : decode cX10_giveByte 19 = .ok (.aload_n 0, 1) := by decide +kernel
theorem dX10_giveByte_20 : decode cX10_giveByte 20 = .ok (.getfield 13, 3) := by decide +kernel
theorem dX10_giveByte_23 : decode cX10_giveByte 23 = .ok (.aload_n 0, 1) := by decide +kernel
theorem dX10_giveByte_24 : decode cX10_giveByte 24 = .ok (.getfield 16, 3) := by decide +kernel
theorem dX10_giveByte_27 : decode cX10_giveByte 27 = .ok (.aload_n 0, 1) := by decide +kernel
theorem dX10_giveByte_28 : decode cX10_giveByte 28 = .ok (.getfield 20, 3) := by decide +kernel
theorem dX10_giveByte_31 : decode cX10_giveByte 31 = .ok (.bipush 24, 2) := by decide +kernel
theorem dX10_giveByte_33 : decode cX10_giveByte 33 = .ok (.lshr, 1) := by decide +kernel
theorem dX10_giveByte_34 : decode cX10_giveByte 34 = .ok (.l2i, 1) := by decide +kernel
theorem dX10_giveByte_35 : decode cX10_giveByte 35 = .ok (.iastore, 1) := by decide +kernel
theorem dX10_giveByte_36 : decode cX10_giveByte 36 = .ok (.aload_n 0, 1) := by decide +kernel
theorem dX10_giveByte_37 : decode cX10_giveByte 37 = .ok (.dup, 1) := by decide +kernel
theorem dX10_giveByte_38 : decode cX10_giveByte 38 = .ok (.getfield 16, 3) := by decide +kernel
theorem dX10_giveByte_41 : decode cX10_giveByte 41 = .ok (.iconst 1, 1) := by decide +kernel
theorem dX10_giveByte_42 : decode cX10_giveByte 42 = .ok (.iadd, 1) := by decide +kernel
theorem dX10_giveByte_43 : decode cX10_giveByte 43 = .ok (.putfield 16, 3) := by decide +kernel
theorem dX10_giveByte_46 : decode cX10_giveByte 46 = .ok (.aload_n 0, 1) := by decide +kernel
theorem dX10_giveByte_47 : decode cX10_giveByte 47 = .ok (.aload_n 0, 1) := by decide +kernel
theorem dX10_giveByte_48 : decode cX10_giveByte 48 = .ok (.getfield 20, 3) := by decide +kernel
theorem dX10_giveByte_51 : decode cX10_giveByte 51 = .ok (.bipush 8, 2) := by decide +kernel
theorem dX10_giveByte_53 : decode cX10_giveByte 53 = .ok (.lshl, 1) := by decide +kernel
theorem dX10_giveByte_54 : decode cX10_giveByte 54 = .ok (.ldc2_w 24, 3) := by decide +kernel
theorem dX10_giveByte_57 : decode cX10_giveByte 57 = .ok (.land, 1) := by decide +kernel
theorem dX10_giveByte_58 : decode cX10_giveByte 58 = .ok (.putfield 20, 3) := by decide +kernel
theorem dX10_giveByte_61 : decode cX10_giveByte 61 = .ok (.return_, 1) := by decide +kernel
theorem dX10_number_0 : decode cX10_number 0 = .ok (.iconst 1, 1) := by decide +kernel
theorem dX10_number_1 : decode cX10_number 1 = .ok (.istore_n 3, 1) := by decide +kernel
theorem dX10_number_2 : decode cX10_number 2 = .ok (.iconst 0, 1) := by decide +kernel
theorem dX10_number_3 : decode cX10_number 3 = .ok (.istore 4, 2) := by decide +kernel
theorem dX10_number_5 : decode cX10_number 5 = .ok (.iload 4, 2) := by decide +kernel
theorem dX10_number_7 : decode cX10_number 7 = .ok (.bipush 11, 2) := by decide +kernel
theorem dX10_number_9 : decode cX10_number 9 = .ok (.if_icmp .gt 38, 3) := by decide +kernel
theorem dX10_number_12 : decode cX10_number 12 = .ok (.iload_n 3, 1) := by decide +kernel
theorem dX10_number_13 : decode cX10_number 13 = .ok (.ifCond .eq 34, 3) := by decide +kernel
theorem dX10_number_16 : decode cX10_number 16 = .ok (.iload_n 2, 1) := by decide +kernel
theorem dX10_number_17 : decode cX10_number 17 = .ok (.iload 4, 2) := by decide +kernel
theorem dX10_number_19 : decode cX10_number 19 = .ok (.if_icmp .le 7, 3) := by decide +kernel
theorem dX10_number_22 : decode cX10_number 22 = .ok (.iconst 1, 1) := by decide +kernel
theorem dX10_number_23 : decode cX10_number 23 = .ok (.goto 4, 3) := by decide +kernel
theorem dX10_number_26 : decode cX10_number 26 = .ok (.iconst 0, 1) := by decide +kernel
theorem dX10_number_27 : decode cX10_number 27 = .ok (.istore_n 3, 1) := by decide +kernel
theorem dX10_number_28 : decode cX10_number 28 = .ok (.aload_n 0, 1) := by decide +kernel
theorem dX10_number_29 : decode cX10_number 29 = .ok (.iload_n 1, 1) := by decide +kernel
theorem dX10_number_30 : decode cX10_number 30 = .ok (.iload 4, 2) := by decide +kernel
theorem dX10_number_32 : decode cX10_number 32 = .ok (.iconst 5, 1) := by decide +kernel
theorem dX10_number_33 : decode cX10_number 33 = .ok (.invokestatic 58, 3) := by decide +kernel
theorem dX10_number_36 : decode cX10_number 36 = .ok (.iadd, 1) := by decide +kernel
theorem dX10_number_37 : decode cX10_number 37 = .ok (.iload_n 3, 1) := by decide +kernel
theorem dX10_number_38 : decode cX10_number 38 = .ok (.invokevirtual 64, 3) := by decide +kernel
theorem dX10_number_41 : decode cX10_number 41 = .ok (.iinc 4 1, 3) := by decide +kernel
theorem dX10_number_44 : decode cX10_number 44 = .ok (.goto (-39), 3) := by decide +kernel
theorem dX10_number_47 : decode cX10_number 47 = .ok (.iload_n 3, 1) := by decide +kernel
theorem dX10_number_48 : decode cX10_number 48 = .ok (.ifCond .ne 4, 3) := by decide +kernel
theorem dX10_number_51 : decode cX10_number 51 = .ok (.return_, 1) := by decide +kernel
theorem dX10_number_52 : decode cX10_number 52 = .ok (.iload_n 2, 1) := by decide +kernel
theorem dX10_number_53 : decode cX10_number 53 = .ok (.bipush 11, 2) := by decide +kernel
theorem dX10_number_55 : decode cX10_number 55 = .ok (.isub, 1) := by decide +kernel
theorem dX10_number_56 : decode cX10_number 56 = .ok (.istore 4, 2) := by decide +kernel
theorem dX10_number_58 : decode cX10_number 58 = .ok (.iconst 0, 1) := by decide +kernel
theorem dX10_number_59 : decode cX10_number 59 = .ok (.istore 5, 2) := by decide +kernel
theorem dX10_number_61 : decode cX10_number 61 = .ok (.iload 4, 2) := by decide +kernel
theorem dX10_number_63 : decode cX10_number 63 = .ok (.istore 6, 2) := by decide +kernel
theorem dX10_number_65 : decode cX10_number 65 = .ok (.iload 6, 2) := by decide +kernel
theorem dX10_number_67 : decode cX10_number 67 = .ok (.iconst 1, 1) := by decide +kernel
theorem dX10_number_68 : decode cX10_number 68 = .ok (.if_icmp .le 20, 3) := by decide +kernel
theorem dX10_number_71 : decode cX10_number 71 = .ok (.aload_n 0, 1) := by decide +kernel
theorem dX10_number_72 : decode cX10_number 72 = .ok (.iconst 1, 1) := by decide +kernel
theorem dX10_number_73 : decode cX10_number 73 = .ok (.invokevirtual 68, 3) := by decide +kernel
theorem dX10_number_76 : decode cX10_number 76 = .ok (.iinc 5 1, 3) := by decide +kernel
theorem dX10_number_79 : decode cX10_number 79 = .ok (.iload 6, 2) := by decide +kernel
theorem dX10_number_81 : decode cX10_number 81 = .ok (.iconst 2, 1) := by decide +kernel
theorem dX10_number_82 : decode cX10_number 82 = .ok (.idiv, 1) := by decide +kernel
theorem dX10_number_83 : decode cX10_number 83 = .ok (.istore 6, 2) := by decide +kernel
theorem dX10_number_85 : decode cX10_number 85 = .ok (.goto (-20), 3) := by decide +kernel
theorem dX10_number_88 : decode cX10_number 88 = .ok (.aload_n 0, 1) := by decide +kernel
theorem dX10_number_89 : decode cX10_number 89 = .ok (.iconst 0, 1) := by decide +kernel
theorem dX10_number_90 : decode cX10_number 90 = .ok (.invokevirtual 68, 3) := by decide +kernel
theorem dX10_number_93 : decode cX10_number 93 = .ok (.iload 5, 2) := by decide +kernel
theorem dX10_number_95 : decode cX10_number 95 = .ok (.iconst 1, 1) := by decide +kernel
theorem dX10_number_96 : decode cX10_number 96 = .ok (.isub, 1) := by decide +kernel
theorem dX10_number_97 : decode cX10_number 97 = .ok (.istore 6, 2) := by decide +kernel
theorem dX10_number_99 : decode cX10_number 99 = .ok (.iload 6, 2) := by decide +kernel
theorem dX10_number_101 : decode cX10_number 101 = .ok (.ifCond .lt 28, 3) := by decide +kernel
theorem dX10_number_104 : decode cX10_number 104 = .ok (.aload_n 0, 1) := by decide +kernel
theorem dX10_number_105 : decode cX10_number 105 = .ok (.iload 4, 2) := by decide +kernel
theorem dX10_number_107 : decode cX10_number 107 = .ok (.iload 6, 2) := by decide +kernel
theorem dX10_number_109 : decode cX10_number 109 = .ok (.ishr, 1) := by decide +kernel
theorem dX10_number_110 : decode cX10_number 110 = .ok (.iconst 1, 1) := by decide +kernel
theorem dX10_number_111 : decode cX10_number 111 = .ok (.iand, 1) := by decide +kernel
theorem dX10_number_112 : decode cX10_number 112 = .ok (.ifCond .eq 7, 3) := by decide +kernel
theorem dX10_number_115 : decode cX10_number 115 = .ok (.iconst 1, 1) := by decide +kernel
theorem dX10_number_116 : decode cX10_number 116 = .ok (.goto 4, 3) := by decide +kernel
theorem dX10_number_119 : decode cX10_number 119 = .ok (.iconst 0, 1) := by decide +kernel
theorem dX10_number_120 : decode cX10_number 120 = .ok (.invokevirtual 68, 3) := by decide +kernel
theorem dX10_number_123 : decode cX10_number 123 = .ok (.iinc 6 (-1), 3) := by decide +kernel
theorem dX10_number_126 : decode cX10_number 126 = .ok (.goto (-27), 3) := by decide +kernel
theorem dX10_number_129 : decode cX10_number 129 = .ok (.return_, 1) := by decide +kernel
theorem dX10_end_0 : decode cX10_end 0 = .ok (.iconst 0, 1) := by decide +kernel
theorem dX10_end_1 : decode cX10_end 1 = .ok (.istore_n 1, 1) := by decide +kernel
theorem dX10_end_2 : decode cX10_end 2 = .ok (.iload_n 1, 1) := by decide +kernel
theorem dX10_end_3 : decode cX10_end 3 = .ok (.iconst 4, 1) := by decide +kernel
theorem dX10_end_4 : decode cX10_end 4 = .ok (.if_icmp .ge 13, 3) := by decide +kernel
theorem dX10_end_7 : decode cX10_end 7 = .ok (.aload_n 0, 1) := by decide +kernel
theorem dX10_end_8 : decode cX10_end 8 = .ok (.invokevirtual 53, 3) := by decide +kernel
theorem dX10_end_11 : decode cX10_end 11 = .ok (.iinc 1 1, 3) := by decide +kernel
theorem dX10_end_14 : decode cX10_end 14 = .ok (.goto (-12), 3) := by decide +kernel
theorem dX10_end_17 : decode cX10_end 17 = .ok (.aload_n 0, 1) := by decide +kernel
theorem dX10_end_18 : decode cX10_end 18 = .ok (.getfield 16, 3) := by decide +kernel
theorem dX10_end_21 : decode cX10_end 21 = .ok (.aload_n 0, 1) := by decide +kernel
theorem dX10_end_22 : decode cX10_end 22 = .ok (.getfield 13, 3) := by decide +kernel
theorem dX10_end_25 : decode cX10_end 25 = .ok (.arraylength, 1) := by decide +kernel
theorem dX10_end_26 : decode cX10_end 26 = .ok (.invokestatic 58, 3) := by decide +kernel
theorem dX10_end_29 : decode cX10_end 29 = .ok (.iconst 1, 1) := by decide +kernel
theorem dX10_end_30 : decode cX10_end 30 = .ok (.isub, 1) := by decide +kernel
theorem dX10_end_31 : decode cX10_end 31 = .ok (.istore_n 1, 1) := by decide +kernel
theorem dX10_end_32 : decode cX10_end 32 = .ok (.iload_n 1, 1) := by decide +kernel
theorem dX10_end_33 : decode cX10_end 33 = .ok (.ifCond .le 41, 3) := by decide +kernel
theorem dX10_end_36 : decode cX10_end 36 = .ok (.aload_n 0, 1) := by decide +kernel
theorem dX10_end_37 : decode cX10_end 37 = .ok (.getfield 13, 3) := by decide +kernel
theorem dX10_end_40 : decode cX10_end 40 = .ok (.iload_n 1, 1) := by decide +kernel
theorem dX10_end_41 : decode cX10_end 41 = .ok (.iconst 1, 1) := by decide +kernel
theorem dX10_end_42 : decode cX10_end 42 = .ok (.isub, 1) := by decide +kernel
theorem dX10_end_43 : decode cX10_end 43 = .ok (.dup2, 1) := by decide +kernel
theorem dX10_end_44 : decode cX10_end 44 = .ok (.iaload, 1) := by decide +kernel
theorem dX10_end_45 : decode cX10_end 45 = .ok (.aload_n 0, 1) := by decide +kernel
theorem dX10_end_46 : decode cX10_end 46 = .ok (.getfield 13, 3) := by decide +kernel
theorem dX10_end_49 : decode cX10_end 49 = .ok (.iload_n 1, 1) := by decide +kernel
theorem dX10_end_50 : decode cX10_end 50 = .ok (.iaload, 1) := by decide +kernel
theorem dX10_end_51 : decode cX10_end 51 = .ok (.bipush 8, 2) := by decide +kernel
theorem dX10_end_53 : decode cX10_end 53 = .ok (.ishr, 1) := by decide +kernel
theorem dX10_end_54 : decode cX10_end 54 = .ok (.iadd, 1) := by decide +kernel
theorem dX10_end_55 : decode cX10_end 55 = .ok (.iastore, 1) := by decide +kernel
theorem dX10_end_56 : decode cX10_end 56 = .ok (.aload_n 0, 1) := by decide +kernel
theorem dX10_end_57 : decode cX10_end 57 = .ok (.getfield 13, 3) := by decide +kernel
theorem dX10_end_60 : decode cX10_end 60 = .ok (.iload_n 1, 1) := by decide +kernel
theorem dX10_end_61 : decode cX10_end 61 = .ok (.dup2, 1) := by decide +kernel
theorem dX10_end_62 : decode cX10_end 62 = .ok (.iaload, 1) := by decide +kernel
theorem dX10_end_63 : decode cX10_end 63 = .ok (.sipush 255, 3) := by decide +kernel
theorem dX10_end_66 : decode cX10_end 66 = .ok (.iand, 1) := by decide +kernel
theorem dX10_end_67 : decode cX10_end 67 = .ok (.iastore, 1) := by decide +kernel
theorem dX10_end_68 : decode cX10_end 68 = .ok (.iinc 1 (-1), 3) := by decide +kernel
theorem dX10_end_71 : decode cX10_end 71 = .ok (.goto (-39), 3) := by decide +kernel
theorem dX10_end_74 : decode cX10_end 74 = .ok (.return_, 1) := by decide +kernel
theorem dX10_written_0 : decode cX10_written 0 = .ok (.iconst 0, 1) := by decide +kernel
theorem dX10_written_1 : decode cX10_written 1 = .ok (.aload_n 0, 1) := by decide +kernel
theorem dX10_written_2 : decode cX10_written 2 = .ok (.getfield 16, 3) := by decide +kernel
theorem dX10_written_5 : decode cX10_written 5 = .ok (.invokestatic 72, 3) := by decide +kernel
theorem dX10_written_8 : decode cX10_written 8 = .ok (.newarray .int, 2) := by decide +kernel
theorem dX10_written_10 : decode cX10_written 10 = .ok (.astore_n 1, 1) := by decide +kernel
theorem dX10_written_11 : decode cX10_written 11 = .ok (.aload_n 0, 1) := by decide +kernel
theorem dX10_written_12 : decode cX10_written 12 = .ok (.getfield 13, 3) := by decide +kernel
theorem dX10_written_15 : decode cX10_written 15 = .ok (.aload_n 1, 1) := by decide +kernel
theorem dX10_written_16 : decode cX10_written 16 = .ok (.invokestatic 75, 3) := by decide +kernel
theorem dX10_written_19 : decode cX10_written 19 = .ok (.aload_n 1, 1) := by decide +kernel
theorem dX10_written_20 : decode cX10_written 20 = .ok (.areturn, 1) := by decide +kernel
theorem dX11_init_0 : decode cX11_init 0 = .ok (.aload_n 0, 1) := by decide +kernel
theorem dX11_init_1 : decode cX11_init 1 = .ok (.invokespecial 1, 3) := by decide +kernel
theorem dX11_init_4 : decode cX11_init 4 = .ok (.aload_n 0, 1) := by decide +kernel
theorem dX11_init_5 : decode cX11_init 5 = .ok (.sipush 256, 3) := by decide +kernel
theorem dX11_init_8 : decode cX11_init 8 = .ok (.newarray .int, 2) := by decide +kernel
theorem dX11_init_10 : decode cX11_init 10 = .ok (.putfield 9, 3) := by decide +kernel
theorem dX11_init_13 : decode cX11_init 13 = .ok (.aload_n 0, 1) := by decide +kernel
theorem dX11_init_14 : decode cX11_init 14 = .ok (.sipush 256, 3) := by decide +kernel
theorem dX11_init_17 : decode cX11_init 17 = .ok (.newarray .int, 2) := by decide +kernel
theorem dX11_init_19 : decode cX11_init 19 = .ok (.putfield 13, 3) := by decide +kernel
theorem dX11_init_22 : decode cX11_init 22 = .ok (.aload_n 0, 1) := by decide +kernel
theorem dX11_init_23 : decode cX11_init 23 = .ok (.bipush 8, 2) := by decide +kernel
theorem dX11_init_25 : decode cX11_init 25 = .ok (.putfield 16, 3) := by decide +kernel
theorem dX11_init_28 : decode cX11_init 28 = .ok (.aload_n 0, 1) := by decide +kernel
theorem dX11_init_29 : decode cX11_init 29 = .ok (.bipush 7, 2) := by decide +kernel
theorem dX11_init_31 : decode cX11_init 31 = .ok (.putfield 20, 3) := by decide +kernel
theorem dX11_init_34 : decode cX11_init 34 = .ok (.aload_n 0, 1) := by decide +kernel
theorem dX11_init_35 : decode cX11_init 35 = .ok (.iconst 1, 1) := by decide +kernel
theorem dX11_init_36 : decode cX11_init 36 = .ok (.putfield 23, 3) := by decide +kernel
theorem dX11_init_39 : decode cX11_init 39 = .ok (.aload_n 0, 1) := by decide +kernel
theorem dX11_init_40 : decode cX11_init 40 = .ok (.iconst 1, 1) := by decide +kernel
theorem dX11_init_41 : decode cX11_init 41 = .ok (.putfield 26, 3) := by decide +kernel
theorem dX11_init_44 : decode cX11_init 44 = .ok (.aload_n 0, 1) := by decide +kernel
theorem dX11_init_45 : decode cX11_init 45 = .ok (.new 30, 3) := by decide +kernel
theorem dX11_init_48 : decode cX11_init 48 = .ok (.dup, 1) := by decide +kernel
theorem dX11_init_49 : decode cX11_init 49 = .ok (.invokespecial 32, 3) := by decide +kernel
theorem dX11_init_52 : decode cX11_init 52 = .ok (.putfield 33, 3) := by decide +kernel
theorem dX11_init_55 : decode cX11_init 55 = .ok (.aload_n 0, 1) := by decide +kernel
theorem dX11_init_56 : decode cX11_init 56 = .ok (.bipush 12, 2) := by decide +kernel
theorem dX11_init_58 : decode cX11_init 58 = .ok (.anewarray 37, 3) := by decide +kernel
theorem dX11_init_61 : decode cX11_init 61 = .ok (.putfield 39, 3) := by decide +kernel
theorem dX11_init_64 : decode cX11_init 64 = .ok (.aload_n 0, 1) := by decide +kernel
theorem dX11_init_65 : decode cX11_init 65 = .ok (.iconst 0, 1) := by decide +kernel
theorem dX11_init_66 : decode cX11_init 66 = .ok (.putfield 43, 3) := by decide +kernel
theorem dX11_init_69 : decode cX11_init 69 = .ok (.aload_n 0, 1) := by decide +kernel
theorem dX11_init_70 : decode cX11_init 70 = .ok (.new 37, 3) := by decide +kernel
theorem dX11_init_73 : decode cX11_init 73 = .ok (.dup, 1) := by decide +kernel
theorem dX11_init_74 : decode cX11_init 74 = .ok (.invokespecial 46, 3) := by decide +kernel
theorem dX11_init_77 : decode cX11_init 77 = .ok (.putfield 47, 3) := by decide +kernel
theorem dX11_init_80 : decode cX11_init 80 = .ok (.aload_n 0, 1) := by decide +kernel
theorem dX11_init_81 : decode cX11_init 81 = .ok (.iconst 3, 1) := by decide +kernel
theorem dX11_init_82 : decode cX11_init 82 = .ok (.newarray .int, 2) := by decide +kernel
theorem dX11_init_84 : decode cX11_init 84 = .ok (.putfield 51, 3) := by decide +kernel
theorem dX11_init_87 : decode cX11_init 87 = .ok (.aload_n 0, 1) := by decide +kernel
theorem dX11_init_88 : decode cX11_init 88 = .ok (.iconst 0, 1) := by decide +kernel
theorem dX11_init_89 : decode cX11_init 89 = .ok (.putfield 54, 3) := by decide +kernel
theorem dX11_init_92 : decode cX11_init 92 = .ok (.aload_n 0, 1) := by decide +kernel
theorem dX11_init_93 : decode cX11_init 93 = .ok (.new 57, 3) := by decide +kernel
theorem dX11_init_96 : decode cX11_init 96 = .ok (.dup, 1) := by decide +kernel
theorem dX11_init_97 : decode cX11_init 97 = .ok (.invokespecial 59, 3) := by decide +kernel
theorem dX11_init_100 : decode cX11_init 100 = .ok (.putfield 60, 3) := by decide +kernel
theorem dX11_init_103 : decode cX11_init 103 = .ok (.aload_n 0, 1) := by decide +kernel
theorem dX11_init_104 : decode cX11_init 104 = .ok (.new 64, 3) := by decide +kernel
theorem dX11_init_107 : decode cX11_init 107 = .ok (.dup, 1) := by decide +kernel
theorem dX11_init_108 : decode cX11_init 108 = .ok (.invokespecial 66, 3) := by decide +kernel
theorem dX11_init_111 : decode cX11_init 111 = .ok (.putfield 67, 3) := by decide +kernel
theorem dX11_init_114 : decode cX11_init 114 = .ok (.aload_n 0, 1) := by decide +kernel
theorem dX11_init_115 : decode cX11_init 115 = .ok (.new 71, 3) := by decide +kernel
theorem dX11_init_118 : decode cX11_init 118 = .ok (.dup, 1) := by decide +kernel
theorem dX11_init_119 : decode cX11_init 119 = .ok (.invokespecial 73, 3) := by decide +kernel
theorem dX11_init_122 : decode cX11_init 122 = .ok (.putfield 74, 3) := by decide +kernel
theorem dX11_init_125 : decode cX11_init 125 = .ok (.aload_n 0, 1) := by decide +kernel
theorem dX11_init_126 : decode cX11_init 126 = .ok (.getfield 74, 3) := by decide +kernel
theorem dX11_init_129 : decode cX11_init 129 = .ok (.iconst 0, 1) := by decide +kernel
theorem dX11_init_130 : decode cX11_init 130 = .ok (.invokevirtual 78, 3) := by decide +kernel
theorem dX11_init_133 : decode cX11_init 133 = .ok (.return_, 1) := by decide +kernel
theorem dX11_fill_0 : decode cX11_fill 0 = .ok (.iload_n 1, 1) := by decide +kernel
theorem dX11_fill_1 : decode cX11_fill 1 = .ok (.iload_n 2, 1) := by decide +kernel
theorem dX11_fill_2 : decode cX11_fill 2 = .ok (.invokestatic 82, 3) := by decide +kernel
theorem dX11_fill_5 : decode cX11_fill 5 = .ok (.ifCond .eq 31, 3) := by decide +kernel
theorem dX11_fill_8 : decode cX11_fill 8 = .ok (.iload_n 3, 1) := by decide +kernel
theorem dX11_fill_9 : decode cX11_fill 9 = .ok (.iconst 1, 1) := by decide +kernel
theorem dX11_fill_10 : decode cX11_fill 10 = .ok (.if_icmp .lt 26, 3) := by decide +kernel
theorem dX11_fill_13 : decode cX11_fill 13 = .ok (.iload_n 3, 1) := by decide +kernel
theorem dX11_fill_14 : decode cX11_fill 14 = .ok (.bipush 16, 2) := by decide +kernel
theorem dX11_fill_16 : decode cX11_fill 16 = .ok (.iload_n 1, 1) := by decide +kernel
theorem dX11_fill_17 : decode cX11_fill 17 = .ok (.isub, 1) := by decide +kernel
theorem dX11_fill_18 : decode cX11_fill 18 = .ok (.if_icmp .gt 18, 3) := by decide +kernel
theorem dX11_fill_21 : decode cX11_fill 21 = .ok (.iload 4, 2) := by decide +kernel
theorem dX11_fill_23 : decode cX11_fill 23 = .ok (.iconst 1, 1) := by decide +kernel
theorem dX11_fill_24 : decode cX11_fill 24 = .ok (.if_icmp .lt 12, 3) := by decide +kernel
theorem dX11_fill_27 : decode cX11_fill 27 = .ok (.iload 4, 2) := by decide +kernel
theorem dX11_fill_29 : decode cX11_fill 29 = .ok (.bipush 16, 2) := by decide +kernel
theorem dX11_fill_31 : decode cX11_fill 31 = .ok (.iload_n 2, 1) := by decide +kernel
theorem dX11_fill_32 : decode cX11_fill 32 = .ok (.isub, 1) := by decide +kernel
theorem dX11_fill_33 : decode cX11_fill 33 = .ok (.if_icmp .le 13, 3) := by decide +kernel
theorem dX11_fill_36 : decode cX11_fill 36 = .ok (.new 86, 3) := by decide +kernel
theorem dX11_fill_39 : decode cX11_fill 39 = .ok (.dup, 1) := by decide +kernel
theorem dX11_fill_40 : decode cX11_fill 40 = .ok (.ldc 88, 2) := by decide +kernel
theorem dX11_fill_42 : decode cX11_fill 42 = .ok (.invokespecial 90, 3) := by decide +kernel
theorem dX11_fill_45 : decode cX11_fill 45 = .ok (.athrow, 1) := by decide +kernel
theorem dX11_fill_46 : decode cX11_fill 46 = .ok (.iload 5, 2) := by decide +kernel
theorem dX11_fill_48 : decode cX11_fill 48 = .ok (.invokestatic 93, 3) := by decide +kernel
theorem dX11_fill_51 : decode cX11_fill 51 = .ok (.ifCond .ne 13, 3) := by decide +kernel
theorem dX11_fill_54 : decode cX11_fill 54 = .ok (.new 86, 3) := by decide +kernel
theorem dX11_fill_57 : decode cX11_fill 57 = .ok (.dup, 1) := by decide +kernel
theorem dX11_fill_58 : decode cX11_fill 58 = .ok (.ldc 97, 2) := by decide +kernel
theorem dX11_fill_60 : decode cX11_fill 60 = .ok (.invokespecial 90, 3) := by decide +kernel
theorem dX11_fill_63 : decode cX11_fill 63 = .ok (.athrow, 1) := by decide +kernel
theorem dX11_fill_64 : decode cX11_fill 64 = .ok (.iconst 0, 1) := by decide +kernel
theorem dX11_fill_65 : decode cX11_fill 65 = .ok (.istore 6, 2) := by decide +kernel
theorem dX11_fill_67 : decode cX11_fill 67 = .ok (.iload_n 2, 1) := by decide +kernel
theorem dX11_fill_68 : decode cX11_fill 68 = .ok (.istore 7, 2) := by decide +kernel
theorem dX11_fill_70 : decode cX11_fill 70 = .ok (.iload 7, 2) := by decide +kernel
theorem dX11_fill_72 : decode cX11_fill 72 = .ok (.iload_n 2, 1) := by decide +kernel
theorem dX11_fill_73 : decode cX11_fill 73 = .ok (.iload 4, 2) := by decide +kernel
theorem dX11_fill_75 : decode cX11_fill 75 = .ok (.iadd, 1) := by decide +kernel
theorem dX11_fill_76 : decode cX11_fill 76 = .ok (.if_icmp .ge 63, 3) := by decide +kernel
theorem dX11_fill_79 : decode cX11_fill 79 = .ok (.iload_n 1, 1) := by decide +kernel
theorem dX11_fill_80 : decode cX11_fill 80 = .ok (.istore 8, 2) := by decide +kernel
theorem dX11_fill_82 : decode cX11_fill 82 = .ok (.iload 8, 2) := by decide +kernel
theorem dX11_fill_84 : decode cX11_fill 84 = .ok (.iload_n 1, 1) := by decide +kernel
theorem dX11_fill_85 : decode cX11_fill 85 = .ok (.iload_n 3, 1) := by decide +kernel
theorem dX11_fill_86 : decode cX11_fill 86 = .ok (.iadd, 1) := by decide +kernel
theorem dX11_fill_87 : decode cX11_fill 87 = .ok (.if_icmp .ge 46, 3) := by decide +kernel
theorem dX11_fill_90 : decode cX11_fill 90 = .ok (.iload 8, 2) := by decide +kernel
theorem dX11_fill_92 : decode cX11_fill 92 = .ok (.iload 7, 2) := by decide +kernel
theorem dX11_fill_94 : decode cX11_fill 94 = .ok (.invokestatic 99, 3) := by decide +kernel
theorem dX11_fill_97 : decode cX11_fill 97 = .ok (.istore 9, 2) := by decide +kernel
theorem dX11_fill_99 : decode cX11_fill 99 = .ok (.aload_n 0, 1) := by decide +kernel
theorem dX11_fill_100 : decode cX11_fill 100 = .ok (.getfield 9, 3) := by decide +kernel
theorem dX11_fill_103 : decode cX11_fill 103 = .ok (.iload 9, 2) := by decide +kernel
theorem dX11_fill_105 : decode cX11_fill 105 = .ok (.invokestatic 103, 3) := by decide +kernel
theorem dX11_fill_108 : decode cX11_fill 108 = .ok (.iload 5, 2) := by decide +kernel
theorem dX11_fill_110 : decode cX11_fill 110 = .ok (.if_icmp .eq 17, 3) := by decide +kernel
theorem dX11_fill_113 : decode cX11_fill 113 = .ok (.aload_n 0, 1) := by decide +kernel
theorem dX11_fill_114 : decode cX11_fill 114 = .ok (.getfield 9, 3) := by decide +kernel
theorem dX11_fill_117 : decode cX11_fill 117 = .ok (.iload 9, 2) := by decide +kernel
theorem dX11_fill_119 : decode cX11_fill 119 = .ok (.iload 5, 2) := by decide +kernel
theorem dX11_fill_121 : decode cX11_fill 121 = .ok (.invokestatic 109, 3) := by decide +kernel
theorem dX11_fill_124 : decode cX11_fill 124 = .ok (.iinc 6 1, 3) := by decide +kernel
theorem dX11_fill_127 : decode cX11_fill 127 = .ok (.iinc 8 1, 3) := by decide +kernel
theorem dX11_fill_130 : decode cX11_fill 130 = .ok (.goto (-48), 3) := by decide +kernel
theorem dX11_fill_133 : decode cX11_fill 133 = .ok (.iinc 7 1, 3) := by decide +kernel
theorem dX11_fill_136 : decode cX11_fill 136 = .ok (.goto (-66), 3) := by decide +kernel
theorem dX11_fill_139 : decode cX11_fill 139 = .ok (.iload 6, 2) := by decide +kernel
theorem dX11_fill_141 : decode cX11_fill 141 = .ok (.ireturn, 1) := by decide +kernel
theorem dX11_slope_0 : decode cX11_slope 0 = .ok (.iload_n 1, 1) := by decide +kernel
theorem dX11_slope_1 : decode cX11_slope 1 = .ok (.invokestatic 93, 3) := by decide +kernel
theorem dX11_slope_4 : decode cX11_slope 4 = .ok (.ifCond .ne 13, 3) := by decide +kernel
theorem dX11_slope_7 : decode cX11_slope 7 = .ok (.new 86, 3) := by decide +kernel
theorem dX11_slope_10 : decode cX11_slope 10 = .ok (.dup, 1) := by decide +kernel
theorem dX11_slope_11 : decode cX11_slope 11 = .ok (.ldc 113, 2) := by decide +kernel
theorem dX11_slope_13 : decode cX11_slope 13 = .ok (.invokespecial 90, 3) := by decide +kernel
theorem dX11_slope_16 : decode cX11_slope 16 = .ok (.athrow, 1) := by decide +kernel
theorem dX11_slope_17 : decode cX11_slope 17 = .ok (.iload_n 2, 1) := by decide +kernel
theorem dX11_slope_18 : decode cX11_slope 18 = .ok (.bipush (-99), 2) := by decide +kernel
theorem dX11_slope_20 : decode cX11_slope 20 = .ok (.if_icmp .lt 21, 3) := by decide +kernel
theorem dX11_slope_23 : decode cX11_slope 23 = .ok (.iload_n 2, 1) := by decide +kernel
theorem dX11_slope_24 : decode cX11_slope 24 = .ok (.bipush 99, 2) := by decide +kernel
theorem dX11_slope_26 : decode cX11_slope 26 = .ok (.if_icmp .gt 15, 3) := by decide +kernel
theorem dX11_slope_29 : decode cX11_slope 29 = .ok (.iload_n 3, 1) := by decide +kernel
theorem dX11_slope_30 : decode cX11_slope 30 = .ok (.bipush (-99), 2) := by decide +kernel
theorem dX11_slope_32 : decode cX11_slope 32 = .ok (.if_icmp .lt 9, 3) := by decide +kernel
theorem dX11_slope_35 : decode cX11_slope 35 = .ok (.iload_n 3, 1) := by decide +kernel
theorem dX11_slope_36 : decode cX11_slope 36 = .ok (.bipush 99, 2) := by decide +kernel
theorem dX11_slope_38 : decode cX11_slope 38 = .ok (.if_icmp .le 13, 3) := by decide +kernel
theorem dX11_slope_41 : decode cX11_slope 41 = .ok (.new 86, 3) := by decide +kernel
theorem dX11_slope_44 : decode cX11_slope 44 = .ok (.dup, 1) := by decide +kernel
theorem dX11_slope_45 : decode cX11_slope 45 = .ok (.ldc 115, 2) := by decide +kernel
theorem dX11_slope_47 : decode cX11_slope 47 = .ok (.invokespecial 90, 3) := by decide +kernel
theorem dX11_slope_50 : decode cX11_slope 50 = .ok (.athrow, 1) := by decide +kernel
theorem dX11_slope_51 : decode cX11_slope 51 = .ok (.iconst 0, 1) := by decide +kernel
theorem dX11_slope_52 : decode cX11_slope 52 = .ok (.istore 4, 2) := by decide +kernel
theorem dX11_slope_54 : decode cX11_slope 54 = .ok (.iload 4, 2) := by decide +kernel
theorem dX11_slope_56 : decode cX11_slope 56 = .ok (.bipush 16, 2) := by decide +kernel
theorem dX11_slope_58 : decode cX11_slope 58 = .ok (.if_icmp .ge 54, 3) := by decide +kernel
theorem dX11_slope_61 : decode cX11_slope 61 = .ok (.iconst 0, 1) := by decide +kernel
theorem dX11_slope_62 : decode cX11_slope 62 = .ok (.istore 5, 2) := by decide +kernel
theorem dX11_slope_64 : decode cX11_slope 64 = .ok (.iload 5, 2) := by decide +kernel
theorem dX11_slope_66 : decode cX11_slope 66 = .ok (.bipush 16, 2) := by decide +kernel
theorem dX11_slope_68 : decode cX11_slope 68 = .ok (.if_icmp .ge 38, 3) := by decide +kernel
theorem dX11_slope_71 : decode cX11_slope 71 = .ok (.aload_n 0, 1) := by decide +kernel
theorem dX11_slope_72 : decode cX11_slope 72 = .ok (.getfield 9, 3) := by decide +kernel
theorem dX11_slope_75 : decode cX11_slope 75 = .ok (.iload 5, 2) := by decide +kernel
theorem dX11_slope_77 : decode cX11_slope 77 = .ok (.iload 4, 2) := by decide +kernel
theorem dX11_slope_79 : decode cX11_slope 79 = .ok (.invokestatic 99, 3) := by decide +kernel
theorem dX11_slope_82 : decode cX11_slope 82 = .ok (.iload_n 1, 1) := by decide +kernel
theorem dX11_slope_83 : decode cX11_slope 83 = .ok (.iload 5, 2) := by decide +kernel
theorem dX11_slope_85 : decode cX11_slope 85 = .ok (.iload_n 2, 1) := by decide +kernel
theorem dX11_slope_86 : decode cX11_slope 86 = .ok (.imul, 1) := by decide +kernel
theorem dX11_slope_87 : decode cX11_slope 87 = .ok (.iadd, 1) := by decide +kernel
theorem dX11_slope_88 : decode cX11_slope 88 = .ok (.iload 4, 2) := by decide +kernel
theorem dX11_slope_90 : decode cX11_slope 90 = .ok (.iload_n 3, 1) := by decide +kernel
theorem dX11_slope_91 : decode cX11_slope 91 = .ok (.imul, 1) := by decide +kernel
theorem dX11_slope_92 : decode cX11_slope 92 = .ok (.iadd, 1) := by decide +kernel
theorem dX11_slope_93 : decode cX11_slope 93 = .ok (.sipush 255, 3) := by decide +kernel
theorem dX11_slope_96 : decode cX11_slope 96 = .ok (.iand, 1) := by decide +kernel
theorem dX11_slope_97 : decode cX11_slope 97 = .ok (.invokestatic 109, 3) := by decide +kernel
theorem dX11_slope_100 : decode cX11_slope 100 = .ok (.iinc 5 1, 3) := by decide +kernel
theorem dX11_slope_103 : decode cX11_slope 103 = .ok (.goto (-39), 3) := by decide +kernel
theorem dX11_slope_106 : decode cX11_slope 106 = .ok (.iinc 4 1, 3) := by decide +kernel
theorem dX11_slope_109 : decode cX11_slope 109 = .ok (.goto (-55), 3) := by decide +kernel
theorem dX11_slope_112 : decode cX11_slope 112 = .ok (.aload_n 0, 1) := by decide +kernel
theorem dX11_slope_113 : decode cX11_slope 113 = .ok (.getfield 9, 3) := by decide +kernel
theorem dX11_slope_116 : decode cX11_slope 116 = .ok (.sipush 255, 3) := by decide +kernel
theorem dX11_slope_119 : decode cX11_slope 119 = .ok (.invokestatic 103, 3) := by decide +kernel
theorem dX11_slope_122 : decode cX11_slope 122 = .ok (.ireturn, 1) := by decide +kernel
theorem dX11_grain_0 : decode cX11_grain 0 = .ok (.iload_n 2, 1) := by decide +kernel
theorem dX11_grain_1 : decode cX11_grain 1 = .ok (.iconst 1, 1) := by decide +kernel
theorem dX11_grain_2 : decode cX11_grain 2 = .ok (.if_icmp .lt 9, 3) := by decide +kernel
theorem dX11_grain_5 : decode cX11_grain 5 = .ok (.iload_n 2, 1) := by decide +kernel
theorem dX11_grain_6 : decode cX11_grain 6 = .ok (.bipush 99, 2) := by decide +kernel
theorem dX11_grain_8 : decode cX11_grain 8 = .ok (.if_icmp .le 13, 3) := by decide +kernel
theorem dX11_grain_11 : decode cX11_grain 11 = .ok (.new 86, 3) := by decide +kernel
theorem dX11_grain_14 : decode cX11_grain 14 = .ok (.dup, 1) := by decide +kernel
theorem dX11_grain_15 : decode cX11_grain 15 = .ok (.ldc 117, 2) := by decide +kernel
theorem dX11_grain_17 : decode cX11_grain 17 = .ok (.invokespecial 90, 3) := by decide +kernel
theorem dX11_grain_20 : decode cX11_grain 20 = .ok (.athrow, 1) := by decide +kernel
theorem dX11_grain_21 : decode cX11_grain 21 = .ok (.iload_n 1, 1) := by decide +kernel
theorem dX11_grain_22 : decode cX11_grain 22 = .ok (.istore_n 3, 1) := by decide +kernel
theorem dX11_grain_23 : decode cX11_grain 23 = .ok (.iconst 0, 1) := by decide +kernel
theorem dX11_grain_24 : decode cX11_grain 24 = .ok (.istore 4, 2) := by decide +kernel
theorem dX11_grain_26 : decode cX11_grain 26 = .ok (.iload 4, 2) := by decide +kernel
theorem dX11_grain_28 : decode cX11_grain 28 = .ok (.sipush 256, 3) := by decide +kernel
theorem dX11_grain_31 : decode cX11_grain 31 = .ok (.if_icmp .ge 56, 3) := by decide +kernel
theorem dX11_grain_34 : decode cX11_grain 34 = .ok (.ldc 119, 2) := by decide +kernel
theorem dX11_grain_36 : decode cX11_grain 36 = .ok (.iload_n 3, 1) := by decide +kernel
theorem dX11_grain_37 : decode cX11_grain 37 = .ok (.imul, 1) := by decide +kernel
theorem dX11_grain_38 : decode cX11_grain 38 = .ok (.sipush 12345, 3) := by decide +kernel
theorem dX11_grain_41 : decode cX11_grain 41 = .ok (.iadd, 1) := by decide +kernel
theorem dX11_grain_42 : decode cX11_grain 42 = .ok (.istore_n 3, 1) := by decide +kernel
theorem dX11_grain_43 : decode cX11_grain 43 = .ok (.iload_n 3, 1) := by decide +kernel
theorem dX11_grain_44 : decode cX11_grain 44 = .ok (.bipush 16, 2) := by decide +kernel
theorem dX11_grain_46 : decode cX11_grain 46 = .ok (.iushr, 1) := by decide +kernel
theorem dX11_grain_47 : decode cX11_grain 47 = .ok (.iconst 2, 1) := by decide +kernel
theorem dX11_grain_48 : decode cX11_grain 48 = .ok (.iload_n 2, 1) := by decide +kernel
theorem dX11_grain_49 : decode cX11_grain 49 = .ok (.imul, 1) := by decide +kernel
theorem dX11_grain_50 : decode cX11_grain 50 = .ok (.iconst 1, 1) := by decide +kernel
theorem dX11_grain_51 : decode cX11_grain 51 = .ok (.iadd, 1) := by decide +kernel
theorem dX11_grain_52 : decode cX11_grain 52 = .ok (.irem, 1) := by decide +kernel
theorem dX11_grain_53 : decode cX11_grain 53 = .ok (.iload_n 2, 1) := by decide +kernel
theorem dX11_grain_54 : decode cX11_grain 54 = .ok (.isub, 1) := by decide +kernel
theorem dX11_grain_55 : decode cX11_grain 55 = .ok (.istore 5, 2) := by decide +kernel
theorem dX11_grain_57 : decode cX11_grain 57 = .ok (.aload_n 0, 1) := by decide +kernel
theorem dX11_grain_58 : decode cX11_grain 58 = .ok (.getfield 9, 3) := by decide +kernel
theorem dX11_grain_61 : decode cX11_grain 61 = .ok (.iload 4, 2) := by decide +kernel
theorem dX11_grain_63 : decode cX11_grain 63 = .ok (.aload_n 0, 1) := by decide +kernel
theorem dX11_grain_64 : decode cX11_grain 64 = .ok (.getfield 9, 3) := by decide +kernel
theorem dX11_grain_67 : decode cX11_grain 67 = .ok (.iload 4, 2) := by decide +kernel
theorem dX11_grain_69 : decode cX11_grain 69 = .ok (.invokestatic 103, 3) := by decide +kernel
theorem dX11_grain_72 : decode cX11_grain 72 = .ok (.iload 5, 2) := by decide +kernel
theorem dX11_grain_74 : decode cX11_grain 74 = .ok (.iadd, 1) := by decide +kernel
theorem dX11_grain_75 : decode cX11_grain 75 = .ok (.invokestatic 120, 3) := by decide +kernel
theorem dX11_grain_78 : decode cX11_grain 78 = .ok (.invokestatic 109, 3) := by decide +kernel
theorem dX11_grain_81 : decode cX11_grain 81 = .ok (.iinc 4 1, 3) := by decide +kernel
theorem dX11_grain_84 : decode cX11_grain 84 = .ok (.goto (-58), 3) := by decide +kernel
theorem dX11_grain_87 : decode cX11_grain 87 = .ok (.iload_n 3, 1) := by decide +kernel
theorem dX11_grain_88 : decode cX11_grain 88 = .ok (.ireturn, 1) := by decide +kernel
theorem dX11_move_0 : decode cX11_move 0 = .ok (.iload_n 1, 1) := by decide +kernel
theorem dX11_move_1 : decode cX11_move 1 = .ok (.bipush (-16), 2) := by decide +kernel
theorem dX11_move_3 : decode cX11_move 3 = .ok (.if_icmp .le 21, 3) := by decide +kernel
theorem dX11_move_6 : decode cX11_move 6 = .ok (.iload_n 1, 1) := by decide +kernel
theorem dX11_move_7 : decode cX11_move 7 = .ok (.bipush 16, 2) := by decide +kernel
theorem dX11_move_9 : decode cX11_move 9 = .ok (.if_icmp .ge 15, 3) := by decide +kernel
theorem dX11_move_12 : decode cX11_move 12 = .ok (.iload_n 2, 1) := by decide +kernel
theorem dX11_move_13 : decode cX11_move 13 = .ok (.bipush (-16), 2) := by decide +kernel
theorem dX11_move_15 : decode cX11_move 15 = .ok (.if_icmp .le 9, 3) := by decide +kernel
theorem dX11_move_18 : decode cX11_move 18 = .ok (.iload_n 2, 1) := by decide +kernel
theorem dX11_move_19 : decode cX11_move 19 = .ok (.bipush 16, 2) := by decide +kernel
theorem dX11_move_21 : decode cX11_move 21 = .ok (.if_icmp .lt 13, 3) := by decide +kernel
theorem dX11_move_24 : decode cX11_move 24 = .ok (.new 86, 3) := by decide +kernel
theorem dX11_move_27 : decode cX11_move 27 = .ok (.dup, 1) := by decide +kernel
theorem dX11_move_28 : decode cX11_move 28 = .ok (.ldc 124, 2) := by decide +kernel
theorem dX11_move_30 : decode cX11_move 30 = .ok (.invokespecial 90, 3) := by decide +kernel
theorem dX11_move_33 : decode cX11_move 33 = .ok (.athrow, 1) := by decide +kernel
theorem dX11_move_34 : decode cX11_move 34 = .ok (.iconst 0, 1) := by decide +kernel
theorem dX11_move_35 : decode cX11_move 35 = .ok (.istore_n 3, 1) := by decide +kernel
theorem dX11_move_36 : decode cX11_move 36 = .ok (.iload_n 3, 1) := by decide +kernel
theorem dX11_move_37 : decode cX11_move 37 = .ok (.bipush 16, 2) := by decide +kernel
theorem dX11_move_39 : decode cX11_move 39 = .ok (.if_icmp .ge 65, 3) := by decide +kernel
theorem dX11_move_42 : decode cX11_move 42 = .ok (.iconst 0, 1) := by decide +kernel
theorem dX11_move_43 : decode cX11_move 43 = .ok (.istore 4, 2) := by decide +kernel
theorem dX11_move_45 : decode cX11_move 45 = .ok (.iload 4, 2) := by decide +kernel
theorem dX11_move_47 : decode cX11_move 47 = .ok (.bipush 16, 2) := by decide +kernel
theorem dX11_move_49 : decode cX11_move 49 = .ok (.if_icmp .ge 49, 3) := by decide +kernel
theorem dX11_move_52 : decode cX11_move 52 = .ok (.iload 4, 2) := by decide +kernel
theorem dX11_move_54 : decode cX11_move 54 = .ok (.iload_n 1, 1) := by decide +kernel
theorem dX11_move_55 : decode cX11_move 55 = .ok (.iadd, 1) := by decide +kernel
theorem dX11_move_56 : decode cX11_move 56 = .ok (.bipush 15, 2) := by decide +kernel
theorem dX11_move_58 : decode cX11_move 58 = .ok (.iand, 1) := by decide +kernel
theorem dX11_move_59 : decode cX11_move 59 = .ok (.iload_n 3, 1) := by decide +kernel
theorem dX11_move_60 : decode cX11_move 60 = .ok (.iload_n 2, 1) := by decide +kernel
theorem dX11_move_61 : decode cX11_move 61 = .ok (.iadd, 1) := by decide +kernel
theorem dX11_move_62 : decode cX11_move 62 = .ok (.bipush 15, 2) := by decide +kernel
theorem dX11_move_64 : decode cX11_move 64 = .ok (.iand, 1) := by decide +kernel
theorem dX11_move_65 : decode cX11_move 65 = .ok (.invokestatic 99, 3) := by decide +kernel
theorem dX11_move_68 : decode cX11_move 68 = .ok (.istore 5, 2) := by decide +kernel
theorem dX11_move_70 : decode cX11_move 70 = .ok (.aload_n 0, 1) := by decide +kernel
theorem dX11_move_71 : decode cX11_move 71 = .ok (.getfield 13, 3) := by decide +kernel
theorem dX11_move_74 : decode cX11_move 74 = .ok (.iload 5, 2) := by decide +kernel
theorem dX11_move_76 : decode cX11_move 76 = .ok (.aload_n 0, 1) := by decide +kernel
theorem dX11_move_77 : decode cX11_move 77 = .ok (.getfield 9, 3) := by decide +kernel
theorem dX11_move_80 : decode cX11_move 80 = .ok (.iload 4, 2) := by decide +kernel
theorem dX11_move_82 : decode cX11_move 82 = .ok (.iload_n 3, 1) := by decide +kernel
theorem dX11_move_83 : decode cX11_move 83 = .ok (.invokestatic 99, 3) := by decide +kernel
theorem dX11_move_86 : decode cX11_move 86 = .ok (.invokestatic 103, 3) := by decide +kernel
theorem dX11_move_89 : decode cX11_move 89 = .ok (.invokestatic 109, 3) := by decide +kernel
theorem dX11_move_92 : decode cX11_move 92 = .ok (.iinc 4 1, 3) := by decide +kernel
theorem dX11_move_95 : decode cX11_move 95 = .ok (.goto (-50), 3) := by decide +kernel
theorem dX11_move_98 : decode cX11_move 98 = .ok (.iinc 3 1, 3) := by decide +kernel
theorem dX11_move_101 : decode cX11_move 101 = .ok (.goto (-65), 3) := by decide +kernel
theorem dX11_move_104 : decode cX11_move 104 = .ok (.aload_n 0, 1) := by decide +kernel
theorem dX11_move_105 : decode cX11_move 105 = .ok (.getfield 13, 3) := by decide +kernel
theorem dX11_move_108 : decode cX11_move 108 = .ok (.aload_n 0, 1) := by decide +kernel
theorem dX11_move_109 : decode cX11_move 109 = .ok (.getfield 9, 3) := by decide +kernel
theorem dX11_move_112 : decode cX11_move 112 = .ok (.invokestatic 126, 3) := by decide +kernel
theorem dX11_move_115 : decode cX11_move 115 = .ok (.aload_n 0, 1) := by decide +kernel
theorem dX11_move_116 : decode cX11_move 116 = .ok (.getfield 9, 3) := by decide +kernel
theorem dX11_move_119 : decode cX11_move 119 = .ok (.iconst 0, 1) := by decide +kernel
theorem dX11_move_120 : decode cX11_move 120 = .ok (.invokestatic 103, 3) := by decide +kernel
theorem dX11_move_123 : decode cX11_move 123 = .ok (.ireturn, 1) := by decide +kernel
theorem dX11_pixel_0 : decode cX11_pixel 0 = .ok (.iload_n 1, 1) := by decide +kernel
theorem dX11_pixel_1 : decode cX11_pixel 1 = .ok (.iload_n 2, 1) := by decide +kernel
theorem dX11_pixel_2 : decode cX11_pixel 2 = .ok (.invokestatic 130, 3) := by decide +kernel
theorem dX11_pixel_5 : decode cX11_pixel 5 = .ok (.aload_n 0, 1) := by decide +kernel
theorem dX11_pixel_6 : decode cX11_pixel 6 = .ok (.getfield 9, 3) := by decide +kernel
theorem dX11_pixel_9 : decode cX11_pixel 9 = .ok (.iload_n 1, 1) := by decide +kernel
theorem dX11_pixel_10 : decode cX11_pixel 10 = .ok (.iload_n 2, 1) := by decide +kernel
theorem dX11_pixel_11 : decode cX11_pixel 11 = .ok (.invokestatic 99, 3) := by decide +kernel
theorem dX11_pixel_14 : decode cX11_pixel 14 = .ok (.invokestatic 103, 3) := by decide +kernel
theorem dX11_pixel_17 : decode cX11_pixel 17 = .ok (.ireturn, 1) := by decide +kernel
theorem dX11_setCoarseness_0 : decode cX11_setCoarseness 0 = .ok (.iload_n 1, 1) := by decide +kernel
theorem dX11_setCoarseness_1 : decode cX11_setCoarseness 1 = .ok (.iconst 1, 1) := by decide +kernel
theorem dX11_setCoarseness_2 : decode cX11_setCoarseness 2 = .ok (.if_icmp .lt 9, 3) := by decide +kernel
theorem dX11_setCoarseness_5 : decode cX11_setCoarseness 5 = .ok (.iload_n 1, 1) := by decide +kernel
theorem dX11_setCoarseness_6 : decode cX11_setCoarseness 6 = .ok (.bipush 40, 2) := by decide +kernel
theorem dX11_setCoarseness_8 : decode cX11_setCoarseness 8 = .ok (.if_icmp .le 13, 3) := by decide +kernel
theorem dX11_setCoarseness_11 : decode cX11_setCoarseness 11 = .ok (.new 86, 3) := by decide +kernel
theorem dX11_setCoarseness_14 : decode cX11_setCoarseness 14 = .ok (.dup, 1) := by decide +kernel
theorem dX11_setCoarseness_15 : decode cX11_setCoarseness 15 = .ok (.ldc 134, 2) := by decide +kernel
theorem dX11_setCoarseness_17 : decode cX11_setCoarseness 17 = .ok (.invokespecial 90, 3) := by decide +kernel
theorem dX11_setCoarseness_20 : decode cX11_setCoarseness 20 = .ok (.athrow, 1) := by decide +kernel
theorem dX11_setCoarseness_21 : decode cX11_setCoarseness 21 = .ok (.aload_n 0, 1) := by decide +kernel
theorem dX11_setCoarseness_22 : decode cX11_setCoarseness 22 = .ok (.getfield 16, 3) := by decide +kernel
theorem dX11_setCoarseness_25 : decode cX11_setCoarseness 25 = .ok (.istore_n 2, 1) := by decide +kernel
theorem dX11_setCoarseness_26 : decode cX11_setCoarseness 26 = .ok (.aload_n 0, 1) := by decide +kernel
theorem dX11_setCoarseness_27 : decode cX11_setCoarseness 27 = .ok (.iload_n 1, 1) := by decide +kernel
theorem dX11_setCoarseness_28 : decode cX11_setCoarseness 28 = .ok (.putfield 16, 3) := by decide +kernel
theorem dX11_setCoarseness_31 : decode cX11_setCoarseness 31 = .ok (.iload_n 2, 1) := by decide +kernel
theorem dX11_setCoarseness_32 : decode cX11_setCoarseness 32 = .ok (.ireturn, 1) := by decide +kernel
theorem dX11_setTools_0 : decode cX11_setTools 0 = .ok (.iload_n 1, 1) := by decide +kernel
theorem dX11_setTools_1 : decode cX11_setTools 1 = .ok (.ifCond .lt 9, 3) := by decide +kernel
theorem dX11_setTools_4 : decode cX11_setTools 4 = .ok (.iload_n 1, 1) := by decide +kernel
theorem dX11_setTools_5 : decode cX11_setTools 5 = .ok (.bipush 7, 2) := by decide +kernel
theorem dX11_setTools_7 : decode cX11_setTools 7 = .ok (.if_icmp .le 13, 3) := by decide +kernel
theorem dX11_setTools_10 : decode cX11_setTools 10 = .ok (.new 86, 3) := by decide +kernel
theorem dX11_setTools_13 : decode cX11_setTools 13 = .ok (.dup, 1) := by decide +kernel
theorem dX11_setTools_14 : decode cX11_setTools 14 = .ok (.ldc 136, 2) := by decide +kernel
theorem dX11_setTools_16 : decode cX11_setTools 16 = .ok (.invokespecial 90, 3) := by decide +kernel
theorem dX11_setTools_19 : decode cX11_setTools 19 = .ok (.athrow, 1) := by decide +kernel
theorem dX11_setTools_20 : decode cX11_setTools 20 = .ok (.aload_n 0, 1) := by decide +kernel
theorem dX11_setTools_21 : decode cX11_setTools 21 = .ok (.getfield 20, 3) := by decide +kernel
theorem dX11_setTools_24 : decode cX11_setTools 24 = .ok (.istore_n 2, 1) := by decide +kernel
theorem dX11_setTools_25 : decode cX11_setTools 25 = .ok (.aload_n 0, 1) := by decide +kernel
theorem dX11_setTools_26 : decode cX11_setTools 26 = .ok (.iload_n 1, 1) := by decide +kernel
theorem dX11_setTools_27 : decode cX11_setTools 27 = .ok (.putfield 20, 3) := by decide +kernel
theorem dX11_setTools_30 : decode cX11_setTools 30 = .ok (.iload_n 2, 1) := by decide +kernel
theorem dX11_setTools_31 : decode cX11_setTools 31 = .ok (.ireturn, 1) := by decide +kernel
theorem dX11_setSlices_0 : decode cX11_setSlices 0 = .ok (.iload_n 1, 1) := by decide +kernel
theorem dX11_setSlices_1 : decode cX11_setSlices 1 = .ok (.iconst 1, 1) := by decide +kernel
theorem dX11_setSlices_2 : decode cX11_setSlices 2 = .ok (.if_icmp .lt 8, 3) := by decide +kernel
theorem dX11_setSlices_5 : decode cX11_setSlices 5 = .ok (.iload_n 1, 1) := by decide +kernel
theorem dX11_setSlices_6 : decode cX11_setSlices 6 = .ok (.iconst 2, 1) := by decide +kernel
theorem dX11_setSlices_7 : decode cX11_setSlices 7 = .ok (.if_icmp .le 13, 3) := by decide +kernel
theorem dX11_setSlices_10 : decode cX11_setSlices 10 = .ok (.new 86, 3) := by decide +kernel
theorem dX11_setSlices_13 : decode cX11_setSlices 13 = .ok (.dup, 1) := by decide +kernel
theorem dX11_setSlices_14 : decode cX11_setSlices 14 = .ok (.ldc 138, 2) := by decide +kernel
theorem dX11_setSlices_16 : decode cX11_setSlices 16 = .ok (.invokespecial 90, 3) := by decide +kernel
theorem dX11_setSlices_19 : decode cX11_setSlices 19 = .ok (.athrow, 1) := by decide +kernel
theorem dX11_setSlices_20 : decode cX11_setSlices 20 = .ok (.aload_n 0, 1) := by decide +kernel
theorem dX11_setSlices_21 : decode cX11_setSlices 21 = .ok (.getfield 23, 3) := by decide +kernel
theorem dX11_setSlices_24 : decode cX11_setSlices 24 = .ok (.istore_n 2, 1) := by decide +kernel
theorem dX11_setSlices_25 : decode cX11_setSlices 25 = .ok (.aload_n 0, 1) := by decide +kernel
theorem dX11_setSlices_26 : decode cX11_setSlices 26 = .ok (.iload_n 1, 1) := by decide +kernel
theorem dX11_setSlices_27 : decode cX11_setSlices 27 = .ok (.putfield 23, 3) := by decide +kernel
theorem dX11_setSlices_30 : decode cX11_setSlices 30 = .ok (.iload_n 2, 1) := by decide +kernel
theorem dX11_setSlices_31 : decode cX11_setSlices 31 = .ok (.ireturn, 1) := by decide +kernel
theorem dX11_setBucket_0 : decode cX11_setBucket 0 = .ok (.iload_n 1, 1) := by decide +kernel
theorem dX11_setBucket_1 : decode cX11_setBucket 1 = .ok (.ifCond .lt 19, 3) := by decide +kernel
theorem dX11_setBucket_4 : decode cX11_setBucket 4 = .ok (.iload_n 1, 1) := by decide +kernel
theorem dX11_setBucket_5 : decode cX11_setBucket 5 = .ok (.ldc 140, 2) := by decide +kernel
theorem dX11_setBucket_7 : decode cX11_setBucket 7 = .ok (.if_icmp .gt 13, 3) := by decide +kernel
theorem dX11_setBucket_10 : decode cX11_setBucket 10 = .ok (.iload_n 2, 1) := by decide +kernel
theorem dX11_setBucket_11 : decode cX11_setBucket 11 = .ok (.ifCond .lt 9, 3) := by decide +kernel
theorem dX11_setBucket_14 : decode cX11_setBucket 14 = .ok (.iload_n 2, 1) := by decide +kernel
theorem dX11_setBucket_15 : decode cX11_setBucket 15 = .ok (.ldc 140, 2) := by decide +kernel
theorem dX11_setBucket_17 : decode cX11_setBucket 17 = .ok (.if_icmp .le 13, 3) := by decide +kernel
theorem dX11_setBucket_20 : decode cX11_setBucket 20 = .ok (.new 86, 3) := by decide +kernel
theorem dX11_setBucket_23 : decode cX11_setBucket 23 = .ok (.dup, 1) := by decide +kernel
theorem dX11_setBucket_24 : decode cX11_setBucket 24 = .ok (.ldc 124, 2) := by decide +kernel
theorem dX11_setBucket_26 : decode cX11_setBucket 26 = .ok (.invokespecial 90, 3) := by decide +kernel
theorem dX11_setBucket_29 : decode cX11_setBucket 29 = .ok (.athrow, 1) := by decide +kernel
theorem dX11_setBucket_30 : decode cX11_setBucket 30 = .ok (.aload_n 0, 1) := by decide +kernel
theorem dX11_setBucket_31 : decode cX11_setBucket 31 = .ok (.getfield 33, 3) := by decide +kernel
theorem dX11_setBucket_34 : decode cX11_setBucket 34 = .ok (.invokevirtual 141, 3) := by decide +kernel
theorem dX11_setBucket_37 : decode cX11_setBucket 37 = .ok (.ifCond .eq 13, 3) := by decide +kernel
theorem dX11_setBucket_40 : decode cX11_setBucket 40 = .ok (.aload_n 0, 1) := by decide +kernel
theorem dX11_setBucket_41 : decode cX11_setBucket 41 = .ok (.getfield 33, 3) := by decide +kernel
theorem dX11_setBucket_44 : decode cX11_setBucket 44 = .ok (.getfield 145, 3) := by decide +kernel
theorem dX11_setBucket_47 : decode cX11_setBucket 47 = .ok (.goto 4, 3) := by decide +kernel
theorem dX11_setBucket_50 : decode cX11_setBucket 50 = .ok (.iconst (-1), 1) := by decide +kernel
theorem dX11_setBucket_51 : decode cX11_setBucket 51 = .ok (.istore_n 3, 1) := by decide +kernel
theorem dX11_setBucket_52 : decode cX11_setBucket 52 = .ok (.aload_n 0, 1) := by decide +kernel
theorem dX11_setBucket_53 : decode cX11_setBucket 53 = .ok (.getfield 33, 3) := by decide +kernel
theorem dX11_setBucket_56 : decode cX11_setBucket 56 = .ok (.iload_n 1, 1) := by decide +kernel
theorem dX11_setBucket_57 : decode cX11_setBucket 57 = .ok (.iload_n 2, 1) := by decide +kernel
theorem dX11_setBucket_58 : decode cX11_setBucket 58 = .ok (.invokevirtual 148, 3) := by decide +kernel
theorem dX11_setBucket_61 : decode cX11_setBucket 61 = .ok (.iload_n 3, 1) := by decide +kernel
theorem dX11_setBucket_62 : decode cX11_setBucket 62 = .ok (.ireturn, 1) := by decide +kernel
theorem dX11_code_0 : decode cX11_code 0 = .ok (.iload_n 1, 1) := by decide +kernel
theorem dX11_code_1 : decode cX11_code 1 = .ok (.bipush 105, 2) := by decide +kernel
theorem dX11_code_3 : decode cX11_code 3 = .ok (.if_icmp .eq 25, 3) := by decide +kernel
theorem dX11_code_6 : decode cX11_code 6 = .ok (.iload_n 1, 1) := by decide +kernel
theorem dX11_code_7 : decode cX11_code 7 = .ok (.bipush 112, 2) := by decide +kernel
theorem dX11_code_9 : decode cX11_code 9 = .ok (.if_icmp .eq 19, 3) := by decide +kernel
theorem dX11_code_12 : decode cX11_code 12 = .ok (.iload_n 1, 1) := by decide +kernel
theorem dX11_code_13 : decode cX11_code 13 = .ok (.bipush 98, 2) := by decide +kernel
theorem dX11_code_15 : decode cX11_code 15 = .ok (.if_icmp .eq 13, 3) := by decide +kernel
theorem dX11_code_18 : decode cX11_code 18 = .ok (.new 86, 3) := by decide +kernel
theorem dX11_code_21 : decode cX11_code 21 = .ok (.dup, 1) := by decide +kernel
theorem dX11_code_22 : decode cX11_code 22 = .ok (.ldc 150, 2) := by decide +kernel
theorem dX11_code_24 : decode cX11_code 24 = .ok (.invokespecial 90, 3) := by decide +kernel
theorem dX11_code_27 : decode cX11_code 27 = .ok (.athrow, 1) := by decide +kernel
theorem dX11_code_28 : decode cX11_code 28 = .ok (.iload_n 1, 1) := by decide +kernel
theorem dX11_code_29 : decode cX11_code 29 = .ok (.bipush 105, 2) := by decide +kernel
theorem dX11_code_31 : decode cX11_code 31 = .ok (.if_icmp .eq 11, 3) := by decide +kernel
theorem dX11_code_34 : decode cX11_code 34 = .ok (.aload_n 0, 1) := by decide +kernel
theorem dX11_code_35 : decode cX11_code 35 = .ok (.iload_n 2, 1) := by decide +kernel
theorem dX11_code_36 : decode cX11_code 36 = .ok (.invokevirtual 152, 3) := by decide +kernel
theorem dX11_code_39 : decode cX11_code 39 = .ok (.ifCond .eq 17, 3) := by decide +kernel
theorem dX11_code_42 : decode cX11_code 42 = .ok (.iload_n 1, 1) := by decide +kernel
theorem dX11_code_43 : decode cX11_code 43 = .ok (.bipush 98, 2) := by decide +kernel
theorem dX11_code_45 : decode cX11_code 45 = .ok (.if_icmp .ne 21, 3) := by decide +kernel
theorem dX11_code_48 : decode cX11_code 48 = .ok (.aload_n 0, 1) := by decide +kernel
theorem dX11_code_49 : decode cX11_code 49 = .ok (.iload_n 3, 1) := by decide +kernel
theorem dX11_code_50 : decode cX11_code 50 = .ok (.invokevirtual 152, 3) := by decide +kernel
theorem dX11_code_53 : decode cX11_code 53 = .ok (.ifCond .ne 13, 3) := by decide +kernel
theorem dX11_code_56 : decode cX11_code 56 = .ok (.new 155, 3) := by decide +kernel
theorem dX11_code_59 : decode cX11_code 59 = .ok (.dup, 1) := by decide +kernel
theorem dX11_code_60 : decode cX11_code 60 = .ok (.ldc 157, 2) := by decide +kernel
theorem dX11_code_62 : decode cX11_code 62 = .ok (.invokespecial 159, 3) := by decide +kernel
theorem dX11_code_65 : decode cX11_code 65 = .ok (.athrow, 1) := by decide +kernel
theorem dX11_code_66 : decode cX11_code 66 = .ok (.aload_n 0, 1) := by decide +kernel
theorem dX11_code_67 : decode cX11_code 67 = .ok (.getfield 43, 3) := by decide +kernel
theorem dX11_code_70 : decode cX11_code 70 = .ok (.bipush 12, 2) := by decide +kernel
theorem dX11_code_72 : decode cX11_code 72 = .ok (.if_icmp .lt 13, 3) := by decide +kernel
theorem dX11_code_75 : decode cX11_code 75 = .ok (.new 160, 3) := by decide +kernel
theorem dX11_code_78 : decode cX11_code 78 = .ok (.dup, 1) := by decide +kernel
theorem dX11_code_79 : decode cX11_code 79 = .ok (.ldc 162, 2) := by decide +kernel
theorem dX11_code_81 : decode cX11_code 81 = .ok (.invokespecial 164, 3) := by decide +kernel
theorem dX11_code_84 : decode cX11_code 84 = .ok (.athrow, 1) := by decide +kernel
theorem dX11_code_85 : decode cX11_code 85 = .ok (.aload_n 0, 1) := by decide +kernel
theorem dX11_code_86 : decode cX11_code 86 = .ok (.getfield 47, 3) := by decide +kernel
theorem dX11_code_89 : decode cX11_code 89 = .ok (.iload_n 1, 1) := by decide +kernel
theorem dX11_code_90 : decode cX11_code 90 = .ok (.iload_n 2, 1) := by decide +kernel
theorem dX11_code_91 : decode cX11_code 91 = .ok (.iload_n 3, 1) := by decide +kernel
theorem dX11_code_92 : decode cX11_code 92 = .ok (.invokevirtual 165, 3) := by decide +kernel
theorem dX11_code_95 : decode cX11_code 95 = .ok (.aload_n 0, 1) := by decide +kernel
theorem dX11_code_96 : decode cX11_code 96 = .ok (.getfield 47, 3) := by decide +kernel
theorem dX11_code_99 : decode cX11_code 99 = .ok (.aload_n 0, 1) := by decide +kernel
theorem dX11_code_100 : decode cX11_code 100 = .ok (.getfield 16, 3) := by decide +kernel
theorem dX11_code_103 : decode cX11_code 103 = .ok (.aload_n 0, 1) := by decide +kernel
theorem dX11_code_104 : decode cX11_code 104 = .ok (.getfield 20, 3) := by decide +kernel
theorem dX11_code_107 : decode cX11_code 107 = .ok (.aload_n 0, 1) := by decide +kernel
theorem dX11_code_108 : decode cX11_code 108 = .ok (.getfield 23, 3) := by decide +kernel
theorem dX11_code_111 : decode cX11_code 111 = .ok (.aload_n 0, 1) := by decide +kernel
theorem dX11_code_112 : decode cX11_code 112 = .ok (.getfield 26, 3) := by decide +kernel
theorem dX11_code_115 : decode cX11_code 115 = .ok (.invokevirtual 169, 3) := by decide +kernel
theorem dX11_code_118 : decode cX11_code 118 = .ok (.aload_n 0, 1) := by decide +kernel
theorem dX11_code_119 : decode cX11_code 119 = .ok (.getfield 60, 3) := by decide +kernel
theorem dX11_code_122 : decode cX11_code 122 = .ok (.aload_n 0, 1) := by decide +kernel
theorem dX11_code_123 : decode cX11_code 123 = .ok (.getfield 47, 3) := by decide +kernel
theorem dX11_code_126 : decode cX11_code 126 = .ok (.aload_n 0, 1) := by decide +kernel
theorem dX11_code_127 : decode cX11_code 127 = .ok (.iload_n 2, 1) := by decide +kernel
theorem dX11_code_128 : decode cX11_code 128 = .ok (.invokevirtual 173, 3) := by decide +kernel
theorem dX11_code_131 : decode cX11_code 131 = .ok (.aload_n 0, 1) := by decide +kernel
theorem dX11_code_132 : decode cX11_code 132 = .ok (.iload_n 3, 1) := by decide +kernel
theorem dX11_code_133 : decode cX11_code 133 = .ok (.invokevirtual 173, 3) := by decide +kernel
theorem dX11_code_136 : decode cX11_code 136 = .ok (.invokevirtual 177, 3) := by decide +kernel
theorem dX11_code_139 : decode cX11_code 139 = .ok (.aload_n 0, 1) := by decide +kernel
theorem dX11_code_140 : decode cX11_code 140 = .ok (.getfield 60, 3) := by decide +kernel
theorem dX11_code_143 : decode cX11_code 143 = .ok (.aload_n 0, 1) := by decide +kernel
theorem dX11_code_144 : decode cX11_code 144 = .ok (.getfield 47, 3) := by decide +kernel
theorem dX11_code_147 : decode cX11_code 147 = .ok (.aload_n 0, 1) := by decide +kernel
theorem dX11_code_148 : decode cX11_code 148 = .ok (.getfield 9, 3) := by decide +kernel
theorem dX11_code_151 : decode cX11_code 151 = .ok (.invokevirtual 181, 3) := by decide +kernel
theorem dX11_code_154 : decode cX11_code 154 = .ok (.aload_n 0, 1) := by decide +kernel
theorem dX11_code_155 : decode cX11_code 155 = .ok (.getfield 67, 3) := by decide +kernel
theorem dX11_code_158 : decode cX11_code 158 = .ok (.aload_n 0, 1) := by decide +kernel
theorem dX11_code_159 : decode cX11_code 159 = .ok (.getfield 47, 3) := by decide +kernel
theorem dX11_code_162 : decode cX11_code 162 = .ok (.iconst 0, 1) := by decide +kernel
theorem dX11_code_163 : decode cX11_code 163 = .ok (.invokevirtual 185, 3) := by decide +kernel
theorem dX11_code_166 : decode cX11_code 166 = .ok (.aload_n 0, 1) := by decide +kernel
theorem dX11_code_167 : decode cX11_code 167 = .ok (.getfield 67, 3) := by decide +kernel
theorem dX11_code_170 : decode cX11_code 170 = .ok (.aload_n 0, 1) := by decide +kernel
theorem dX11_code_171 : decode cX11_code 171 = .ok (.getfield 47, 3) := by decide +kernel
theorem dX11_code_174 : decode cX11_code 174 = .ok (.iconst 1, 1) := by decide +kernel
theorem dX11_code_175 : decode cX11_code 175 = .ok (.invokevirtual 185, 3) := by decide +kernel
theorem dX11_code_178 : decode cX11_code 178 = .ok (.aload_n 0, 1) := by decide +kernel
theorem dX11_code_179 : decode cX11_code 179 = .ok (.getfield 67, 3) := by decide +kernel
theorem dX11_code_182 : decode cX11_code 182 = .ok (.invokevirtual 189, 3) := by decide +kernel
theorem dX11_code_185 : decode cX11_code 185 = .ok (.istore 4, 2) := by decide +kernel
theorem dX11_code_187 : decode cX11_code 187 = .ok (.aload_n 0, 1) := by decide +kernel
theorem dX11_code_188 : decode cX11_code 188 = .ok (.getfield 33, 3) := by decide +kernel
theorem dX11_code_191 : decode cX11_code 191 = .ok (.iload 4, 2) := by decide +kernel
theorem dX11_code_193 : decode cX11_code 193 = .ok (.invokevirtual 192, 3) := by decide +kernel
theorem dX11_code_196 : decode cX11_code 196 = .ok (.ifCond .ne 13, 3) := by decide +kernel
theorem dX11_code_199 : decode cX11_code 199 = .ok (.new 195, 3) := by decide +kernel
theorem dX11_code_202 : decode cX11_code 202 = .ok (.dup, 1) := by decide +kernel
theorem dX11_code_203 : decode cX11_code 203 = .ok (.ldc 197, 2) := by decide +kernel
theorem dX11_code_205 : decode cX11_code 205 = .ok (.invokespecial 199, 3) := by decide +kernel
theorem dX11_code_208 : decode cX11_code 208 = .ok (.athrow, 1) := by decide +kernel
theorem dX11_code_209 : decode cX11_code 209 = .ok (.aload_n 0, 1) := by decide +kernel
theorem dX11_code_210 : decode cX11_code 210 = .ok (.getfield 47, 3) := by decide +kernel
theorem dX11_code_213 : decode cX11_code 213 = .ok (.aload_n 0, 1) := by decide +kernel
theorem dX11_code_214 : decode cX11_code 214 = .ok (.getfield 67, 3) := by decide +kernel
theorem dX11_code_217 : decode cX11_code 217 = .ok (.iconst 0, 1) := by decide +kernel
theorem dX11_code_218 : decode cX11_code 218 = .ok (.invokevirtual 200, 3) := by decide +kernel
theorem dX11_code_221 : decode cX11_code 221 = .ok (.aload_n 0, 1) := by decide +kernel
theorem dX11_code_222 : decode cX11_code 222 = .ok (.getfield 67, 3) := by decide +kernel
theorem dX11_code_225 : decode cX11_code 225 = .ok (.iconst 1, 1) := by decide +kernel
theorem dX11_code_226 : decode cX11_code 226 = .ok (.invokevirtual 200, 3) := by decide +kernel
theorem dX11_code_229 : decode cX11_code 229 = .ok (.aload_n 0, 1) := by decide +kernel
theorem dX11_code_230 : decode cX11_code 230 = .ok (.getfield 9, 3) := by decide +kernel
theorem dX11_code_233 : decode cX11_code 233 = .ok (.invokevirtual 203, 3) := by decide +kernel
theorem dX11_code_236 : decode cX11_code 236 = .ok (.aload_n 0, 1) := by decide +kernel
theorem dX11_code_237 : decode cX11_code 237 = .ok (.getfield 33, 3) := by decide +kernel
theorem dX11_code_240 : decode cX11_code 240 = .ok (.iload 4, 2) := by decide +kernel
theorem dX11_code_242 : decode cX11_code 242 = .ok (.invokevirtual 207, 3) := by decide +kernel
theorem dX11_code_245 : decode cX11_code 245 = .ok (.aload_n 0, 1) := by decide +kernel
theorem dX11_code_246 : decode cX11_code 246 = .ok (.aload_n 0, 1) := by decide +kernel
theorem dX11_code_247 : decode cX11_code 247 = .ok (.getfield 33, 3) := by decide +kernel
theorem dX11_code_250 : decode cX11_code 250 = .ok (.aload_n 0, 1) := by decide +kernel
theorem dX11_code_251 : decode cX11_code 251 = .ok (.getfield 16, 3) := by decide +kernel
theorem dX11_code_254 : decode cX11_code 254 = .ok (.invokevirtual 210, 3) := by decide +kernel
theorem dX11_code_257 : decode cX11_code 257 = .ok (.putfield 16, 3) := by decide +kernel
theorem dX11_code_260 : decode cX11_code 260 = .ok (.aload_n 0, 1) := by decide +kernel
theorem dX11_code_261 : decode cX11_code 261 = .ok (.invokevirtual 213, 3) := by decide +kernel
theorem dX11_code_264 : decode cX11_code 264 = .ok (.iload 4, 2) := by decide +kernel
theorem dX11_code_266 : decode cX11_code 266 = .ok (.ireturn, 1) := by decide +kernel
theorem dX11_pictures_0 : decode cX11_pictures 0 = .ok (.aload_n 0, 1) := by decide +kernel
theorem dX11_pictures_1 : decode cX11_pictures 1 = .ok (.getfield 43, 3) := by decide +kernel
theorem dX11_pictures_4 : decode cX11_pictures 4 = .ok (.ireturn, 1) := by decide +kernel
theorem dX11_kept_0 : decode cX11_kept 0 = .ok (.aload_n 0, 1) := by decide +kernel
theorem dX11_kept_1 : decode cX11_kept 1 = .ok (.getfield 54, 3) := by decide +kernel
theorem dX11_kept_4 : decode cX11_kept 4 = .ok (.ireturn, 1) := by decide +kernel
theorem dX11_keptAt_0 : decode cX11_keptAt 0 = .ok (.aload_n 0, 1) := by decide +kernel
theorem dX11_keptAt_1 : decode cX11_keptAt 1 = .ok (.iload_n 1, 1) := by decide +kernel
theorem dX11_keptAt_2 : decode cX11_keptAt 2 = .ok (.invokevirtual 152, 3) := by decide +kernel
theorem dX11_keptAt_5 : decode cX11_keptAt 5 = .ok (.ifCond .ne 13, 3) := by decide +kernel
theorem dX11_keptAt_8 : decode cX11_keptAt 8 = .ok (.new 155, 3) := by decide +kernel
theorem dX11_keptAt_11 : decode cX11_keptAt 11 = .ok (.dup, 1) := by decide +kernel
theorem dX11_keptAt_12 : decode cX11_keptAt 12 = .ok (.ldc 216, 2) := by decide +kernel
theorem dX11_keptAt_14 : decode cX11_keptAt 14 = .ok (.invokespecial 159, 3) := by decide +kernel
theorem dX11_keptAt_17 : decode cX11_keptAt 17 = .ok (.athrow, 1) := by decide +kernel
theorem dX11_keptAt_18 : decode cX11_keptAt 18 = .ok (.aload_n 0, 1) := by decide +kernel
theorem dX11_keptAt_19 : decode cX11_keptAt 19 = .ok (.getfield 51, 3) := by decide +kernel
theorem dX11_keptAt_22 : decode cX11_keptAt 22 = .ok (.iload_n 1, 1) := by decide +kernel
theorem dX11_keptAt_23 : decode cX11_keptAt 23 = .ok (.invokestatic 103, 3) := by decide +kernel
theorem dX11_keptAt_26 : decode cX11_keptAt 26 = .ok (.ireturn, 1) := by decide +kernel
theorem dX11_bucket_0 : decode cX11_bucket 0 = .ok (.aload_n 0, 1) := by decide +kernel
theorem dX11_bucket_1 : decode cX11_bucket 1 = .ok (.getfield 33, 3) := by decide +kernel
theorem dX11_bucket_4 : decode cX11_bucket 4 = .ok (.invokevirtual 141, 3) := by decide +kernel
theorem dX11_bucket_7 : decode cX11_bucket 7 = .ok (.ifCond .ne 13, 3) := by decide +kernel
theorem dX11_bucket_10 : decode cX11_bucket 10 = .ok (.new 218, 3) := by decide +kernel
theorem dX11_bucket_13 : decode cX11_bucket 13 = .ok (.dup, 1) := by decide +kernel
theorem dX11_bucket_14 : decode cX11_bucket 14 = .ok (.ldc 220, 2) := by decide +kernel
theorem dX11_bucket_16 : decode cX11_bucket 16 = .ok (.invokespecial 222, 3) := by decide +kernel
theorem dX11_bucket_19 : decode cX11_bucket 19 = .ok (.athrow, 1) := by decide +kernel
theorem dX11_bucket_20 : decode cX11_bucket 20 = .ok (.aload_n 0, 1) := by decide +kernel
theorem dX11_bucket_21 : decode cX11_bucket 21 = .ok (.getfield 33, 3) := by decide +kernel
theorem dX11_bucket_24 : decode cX11_bucket 24 = .ok (.getfield 145, 3) := by decide +kernel
theorem dX11_bucket_27 : decode cX11_bucket 27 = .ok (.ireturn, 1) := by decide +kernel
theorem dX11_kindOf_0 : decode cX11_kindOf 0 = .ok (.aload_n 0, 1) := by decide +kernel
theorem dX11_kindOf_1 : decode cX11_kindOf 1 = .ok (.iload_n 1, 1) := by decide +kernel
theorem dX11_kindOf_2 : decode cX11_kindOf 2 = .ok (.invokevirtual 223, 3) := by decide +kernel
theorem dX11_kindOf_5 : decode cX11_kindOf 5 = .ok (.getfield 227, 3) := by decide +kernel
theorem dX11_kindOf_8 : decode cX11_kindOf 8 = .ok (.ireturn, 1) := by decide +kernel
theorem dX11_coarsenessOf_0 : decode cX11_coarsenessOf 0 = .ok (.aload_n 0, 1) := by decide +kernel
theorem dX11_coarsenessOf_1 : decode cX11_coarsenessOf 1 = .ok (.iload_n 1, 1) := by decide +kernel
theorem dX11_coarsenessOf_2 : decode cX11_coarsenessOf 2 = .ok (.invokevirtual 223, 3) := by decide +kernel
theorem dX11_coarsenessOf_5 : decode cX11_coarsenessOf 5 = .ok (.getfield 231, 3) := by decide +kernel
theorem dX11_coarsenessOf_8 : decode cX11_coarsenessOf 8 = .ok (.ireturn, 1) := by decide +kernel
theorem dX11_partAt_0 : decode cX11_partAt 0 = .ok (.aload_n 0, 1) := by decide +kernel
theorem dX11_partAt_1 : decode cX11_partAt 1 = .ok (.iload_n 1, 1) := by decide +kernel
theorem dX11_partAt_2 : decode cX11_partAt 2 = .ok (.invokevirtual 223, 3) := by decide +kernel
theorem dX11_partAt_5 : decode cX11_partAt 5 = .ok (.astore 4, 2) := by decide +kernel
theorem dX11_partAt_7 : decode cX11_partAt 7 = .ok (.iload_n 2, 1) := by decide +kernel
theorem dX11_partAt_8 : decode cX11_partAt 8 = .ok (.iload_n 3, 1) := by decide +kernel
theorem dX11_partAt_9 : decode cX11_partAt 9 = .ok (.invokestatic 130, 3) := by decide +kernel
theorem dX11_partAt_12 : decode cX11_partAt 12 = .ok (.aload 4, 2) := by decide +kernel
theorem dX11_partAt_14 : decode cX11_partAt 14 = .ok (.getfield 240, 3) := by decide +kernel
theorem dX11_partAt_17 : decode cX11_partAt 17 = .ok (.iload_n 2, 1) := by decide +kernel
theorem dX11_partAt_18 : decode cX11_partAt 18 = .ok (.iload_n 3, 1) := by decide +kernel
theorem dX11_partAt_19 : decode cX11_partAt 19 = .ok (.invokestatic 243, 3) := by decide +kernel
theorem dX11_partAt_22 : decode cX11_partAt 22 = .ok (.invokestatic 103, 3) := by decide +kernel
theorem dX11_partAt_25 : decode cX11_partAt 25 = .ok (.ireturn, 1) := by decide +kernel
theorem dX11_modeAt_0 : decode cX11_modeAt 0 = .ok (.aload_n 0, 1) := by decide +kernel
theorem dX11_modeAt_1 : decode cX11_modeAt 1 = .ok (.iload_n 1, 1) := by decide +kernel
theorem dX11_modeAt_2 : decode cX11_modeAt 2 = .ok (.invokevirtual 223, 3) := by decide +kernel
theorem dX11_modeAt_5 : decode cX11_modeAt 5 = .ok (.astore 4, 2) := by decide +kernel
theorem dX11_modeAt_7 : decode cX11_modeAt 7 = .ok (.iload_n 2, 1) := by decide +kernel
theorem dX11_modeAt_8 : decode cX11_modeAt 8 = .ok (.iload_n 3, 1) := by decide +kernel
theorem dX11_modeAt_9 : decode cX11_modeAt 9 = .ok (.invokestatic 130, 3) := by decide +kernel
theorem dX11_modeAt_12 : decode cX11_modeAt 12 = .ok (.aload 4, 2) := by decide +kernel
theorem dX11_modeAt_14 : decode cX11_modeAt 14 = .ok (.getfield 246, 3) := by decide +kernel
theorem dX11_modeAt_17 : decode cX11_modeAt 17 = .ok (.iload_n 2, 1) := by decide +kernel
theorem dX11_modeAt_18 : decode cX11_modeAt 18 = .ok (.iload_n 3, 1) := by decide +kernel
theorem dX11_modeAt_19 : decode cX11_modeAt 19 = .ok (.invokestatic 243, 3) := by decide +kernel
theorem dX11_modeAt_22 : decode cX11_modeAt 22 = .ok (.invokestatic 103, 3) := by decide +kernel
theorem dX11_modeAt_25 : decode cX11_modeAt 25 = .ok (.ireturn, 1) := by decide +kernel
theorem dX11_vectorAt_0 : decode cX11_vectorAt 0 = .ok (.aload_n 0, 1) := by decide +kernel
theorem dX11_vectorAt_1 : decode cX11_vectorAt 1 = .ok (.iload_n 1, 1) := by decide +kernel
theorem dX11_vectorAt_2 : decode cX11_vectorAt 2 = .ok (.invokevirtual 223, 3) := by decide +kernel
theorem dX11_vectorAt_5 : decode cX11_vectorAt 5 = .ok (.astore 5, 2) := by decide +kernel
theorem dX11_vectorAt_7 : decode cX11_vectorAt 7 = .ok (.iload_n 2, 1) := by decide +kernel
theorem dX11_vectorAt_8 : decode cX11_vectorAt 8 = .ok (.iload_n 3, 1) := by decide +kernel
theorem dX11_vectorAt_9 : decode cX11_vectorAt 9 = .ok (.invokestatic 130, 3) := by decide +kernel
theorem dX11_vectorAt_12 : decode cX11_vectorAt 12 = .ok (.iload 4, 2) := by decide +kernel
theorem dX11_vectorAt_14 : decode cX11_vectorAt 14 = .ok (.ifCond .eq 11, 3) := by decide +kernel
theorem dX11_vectorAt_17 : decode cX11_vectorAt 17 = .ok (.aload 5, 2) := by decide +kernel
theorem dX11_vectorAt_19 : decode cX11_vectorAt 19 = .ok (.getfield 249, 3) := by decide +kernel
theorem dX11_vectorAt_22 : decode cX11_vectorAt 22 = .ok (.goto 8, 3) := by decide +kernel
theorem dX11_vectorAt_25 : decode cX11_vectorAt 25 = .ok (.aload 5, 2) := by decide +kernel
theorem dX11_vectorAt_27 : decode cX11_vectorAt 27 = .ok (.getfield 252, 3) := by decide +kernel
theorem dX11_vectorAt_30 : decode cX11_vectorAt 30 = .ok (.iload_n 2, 1) := by decide +kernel
theorem dX11_vectorAt_31 : decode cX11_vectorAt 31 = .ok (.iload_n 3, 1) := by decide +kernel
theorem dX11_vectorAt_32 : decode cX11_vectorAt 32 = .ok (.invokestatic 243, 3) := by decide +kernel
theorem dX11_vectorAt_35 : decode cX11_vectorAt 35 = .ok (.invokestatic 103, 3) := by decide +kernel
theorem dX11_vectorAt_38 : decode cX11_vectorAt 38 = .ok (.istore 6, 2) := by decide +kernel
theorem dX11_vectorAt_40 : decode cX11_vectorAt 40 = .ok (.iload 6, 2) := by decide +kernel
theorem dX11_vectorAt_42 : decode cX11_vectorAt 42 = .ok (.iconst (-1), 1) := by decide +kernel
theorem dX11_vectorAt_43 : decode cX11_vectorAt 43 = .ok (.if_icmp .ne 13, 3) := by decide +kernel
theorem dX11_vectorAt_46 : decode cX11_vectorAt 46 = .ok (.new 218, 3) := by decide +kernel
theorem dX11_vectorAt_49 : decode cX11_vectorAt 49 = .ok (.dup, 1) := by decide +kernel
theorem dX11_vectorAt_50 : decode cX11_vectorAt 50 = .ok (.ldc 255, 2) := by decide +kernel
theorem dX11_vectorAt_52 : decode cX11_vectorAt 52 = .ok (.invokespecial 222, 3) := by decide +kernel
theorem dX11_vectorAt_55 : decode cX11_vectorAt 55 = .ok (.athrow, 1) := by decide +kernel
theorem dX11_vectorAt_56 : decode cX11_vectorAt 56 = .ok (.iload 6, 2) := by decide +kernel
theorem dX11_vectorAt_58 : decode cX11_vectorAt 58 = .ok (.ireturn, 1) := by decide +kernel
theorem dX11_levelAt_0 : decode cX11_levelAt 0 = .ok (.aload_n 0, 1) := by decide +kernel
theorem dX11_levelAt_1 : decode cX11_levelAt 1 = .ok (.iload_n 1, 1) := by decide +kernel
theorem dX11_levelAt_2 : decode cX11_levelAt 2 = .ok (.invokevirtual 223, 3) := by decide +kernel
theorem dX11_levelAt_5 : decode cX11_levelAt 5 = .ok (.astore 4, 2) := by decide +kernel
theorem dX11_levelAt_7 : decode cX11_levelAt 7 = .ok (.iload_n 2, 1) := by decide +kernel
theorem dX11_levelAt_8 : decode cX11_levelAt 8 = .ok (.iload_n 3, 1) := by decide +kernel
theorem dX11_levelAt_9 : decode cX11_levelAt 9 = .ok (.invokestatic 130, 3) := by decide +kernel
theorem dX11_levelAt_12 : decode cX11_levelAt 12 = .ok (.aload 4, 2) := by decide +kernel
theorem dX11_levelAt_14 : decode cX11_levelAt 14 = .ok (.getfield 257, 3) := by decide +kernel
theorem dX11_levelAt_17 : decode cX11_levelAt 17 = .ok (.iload_n 2, 1) := by decide +kernel
theorem dX11_levelAt_18 : decode cX11_levelAt 18 = .ok (.iload_n 3, 1) := by decide +kernel
theorem dX11_levelAt_19 : decode cX11_levelAt 19 = .ok (.invokestatic 99, 3) := by decide +kernel
theorem dX11_levelAt_22 : decode cX11_levelAt 22 = .ok (.invokestatic 103, 3) := by decide +kernel
theorem dX11_levelAt_25 : decode cX11_levelAt 25 = .ok (.ireturn, 1) := by decide +kernel
theorem dX11_built_0 : decode cX11_built 0 = .ok (.aload_n 0, 1) := by decide +kernel
theorem dX11_built_1 : decode cX11_built 1 = .ok (.iload_n 1, 1) := by decide +kernel
theorem dX11_built_2 : decode cX11_built 2 = .ok (.invokevirtual 223, 3) := by decide +kernel
theorem dX11_built_5 : decode cX11_built 5 = .ok (.astore 4, 2) := by decide +kernel
theorem dX11_built_7 : decode cX11_built 7 = .ok (.iload_n 2, 1) := by decide +kernel
theorem dX11_built_8 : decode cX11_built 8 = .ok (.iload_n 3, 1) := by decide +kernel
theorem dX11_built_9 : decode cX11_built 9 = .ok (.invokestatic 130, 3) := by decide +kernel
theorem dX11_built_12 : decode cX11_built 12 = .ok (.aload 4, 2) := by decide +kernel
theorem dX11_built_14 : decode cX11_built 14 = .ok (.getfield 260, 3) := by decide +kernel
theorem dX11_built_17 : decode cX11_built 17 = .ok (.iload_n 2, 1) := by decide +kernel
theorem dX11_built_18 : decode cX11_built 18 = .ok (.iload_n 3, 1) := by decide +kernel
theorem dX11_built_19 : decode cX11_built 19 = .ok (.invokestatic 99, 3) := by decide +kernel
theorem dX11_built_22 : decode cX11_built 22 = .ok (.invokestatic 103, 3) := by decide +kernel
theorem dX11_built_25 : decode cX11_built 25 = .ok (.ireturn, 1) := by decide +kernel
theorem dX11_heaviest_0 : decode cX11_heaviest 0 = .ok (.iload_n 1, 1) := by decide +kernel
theorem dX11_heaviest_1 : decode cX11_heaviest 1 = .ok (.ifCond .lt 11, 3) := by decide +kernel
theorem dX11_heaviest_4 : decode cX11_heaviest 4 = .ok (.iload_n 1, 1) := by decide +kernel
theorem dX11_heaviest_5 : decode cX11_heaviest 5 = .ok (.aload_n 0, 1) := by decide +kernel
theorem dX11_heaviest_6 : decode cX11_heaviest 6 = .ok (.getfield 43, 3) := by decide +kernel
theorem dX11_heaviest_9 : decode cX11_heaviest 9 = .ok (.if_icmp .lt 14, 3) := by decide +kernel
theorem dX11_heaviest_12 : decode cX11_heaviest 12 = .ok (.new 155, 3) := by decide +kernel
theorem dX11_heaviest_15 : decode cX11_heaviest 15 = .ok (.dup, 1) := by decide +kernel
theorem dX11_heaviest_16 : decode cX11_heaviest 16 = .ok (.ldc_w 267, 3) := by decide +kernel
theorem dX11_heaviest_19 : decode cX11_heaviest 19 = .ok (.invokespecial 159, 3) := by decide +kernel
theorem dX11_heaviest_22 : decode cX11_heaviest 22 = .ok (.athrow, 1) := by decide +kernel
theorem dX11_heaviest_23 : decode cX11_heaviest 23 = .ok (.iconst 0, 1) := by decide +kernel
theorem dX11_heaviest_24 : decode cX11_heaviest 24 = .ok (.istore_n 2, 1) := by decide +kernel
theorem dX11_heaviest_25 : decode cX11_heaviest 25 = .ok (.iconst 0, 1) := by decide +kernel
theorem dX11_heaviest_26 : decode cX11_heaviest 26 = .ok (.istore_n 3, 1) := by decide +kernel
theorem dX11_heaviest_27 : decode cX11_heaviest 27 = .ok (.iload_n 3, 1) := by decide +kernel
theorem dX11_heaviest_28 : decode cX11_heaviest 28 = .ok (.aload_n 0, 1) := by decide +kernel
theorem dX11_heaviest_29 : decode cX11_heaviest 29 = .ok (.getfield 43, 3) := by decide +kernel
theorem dX11_heaviest_32 : decode cX11_heaviest 32 = .ok (.if_icmp .ge 20, 3) := by decide +kernel
theorem dX11_heaviest_35 : decode cX11_heaviest 35 = .ok (.aload_n 0, 1) := by decide +kernel
theorem dX11_heaviest_36 : decode cX11_heaviest 36 = .ok (.iload_n 3, 1) := by decide +kernel
theorem dX11_heaviest_37 : decode cX11_heaviest 37 = .ok (.invokevirtual 269, 3) := by decide +kernel
theorem dX11_heaviest_40 : decode cX11_heaviest 40 = .ok (.iload_n 1, 1) := by decide +kernel
theorem dX11_heaviest_41 : decode cX11_heaviest 41 = .ok (.if_icmp .ne 5, 3) := by decide +kernel
theorem dX11_heaviest_44 : decode cX11_heaviest 44 = .ok (.iload_n 3, 1) := by decide +kernel
theorem dX11_heaviest_45 : decode cX11_heaviest 45 = .ok (.istore_n 2, 1) := by decide +kernel
theorem dX11_heaviest_46 : decode cX11_heaviest 46 = .ok (.iinc 3 1, 3) := by decide +kernel
theorem dX11_heaviest_49 : decode cX11_heaviest 49 = .ok (.goto (-22), 3) := by decide +kernel
theorem dX11_heaviest_52 : decode cX11_heaviest 52 = .ok (.iload_n 2, 1) := by decide +kernel
theorem dX11_heaviest_53 : decode cX11_heaviest 53 = .ok (.ireturn, 1) := by decide +kernel
theorem dX11_commonest_0 : decode cX11_commonest 0 = .ok (.aload_n 0, 1) := by decide +kernel
theorem dX11_commonest_1 : decode cX11_commonest 1 = .ok (.getfield 43, 3) := by decide +kernel
theorem dX11_commonest_4 : decode cX11_commonest 4 = .ok (.ifCond .ne 14, 3) := by decide +kernel
theorem dX11_commonest_7 : decode cX11_commonest 7 = .ok (.new 218, 3) := by decide +kernel
theorem dX11_commonest_10 : decode cX11_commonest 10 = .ok (.dup, 1) := by decide +kernel
theorem dX11_commonest_11 : decode cX11_commonest 11 = .ok (.ldc_w 272, 3) := by decide +kernel
theorem dX11_commonest_14 : decode cX11_commonest 14 = .ok (.invokespecial 222, 3) := by decide +kernel
theorem dX11_commonest_17 : decode cX11_commonest 17 = .ok (.athrow, 1) := by decide +kernel
theorem dX11_commonest_18 : decode cX11_commonest 18 = .ok (.iconst 0, 1) := by decide +kernel
theorem dX11_commonest_19 : decode cX11_commonest 19 = .ok (.istore_n 1, 1) := by decide +kernel
theorem dX11_commonest_20 : decode cX11_commonest 20 = .ok (.iconst 0, 1) := by decide +kernel
theorem dX11_commonest_21 : decode cX11_commonest 21 = .ok (.istore_n 2, 1) := by decide +kernel
theorem dX11_commonest_22 : decode cX11_commonest 22 = .ok (.iconst 0, 1) := by decide +kernel
theorem dX11_commonest_23 : decode cX11_commonest 23 = .ok (.istore_n 3, 1) := by decide +kernel
theorem dX11_commonest_24 : decode cX11_commonest 24 = .ok (.iload_n 3, 1) := by decide +kernel
theorem dX11_commonest_25 : decode cX11_commonest 25 = .ok (.bipush 7, 2) := by decide +kernel
theorem dX11_commonest_27 : decode cX11_commonest 27 = .ok (.if_icmp .ge 56, 3) := by decide +kernel
theorem dX11_commonest_30 : decode cX11_commonest 30 = .ok (.iconst 0, 1) := by decide +kernel
theorem dX11_commonest_31 : decode cX11_commonest 31 = .ok (.istore 4, 2) := by decide +kernel
theorem dX11_commonest_33 : decode cX11_commonest 33 = .ok (.iconst 0, 1) := by decide +kernel
theorem dX11_commonest_34 : decode cX11_commonest 34 = .ok (.istore 5, 2) := by decide +kernel
theorem dX11_commonest_36 : decode cX11_commonest 36 = .ok (.iload 5, 2) := by decide +kernel
theorem dX11_commonest_38 : decode cX11_commonest 38 = .ok (.aload_n 0, 1) := by decide +kernel
theorem dX11_commonest_39 : decode cX11_commonest 39 = .ok (.getfield 43, 3) := by decide +kernel
theorem dX11_commonest_42 : decode cX11_commonest 42 = .ok (.if_icmp .ge 24, 3) := by decide +kernel
theorem dX11_commonest_45 : decode cX11_commonest 45 = .ok (.iload 4, 2) := by decide +kernel
theorem dX11_commonest_47 : decode cX11_commonest 47 = .ok (.aload_n 0, 1) := by decide +kernel
theorem dX11_commonest_48 : decode cX11_commonest 48 = .ok (.iload 5, 2) := by decide +kernel
theorem dX11_commonest_50 : decode cX11_commonest 50 = .ok (.invokevirtual 223, 3) := by decide +kernel
theorem dX11_commonest_53 : decode cX11_commonest 53 = .ok (.iload_n 3, 1) := by decide +kernel
theorem dX11_commonest_54 : decode cX11_commonest 54 = .ok (.invokevirtual 274, 3) := by decide +kernel
theorem dX11_commonest_57 : decode cX11_commonest 57 = .ok (.iadd, 1) := by decide +kernel
theorem dX11_commonest_58 : decode cX11_commonest 58 = .ok (.istore 4, 2) := by decide +kernel
theorem dX11_commonest_60 : decode cX11_commonest 60 = .ok (.iinc 5 1, 3) := by decide +kernel
theorem dX11_commonest_63 : decode cX11_commonest 63 = .ok (.goto (-27), 3) := by decide +kernel
theorem dX11_commonest_66 : decode cX11_commonest 66 = .ok (.iload 4, 2) := by decide +kernel
theorem dX11_commonest_68 : decode cX11_commonest 68 = .ok (.iload_n 2, 1) := by decide +kernel
theorem dX11_commonest_69 : decode cX11_commonest 69 = .ok (.if_icmp .le 8, 3) := by decide +kernel
theorem dX11_commonest_72 : decode cX11_commonest 72 = .ok (.iload 4, 2) := by decide +kernel
theorem dX11_commonest_74 : decode cX11_commonest 74 = .ok (.istore_n 2, 1) := by decide +kernel
theorem dX11_commonest_75 : decode cX11_commonest 75 = .ok (.iload_n 3, 1) := by decide +kernel
theorem dX11_commonest_76 : decode cX11_commonest 76 = .ok (.istore_n 1, 1) := by decide +kernel
theorem dX11_commonest_77 : decode cX11_commonest 77 = .ok (.iinc 3 1, 3) := by decide +kernel
theorem dX11_commonest_80 : decode cX11_commonest 80 = .ok (.goto (-56), 3) := by decide +kernel
theorem dX11_commonest_83 : decode cX11_commonest 83 = .ok (.iload_n 1, 1) := by decide +kernel
theorem dX11_commonest_84 : decode cX11_commonest 84 = .ok (.ireturn, 1) := by decide +kernel
theorem dX11_send_0 : decode cX11_send 0 = .ok (.aload_n 0, 1) := by decide +kernel
theorem dX11_send_1 : decode cX11_send 1 = .ok (.getfield 74, 3) := by decide +kernel
theorem dX11_send_4 : decode cX11_send 4 = .ok (.getfield 277, 3) := by decide +kernel
theorem dX11_send_7 : decode cX11_send 7 = .ok (.aload_n 0, 1) := by decide +kernel
theorem dX11_send_8 : decode cX11_send 8 = .ok (.getfield 43, 3) := by decide +kernel
theorem dX11_send_11 : decode cX11_send 11 = .ok (.if_icmp .lt 14, 3) := by decide +kernel
theorem dX11_send_14 : decode cX11_send 14 = .ok (.new 218, 3) := by decide +kernel
theorem dX11_send_17 : decode cX11_send 17 = .ok (.dup, 1) := by decide +kernel
theorem dX11_send_18 : decode cX11_send 18 = .ok (.ldc_w 280, 3) := by decide +kernel
theorem dX11_send_21 : decode cX11_send 21 = .ok (.invokespecial 222, 3) := by decide +kernel
theorem dX11_send_24 : decode cX11_send 24 = .ok (.athrow, 1) := by decide +kernel
theorem dX11_send_25 : decode cX11_send 25 = .ok (.aload_n 0, 1) := by decide +kernel
theorem dX11_send_26 : decode cX11_send 26 = .ok (.aload_n 0, 1) := by decide +kernel
theorem dX11_send_27 : decode cX11_send 27 = .ok (.getfield 74, 3) := by decide +kernel
theorem dX11_send_30 : decode cX11_send 30 = .ok (.getfield 277, 3) := by decide +kernel
theorem dX11_send_33 : decode cX11_send 33 = .ok (.invokevirtual 223, 3) := by decide +kernel
theorem dX11_send_36 : decode cX11_send 36 = .ok (.astore_n 2, 1) := by decide +kernel
theorem dX11_send_37 : decode cX11_send 37 = .ok (.iload_n 1, 1) := by decide +kernel
theorem dX11_send_38 : decode cX11_send 38 = .ok (.ifCond .lt 13, 3) := by decide +kernel
theorem dX11_send_41 : decode cX11_send 41 = .ok (.iload_n 1, 1) := by decide +kernel
theorem dX11_send_42 : decode cX11_send 42 = .ok (.iconst 1, 1) := by decide +kernel
theorem dX11_send_43 : decode cX11_send 43 = .ok (.aload_n 2, 1) := by decide +kernel
theorem dX11_send_44 : decode cX11_send 44 = .ok (.getfield 282, 3) := by decide +kernel
theorem dX11_send_47 : decode cX11_send 47 = .ok (.ishl, 1) := by decide +kernel
theorem dX11_send_48 : decode cX11_send 48 = .ok (.if_icmp .lt 14, 3) := by decide +kernel
theorem dX11_send_51 : decode cX11_send 51 = .ok (.new 86, 3) := by decide +kernel
theorem dX11_send_54 : decode cX11_send 54 = .ok (.dup, 1) := by decide +kernel
theorem dX11_send_55 : decode cX11_send 55 = .ok (.ldc_w 285, 3) := by decide +kernel
theorem dX11_send_58 : decode cX11_send 58 = .ok (.invokespecial 90, 3) := by decide +kernel
theorem dX11_send_61 : decode cX11_send 61 = .ok (.athrow, 1) := by decide +kernel
theorem dX11_send_62 : decode cX11_send 62 = .ok (.aload_n 0, 1) := by decide +kernel
theorem dX11_send_63 : decode cX11_send 63 = .ok (.getfield 74, 3) := by decide +kernel
theorem dX11_send_66 : decode cX11_send 66 = .ok (.aload_n 2, 1) := by decide +kernel
theorem dX11_send_67 : decode cX11_send 67 = .ok (.iload_n 1, 1) := by decide +kernel
theorem dX11_send_68 : decode cX11_send 68 = .ok (.invokevirtual 287, 3) := by decide +kernel
theorem dX11_send_71 : decode cX11_send 71 = .ok (.aload_n 0, 1) := by decide +kernel
theorem dX11_send_72 : decode cX11_send 72 = .ok (.getfield 74, 3) := by decide +kernel
theorem dX11_send_75 : decode cX11_send 75 = .ok (.getfield 290, 3) := by decide +kernel
theorem dX11_send_78 : decode cX11_send 78 = .ok (.ifCond .eq 8, 3) := by decide +kernel
theorem dX11_send_81 : decode cX11_send 81 = .ok (.bipush 99, 2) := by decide +kernel
theorem dX11_send_83 : decode cX11_send 83 = .ok (.goto 5, 3) := by decide +kernel
theorem dX11_send_86 : decode cX11_send 86 = .ok (.bipush 98, 2) := by decide +kernel
theorem dX11_send_88 : decode cX11_send 88 = .ok (.ireturn, 1) := by decide +kernel
theorem dX11_join_0 : decode cX11_join 0 = .ok (.iload_n 1, 1) := by decide +kernel
theorem dX11_join_1 : decode cX11_join 1 = .ok (.ifCond .lt 11, 3) := by decide +kernel
theorem dX11_join_4 : decode cX11_join 4 = .ok (.iload_n 1, 1) := by decide +kernel
theorem dX11_join_5 : decode cX11_join 5 = .ok (.aload_n 0, 1) := by decide +kernel
theorem dX11_join_6 : decode cX11_join 6 = .ok (.getfield 43, 3) := by decide +kernel
theorem dX11_join_9 : decode cX11_join 9 = .ok (.if_icmp .le 14, 3) := by decide +kernel
theorem dX11_join_12 : decode cX11_join 12 = .ok (.new 155, 3) := by decide +kernel
theorem dX11_join_15 : decode cX11_join 15 = .ok (.dup, 1) := by decide +kernel
theorem dX11_join_16 : decode cX11_join 16 = .ok (.ldc_w 293, 3) := by decide +kernel
theorem dX11_join_19 : decode cX11_join 19 = .ok (.invokespecial 159, 3) := by decide +kernel
theorem dX11_join_22 : decode cX11_join 22 = .ok (.athrow, 1) := by decide +kernel
theorem dX11_join_23 : decode cX11_join 23 = .ok (.aload_n 0, 1) := by decide +kernel
theorem dX11_join_24 : decode cX11_join 24 = .ok (.getfield 74, 3) := by decide +kernel
theorem dX11_join_27 : decode cX11_join 27 = .ok (.getfield 295, 3) := by decide +kernel
theorem dX11_join_30 : decode cX11_join 30 = .ok (.istore_n 2, 1) := by decide +kernel
theorem dX11_join_31 : decode cX11_join 31 = .ok (.aload_n 0, 1) := by decide +kernel
theorem dX11_join_32 : decode cX11_join 32 = .ok (.getfield 74, 3) := by decide +kernel
theorem dX11_join_35 : decode cX11_join 35 = .ok (.iload_n 1, 1) := by decide +kernel
theorem dX11_join_36 : decode cX11_join 36 = .ok (.invokevirtual 78, 3) := by decide +kernel
theorem dX11_join_39 : decode cX11_join 39 = .ok (.iload_n 2, 1) := by decide +kernel
theorem dX11_join_40 : decode cX11_join 40 = .ok (.ireturn, 1) := by decide +kernel
theorem dX11_shown_0 : decode cX11_shown 0 = .ok (.aload_n 0, 1) := by decide +kernel
theorem dX11_shown_1 : decode cX11_shown 1 = .ok (.invokevirtual 296, 3) := by decide +kernel
theorem dX11_shown_4 : decode cX11_shown 4 = .ok (.aload_n 0, 1) := by decide +kernel
theorem dX11_shown_5 : decode cX11_shown 5 = .ok (.getfield 74, 3) := by decide +kernel
theorem dX11_shown_8 : decode cX11_shown 8 = .ok (.getfield 299, 3) := by decide +kernel
theorem dX11_shown_11 : decode cX11_shown 11 = .ok (.ireturn, 1) := by decide +kernel
theorem dX11_shownAt_0 : decode cX11_shownAt 0 = .ok (.iload_n 1, 1) := by decide +kernel
theorem dX11_shownAt_1 : decode cX11_shownAt 1 = .ok (.iload_n 2, 1) := by decide +kernel
theorem dX11_shownAt_2 : decode cX11_shownAt 2 = .ok (.invokestatic 130, 3) := by decide +kernel
theorem dX11_shownAt_5 : decode cX11_shownAt 5 = .ok (.aload_n 0, 1) := by decide +kernel
theorem dX11_shownAt_6 : decode cX11_shownAt 6 = .ok (.invokevirtual 296, 3) := by decide +kernel
theorem dX11_shownAt_9 : decode cX11_shownAt 9 = .ok (.aload_n 0, 1) := by decide +kernel
theorem dX11_shownAt_10 : decode cX11_shownAt 10 = .ok (.getfield 74, 3) := by decide +kernel
theorem dX11_shownAt_13 : decode cX11_shownAt 13 = .ok (.getfield 302, 3) := by decide +kernel
theorem dX11_shownAt_16 : decode cX11_shownAt 16 = .ok (.iload_n 1, 1) := by decide +kernel
theorem dX11_shownAt_17 : decode cX11_shownAt 17 = .ok (.iload_n 2, 1) := by decide +kernel
theorem dX11_shownAt_18 : decode cX11_shownAt 18 = .ok (.invokestatic 99, 3) := by decide +kernel
theorem dX11_shownAt_21 : decode cX11_shownAt 21 = .ok (.invokestatic 103, 3) := by decide +kernel
theorem dX11_shownAt_24 : decode cX11_shownAt 24 = .ok (.ireturn, 1) := by decide +kernel
theorem dX11_isClean_0 : decode cX11_isClean 0 = .ok (.aload_n 0, 1) := by decide +kernel
theorem dX11_isClean_1 : decode cX11_isClean 1 = .ok (.invokevirtual 296, 3) := by decide +kernel
theorem dX11_isClean_4 : decode cX11_isClean 4 = .ok (.aload_n 0, 1) := by decide +kernel
theorem dX11_isClean_5 : decode cX11_isClean 5 = .ok (.getfield 74, 3) := by decide +kernel
theorem dX11_isClean_8 : decode cX11_isClean 8 = .ok (.getfield 290, 3) := by decide +kernel
theorem dX11_isClean_11 : decode cX11_isClean 11 = .ok (.ireturn, 1) := by decide +kernel
theorem dX11_drift_0 : decode cX11_drift 0 = .ok (.aload_n 0, 1) := by decide +kernel
theorem dX11_drift_1 : decode cX11_drift 1 = .ok (.invokevirtual 296, 3) := by decide +kernel
theorem dX11_drift_4 : decode cX11_drift 4 = .ok (.aload_n 0, 1) := by decide +kernel
theorem dX11_drift_5 : decode cX11_drift 5 = .ok (.aload_n 0, 1) := by decide +kernel
theorem dX11_drift_6 : decode cX11_drift 6 = .ok (.getfield 74, 3) := by decide +kernel
theorem dX11_drift_9 : decode cX11_drift 9 = .ok (.getfield 299, 3) := by decide +kernel
theorem dX11_drift_12 : decode cX11_drift 12 = .ok (.invokevirtual 223, 3) := by decide +kernel
theorem dX11_drift_15 : decode cX11_drift 15 = .ok (.astore_n 1, 1) := by decide +kernel
theorem dX11_drift_16 : decode cX11_drift 16 = .ok (.iconst 0, 1) := by decide +kernel
theorem dX11_drift_17 : decode cX11_drift 17 = .ok (.istore_n 2, 1) := by decide +kernel
theorem dX11_drift_18 : decode cX11_drift 18 = .ok (.iconst 0, 1) := by decide +kernel
theorem dX11_drift_19 : decode cX11_drift 19 = .ok (.istore_n 3, 1) := by decide +kernel
theorem dX11_drift_20 : decode cX11_drift 20 = .ok (.iload_n 3, 1) := by decide +kernel
theorem dX11_drift_21 : decode cX11_drift 21 = .ok (.sipush 256, 3) := by decide +kernel
theorem dX11_drift_24 : decode cX11_drift 24 = .ok (.if_icmp .ge 34, 3) := by decide +kernel
theorem dX11_drift_27 : decode cX11_drift 27 = .ok (.aload_n 0, 1) := by decide +kernel
theorem dX11_drift_28 : decode cX11_drift 28 = .ok (.getfield 74, 3) := by decide +kernel
theorem dX11_drift_31 : decode cX11_drift 31 = .ok (.getfield 302, 3) := by decide +kernel
theorem dX11_drift_34 : decode cX11_drift 34 = .ok (.iload_n 3, 1) := by decide +kernel
theorem dX11_drift_35 : decode cX11_drift 35 = .ok (.invokestatic 103, 3) := by decide +kernel
theorem dX11_drift_38 : decode cX11_drift 38 = .ok (.aload_n 1, 1) := by decide +kernel
theorem dX11_drift_39 : decode cX11_drift 39 = .ok (.getfield 260, 3) := by decide +kernel
theorem dX11_drift_42 : decode cX11_drift 42 = .ok (.iload_n 3, 1) := by decide +kernel
theorem dX11_drift_43 : decode cX11_drift 43 = .ok (.invokestatic 103, 3) := by decide +kernel
theorem dX11_drift_46 : decode cX11_drift 46 = .ok (.if_icmp .eq 6, 3) := by decide +kernel
theorem dX11_drift_49 : decode cX11_drift 49 = .ok (.iinc 2 1, 3) := by decide +kernel
theorem dX11_drift_52 : decode cX11_drift 52 = .ok (.iinc 3 1, 3) := by decide +kernel
theorem dX11_drift_55 : decode cX11_drift 55 = .ok (.goto (-35), 3) := by decide +kernel
theorem dX11_drift_58 : decode cX11_drift 58 = .ok (.iload_n 2, 1) := by decide +kernel
theorem dX11_drift_59 : decode cX11_drift 59 = .ok (.ireturn, 1) := by decide +kernel
theorem dX11_meanBits_0 : decode cX11_meanBits 0 = .ok (.aload_n 0, 1) := by decide +kernel
theorem dX11_meanBits_1 : decode cX11_meanBits 1 = .ok (.getfield 43, 3) := by decide +kernel
theorem dX11_meanBits_4 : decode cX11_meanBits 4 = .ok (.ifCond .ne 14, 3) := by decide +kernel
theorem dX11_meanBits_7 : decode cX11_meanBits 7 = .ok (.new 305, 3) := by decide +kernel
theorem dX11_meanBits_10 : decode cX11_meanBits 10 = .ok (.dup, 1) := by decide +kernel
theorem dX11_meanBits_11 : decode cX11_meanBits 11 = .ok (.ldc_w 272, 3) := by decide +kernel
theorem dX11_meanBits_14 : decode cX11_meanBits 14 = .ok (.invokespecial 307, 3) := by decide +kernel
theorem dX11_meanBits_17 : decode cX11_meanBits 17 = .ok (.athrow, 1) := by decide +kernel
theorem dX11_meanBits_18 : decode cX11_meanBits 18 = .ok (.iconst 0, 1) := by decide +kernel
theorem dX11_meanBits_19 : decode cX11_meanBits 19 = .ok (.istore_n 1, 1) := by decide +kernel
theorem dX11_meanBits_20 : decode cX11_meanBits 20 = .ok (.iconst 0, 1) := by decide +kernel
theorem dX11_meanBits_21 : decode cX11_meanBits 21 = .ok (.istore_n 2, 1) := by decide +kernel
theorem dX11_meanBits_22 : decode cX11_meanBits 22 = .ok (.iload_n 2, 1) := by decide +kernel
theorem dX11_meanBits_23 : decode cX11_meanBits 23 = .ok (.aload_n 0, 1) := by decide +kernel
theorem dX11_meanBits_24 : decode cX11_meanBits 24 = .ok (.getfield 43, 3) := by decide +kernel
theorem dX11_meanBits_27 : decode cX11_meanBits 27 = .ok (.if_icmp .ge 20, 3) := by decide +kernel
theorem dX11_meanBits_30 : decode cX11_meanBits 30 = .ok (.iload_n 1, 1) := by decide +kernel
theorem dX11_meanBits_31 : decode cX11_meanBits 31 = .ok (.aload_n 0, 1) := by decide +kernel
theorem dX11_meanBits_32 : decode cX11_meanBits 32 = .ok (.iload_n 2, 1) := by decide +kernel
theorem dX11_meanBits_33 : decode cX11_meanBits 33 = .ok (.invokevirtual 223, 3) := by decide +kernel
theorem dX11_meanBits_36 : decode cX11_meanBits 36 = .ok (.invokevirtual 308, 3) := by decide +kernel
theorem dX11_meanBits_39 : decode cX11_meanBits 39 = .ok (.iadd, 1) := by decide +kernel
theorem dX11_meanBits_40 : decode cX11_meanBits 40 = .ok (.istore_n 1, 1) := by decide +kernel
theorem dX11_meanBits_41 : decode cX11_meanBits 41 = .ok (.iinc 2 1, 3) := by decide +kernel
theorem dX11_meanBits_44 : decode cX11_meanBits 44 = .ok (.goto (-22), 3) := by decide +kernel
theorem dX11_meanBits_47 : decode cX11_meanBits 47 = .ok (.iload_n 1, 1) := by decide +kernel
theorem dX11_meanBits_48 : decode cX11_meanBits 48 = .ok (.i2d, 1) := by decide +kernel
theorem dX11_meanBits_49 : decode cX11_meanBits 49 = .ok (.aload_n 0, 1) := by decide +kernel
theorem dX11_meanBits_50 : decode cX11_meanBits 50 = .ok (.getfield 43, 3) := by decide +kernel
theorem dX11_meanBits_53 : decode cX11_meanBits 53 = .ok (.i2d, 1) := by decide +kernel
theorem dX11_meanBits_54 : decode cX11_meanBits 54 = .ok (.ddiv, 1) := by decide +kernel
theorem dX11_meanBits_55 : decode cX11_meanBits 55 = .ok (.dreturn, 1) := by decide +kernel
theorem dX11_cleanShare_0 : decode cX11_cleanShare 0 = .ok (.aload_n 0, 1) := by decide +kernel
theorem dX11_cleanShare_1 : decode cX11_cleanShare 1 = .ok (.getfield 74, 3) := by decide +kernel
theorem dX11_cleanShare_4 : decode cX11_cleanShare 4 = .ok (.getfield 309, 3) := by decide +kernel
theorem dX11_cleanShare_7 : decode cX11_cleanShare 7 = .ok (.ifCond .ne 14, 3) := by decide +kernel
theorem dX11_cleanShare_10 : decode cX11_cleanShare 10 = .ok (.new 305, 3) := by decide +kernel
theorem dX11_cleanShare_13 : decode cX11_cleanShare 13 = .ok (.dup, 1) := by decide +kernel
theorem dX11_cleanShare_14 : decode cX11_cleanShare 14 = .ok (.ldc_w 312, 3) := by decide +kernel
theorem dX11_cleanShare_17 : decode cX11_cleanShare 17 = .ok (.invokespecial 307, 3) := by decide +kernel
theorem dX11_cleanShare_20 : decode cX11_cleanShare 20 = .ok (.athrow, 1) := by decide +kernel
theorem dX11_cleanShare_21 : decode cX11_cleanShare 21 = .ok (.aload_n 0, 1) := by decide +kernel
theorem dX11_cleanShare_22 : decode cX11_cleanShare 22 = .ok (.getfield 74, 3) := by decide +kernel
theorem dX11_cleanShare_25 : decode cX11_cleanShare 25 = .ok (.getfield 314, 3) := by decide +kernel
theorem dX11_cleanShare_28 : decode cX11_cleanShare 28 = .ok (.i2f, 1) := by decide +kernel
theorem dX11_cleanShare_29 : decode cX11_cleanShare 29 = .ok (.aload_n 0, 1) := by decide +kernel
theorem dX11_cleanShare_30 : decode cX11_cleanShare 30 = .ok (.getfield 74, 3) := by decide +kernel
theorem dX11_cleanShare_33 : decode cX11_cleanShare 33 = .ok (.getfield 309, 3) := by decide +kernel
theorem dX11_cleanShare_36 : decode cX11_cleanShare 36 = .ok (.i2f, 1) := by decide +kernel
theorem dX11_cleanShare_37 : decode cX11_cleanShare 37 = .ok (.fdiv, 1) := by decide +kernel
theorem dX11_cleanShare_38 : decode cX11_cleanShare 38 = .ok (.freturn, 1) := by decide +kernel
theorem dX11_isOnCanvas_0 : decode cX11_isOnCanvas 0 = .ok (.iload_n 0, 1) := by decide +kernel
theorem dX11_isOnCanvas_1 : decode cX11_isOnCanvas 1 = .ok (.ifCond .lt 23, 3) := by decide +kernel
theorem dX11_isOnCanvas_4 : decode cX11_isOnCanvas 4 = .ok (.iload_n 0, 1) := by decide +kernel
theorem dX11_isOnCanvas_5 : decode cX11_isOnCanvas 5 = .ok (.bipush 16, 2) := by decide +kernel
theorem dX11_isOnCanvas_7 : decode cX11_isOnCanvas 7 = .ok (.if_icmp .ge 17, 3) := by decide +kernel
theorem dX11_isOnCanvas_10 : decode cX11_isOnCanvas 10 = .ok (.iload_n 1, 1) := by decide +kernel
theorem dX11_isOnCanvas_11 : decode cX11_isOnCanvas 11 = .ok (.ifCond .lt 13, 3) := by decide +kernel
theorem dX11_isOnCanvas_14 : decode cX11_isOnCanvas 14 = .ok (.iload_n 1, 1) := by decide +kernel
theorem dX11_isOnCanvas_15 : decode cX11_isOnCanvas 15 = .ok (.bipush 16, 2) := by decide +kernel
theorem dX11_isOnCanvas_17 : decode cX11_isOnCanvas 17 = .ok (.if_icmp .ge 7, 3) := by decide +kernel
theorem dX11_isOnCanvas_20 : decode cX11_isOnCanvas 20 = .ok (.iconst 1, 1) := by decide +kernel
theorem dX11_isOnCanvas_21 : decode cX11_isOnCanvas 21 = .ok (.goto 4, 3) := by decide +kernel
theorem dX11_isOnCanvas_24 : decode cX11_isOnCanvas 24 = .ok (.iconst 0, 1) := by decide +kernel
theorem dX11_isOnCanvas_25 : decode cX11_isOnCanvas 25 = .ok (.ireturn, 1) := by decide +kernel
theorem dX11_isValue_0 : decode cX11_isValue 0 = .ok (.iload_n 0, 1) := by decide +kernel
theorem dX11_isValue_1 : decode cX11_isValue 1 = .ok (.ifCond .lt 14, 3) := by decide +kernel
theorem dX11_isValue_4 : decode cX11_isValue 4 = .ok (.iload_n 0, 1) := by decide +kernel
theorem dX11_isValue_5 : decode cX11_isValue 5 = .ok (.sipush 255, 3) := by decide +kernel
theorem dX11_isValue_8 : decode cX11_isValue 8 = .ok (.if_icmp .gt 7, 3) := by decide +kernel
theorem dX11_isValue_11 : decode cX11_isValue 11 = .ok (.iconst 1, 1) := by decide +kernel
theorem dX11_isValue_12 : decode cX11_isValue 12 = .ok (.goto 4, 3) := by decide +kernel
theorem dX11_isValue_15 : decode cX11_isValue 15 = .ok (.iconst 0, 1) := by decide +kernel
theorem dX11_isValue_16 : decode cX11_isValue 16 = .ok (.ireturn, 1) := by decide +kernel
theorem dX11_withinValues_0 : decode cX11_withinValues 0 = .ok (.iload_n 0, 1) := by decide +kernel
theorem dX11_withinValues_1 : decode cX11_withinValues 1 = .ok (.ifCond .ge 7, 3) := by decide +kernel
theorem dX11_withinValues_4 : decode cX11_withinValues 4 = .ok (.iconst 0, 1) := by decide +kernel
theorem dX11_withinValues_5 : decode cX11_withinValues 5 = .ok (.goto 17, 3) := by decide +kernel
theorem dX11_withinValues_8 : decode cX11_withinValues 8 = .ok (.iload_n 0, 1) := by decide +kernel
theorem dX11_withinValues_9 : decode cX11_withinValues 9 = .ok (.sipush 255, 3) := by decide +kernel
theorem dX11_withinValues_12 : decode cX11_withinValues 12 = .ok (.if_icmp .le 9, 3) := by decide +kernel
theorem dX11_withinValues_15 : decode cX11_withinValues 15 = .ok (.sipush 255, 3) := by decide +kernel
theorem dX11_withinValues_18 : decode cX11_withinValues 18 = .ok (.goto 4, 3) := by decide +kernel
theorem dX11_withinValues_21 : decode cX11_withinValues 21 = .ok (.iload_n 0, 1) := by decide +kernel
theorem dX11_withinValues_22 : decode cX11_withinValues 22 = .ok (.ireturn, 1) := by decide +kernel
theorem dX11_placeOf_0 : decode cX11_placeOf 0 = .ok (.bipush 16, 2) := by decide +kernel
theorem dX11_placeOf_2 : decode cX11_placeOf 2 = .ok (.iload_n 1, 1) := by decide +kernel
theorem dX11_placeOf_3 : decode cX11_placeOf 3 = .ok (.imul, 1) := by decide +kernel
theorem dX11_placeOf_4 : decode cX11_placeOf 4 = .ok (.iload_n 0, 1) := by decide +kernel
theorem dX11_placeOf_5 : decode cX11_placeOf 5 = .ok (.iadd, 1) := by decide +kernel
theorem dX11_placeOf_6 : decode cX11_placeOf 6 = .ok (.ireturn, 1) := by decide +kernel
theorem dX11_squareAt_0 : decode cX11_squareAt 0 = .ok (.iconst 2, 1) := by decide +kernel
theorem dX11_squareAt_1 : decode cX11_squareAt 1 = .ok (.iload_n 1, 1) := by decide +kernel
theorem dX11_squareAt_2 : decode cX11_squareAt 2 = .ok (.bipush 8, 2) := by decide +kernel
theorem dX11_squareAt_4 : decode cX11_squareAt 4 = .ok (.idiv, 1) := by decide +kernel
theorem dX11_squareAt_5 : decode cX11_squareAt 5 = .ok (.imul, 1) := by decide +kernel
theorem dX11_squareAt_6 : decode cX11_squareAt 6 = .ok (.iload_n 0, 1) := by decide +kernel
theorem dX11_squareAt_7 : decode cX11_squareAt 7 = .ok (.bipush 8, 2) := by decide +kernel
theorem dX11_squareAt_9 : decode cX11_squareAt 9 = .ok (.idiv, 1) := by decide +kernel
theorem dX11_squareAt_10 : decode cX11_squareAt 10 = .ok (.iadd, 1) := by decide +kernel
theorem dX11_squareAt_11 : decode cX11_squareAt 11 = .ok (.istore_n 2, 1) := by decide +kernel
theorem dX11_squareAt_12 : decode cX11_squareAt 12 = .ok (.iconst 4, 1) := by decide +kernel
theorem dX11_squareAt_13 : decode cX11_squareAt 13 = .ok (.iload_n 2, 1) := by decide +kernel
theorem dX11_squareAt_14 : decode cX11_squareAt 14 = .ok (.imul, 1) := by decide +kernel
theorem dX11_squareAt_15 : decode cX11_squareAt 15 = .ok (.iconst 2, 1) := by decide +kernel
theorem dX11_squareAt_16 : decode cX11_squareAt 16 = .ok (.iload_n 1, 1) := by decide +kernel
theorem dX11_squareAt_17 : decode cX11_squareAt 17 = .ok (.bipush 8, 2) := by decide +kernel
theorem dX11_squareAt_19 : decode cX11_squareAt 19 = .ok (.irem, 1) := by decide +kernel
theorem dX11_squareAt_20 : decode cX11_squareAt 20 = .ok (.iconst 4, 1) := by decide +kernel
theorem dX11_squareAt_21 : decode cX11_squareAt 21 = .ok (.idiv, 1) := by decide +kernel
theorem dX11_squareAt_22 : decode cX11_squareAt 22 = .ok (.imul, 1) := by decide +kernel
theorem dX11_squareAt_23 : decode cX11_squareAt 23 = .ok (.iadd, 1) := by decide +kernel
theorem dX11_squareAt_24 : decode cX11_squareAt 24 = .ok (.iload_n 0, 1) := by decide +kernel
theorem dX11_squareAt_25 : decode cX11_squareAt 25 = .ok (.bipush 8, 2) := by decide +kernel
theorem dX11_squareAt_27 : decode cX11_squareAt 27 = .ok (.irem, 1) := by decide +kernel
theorem dX11_squareAt_28 : decode cX11_squareAt 28 = .ok (.iconst 4, 1) := by decide +kernel
theorem dX11_squareAt_29 : decode cX11_squareAt 29 = .ok (.idiv, 1) := by decide +kernel
theorem dX11_squareAt_30 : decode cX11_squareAt 30 = .ok (.iadd, 1) := by decide +kernel
theorem dX11_squareAt_31 : decode cX11_squareAt 31 = .ok (.ireturn, 1) := by decide +kernel
theorem dX11_columnOf_0 : decode cX11_columnOf 0 = .ok (.bipush 8, 2) := by decide +kernel
theorem dX11_columnOf_2 : decode cX11_columnOf 2 = .ok (.iload_n 0, 1) := by decide +kernel
theorem dX11_columnOf_3 : decode cX11_columnOf 3 = .ok (.iconst 4, 1) := by decide +kernel
theorem dX11_columnOf_4 : decode cX11_columnOf 4 = .ok (.idiv, 1) := by decide +kernel
theorem dX11_columnOf_5 : decode cX11_columnOf 5 = .ok (.iconst 2, 1) := by decide +kernel
theorem dX11_columnOf_6 : decode cX11_columnOf 6 = .ok (.irem, 1) := by decide +kernel
theorem dX11_columnOf_7 : decode cX11_columnOf 7 = .ok (.imul, 1) := by decide +kernel
theorem dX11_columnOf_8 : decode cX11_columnOf 8 = .ok (.iconst 4, 1) := by decide +kernel
theorem dX11_columnOf_9 : decode cX11_columnOf 9 = .ok (.iload_n 0, 1) := by decide +kernel
theorem dX11_columnOf_10 : decode cX11_columnOf 10 = .ok (.iconst 2, 1) := by decide +kernel
theorem dX11_columnOf_11 : decode cX11_columnOf 11 = .ok (.irem, 1) := by decide +kernel
theorem dX11_columnOf_12 : decode cX11_columnOf 12 = .ok (.imul, 1) := by decide +kernel
theorem dX11_columnOf_13 : decode cX11_columnOf 13 = .ok (.iadd, 1) := by decide +kernel
theorem dX11_columnOf_14 : decode cX11_columnOf 14 = .ok (.ireturn, 1) := by decide +kernel
theorem dX11_rowOf_0 : decode cX11_rowOf 0 = .ok (.bipush 8, 2) := by decide +kernel
theorem dX11_rowOf_2 : decode cX11_rowOf 2 = .ok (.iload_n 0, 1) := by decide +kernel
theorem dX11_rowOf_3 : decode cX11_rowOf 3 = .ok (.bipush 8, 2) := by decide +kernel
theorem dX11_rowOf_5 : decode cX11_rowOf 5 = .ok (.idiv, 1) := by decide +kernel
theorem dX11_rowOf_6 : decode cX11_rowOf 6 = .ok (.imul, 1) := by decide +kernel
theorem dX11_rowOf_7 : decode cX11_rowOf 7 = .ok (.iconst 4, 1) := by decide +kernel
theorem dX11_rowOf_8 : decode cX11_rowOf 8 = .ok (.iload_n 0, 1) := by decide +kernel
theorem dX11_rowOf_9 : decode cX11_rowOf 9 = .ok (.iconst 2, 1) := by decide +kernel
theorem dX11_rowOf_10 : decode cX11_rowOf 10 = .ok (.idiv, 1) := by decide +kernel
theorem dX11_rowOf_11 : decode cX11_rowOf 11 = .ok (.iconst 2, 1) := by decide +kernel
theorem dX11_rowOf_12 : decode cX11_rowOf 12 = .ok (.irem, 1) := by decide +kernel
theorem dX11_rowOf_13 : decode cX11_rowOf 13 = .ok (.imul, 1) := by decide +kernel
theorem dX11_rowOf_14 : decode cX11_rowOf 14 = .ok (.iadd, 1) := by decide +kernel
theorem dX11_rowOf_15 : decode cX11_rowOf 15 = .ok (.ireturn, 1) := by decide +kernel
theorem dX11_inPicture_0 : decode cX11_inPicture 0 = .ok (.bipush 16, 2) := by decide +kernel
theorem dX11_inPicture_2 : decode cX11_inPicture 2 = .ok (.iload_n 0, 1) := by decide +kernel
theorem dX11_inPicture_3 : decode cX11_inPicture 3 = .ok (.iconst 4, 1) := by decide +kernel
theorem dX11_inPicture_4 : decode cX11_inPicture 4 = .ok (.idiv, 1) := by decide +kernel
theorem dX11_inPicture_5 : decode cX11_inPicture 5 = .ok (.imul, 1) := by decide +kernel
theorem dX11_inPicture_6 : decode cX11_inPicture 6 = .ok (.iload_n 0, 1) := by decide +kernel
theorem dX11_inPicture_7 : decode cX11_inPicture 7 = .ok (.iconst 4, 1) := by decide +kernel
theorem dX11_inPicture_8 : decode cX11_inPicture 8 = .ok (.irem, 1) := by decide +kernel
theorem dX11_inPicture_9 : decode cX11_inPicture 9 = .ok (.iadd, 1) := by decide +kernel
theorem dX11_inPicture_10 : decode cX11_inPicture 10 = .ok (.ireturn, 1) := by decide +kernel
theorem dX11_startsBlock_0 : decode cX11_startsBlock 0 = .ok (.iload_n 0, 1) := by decide +kernel
theorem dX11_startsBlock_1 : decode cX11_startsBlock 1 = .ok (.iconst 4, 1) := by decide +kernel
theorem dX11_startsBlock_2 : decode cX11_startsBlock 2 = .ok (.irem, 1) := by decide +kernel
theorem dX11_startsBlock_3 : decode cX11_startsBlock 3 = .ok (.ifCond .ne 7, 3) := by decide +kernel
theorem dX11_startsBlock_6 : decode cX11_startsBlock 6 = .ok (.iconst 1, 1) := by decide +kernel
theorem dX11_startsBlock_7 : decode cX11_startsBlock 7 = .ok (.goto 4, 3) := by decide +kernel
theorem dX11_startsBlock_10 : decode cX11_startsBlock 10 = .ok (.iconst 0, 1) := by decide +kernel
theorem dX11_startsBlock_11 : decode cX11_startsBlock 11 = .ok (.ireturn, 1) := by decide +kernel
theorem dX11_refuseNoPixel_0 : decode cX11_refuseNoPixel 0 = .ok (.iload_n 0, 1) := by decide +kernel
theorem dX11_refuseNoPixel_1 : decode cX11_refuseNoPixel 1 = .ok (.iload_n 1, 1) := by decide +kernel
theorem dX11_refuseNoPixel_2 : decode cX11_refuseNoPixel 2 = .ok (.invokestatic 82, 3) := by decide +kernel
theorem dX11_refuseNoPixel_5 : decode cX11_refuseNoPixel 5 = .ok (.ifCond .ne 14, 3) := by decide +kernel
theorem dX11_refuseNoPixel_8 : decode cX11_refuseNoPixel 8 = .ok (.new 155, 3) := by decide +kernel
theorem dX11_refuseNoPixel_11 : decode cX11_refuseNoPixel 11 = .ok (.dup, 1) := by decide +kernel
theorem dX11_refuseNoPixel_12 : decode cX11_refuseNoPixel 12 = .ok (.ldc_w 317, 3) := by decide +kernel
theorem dX11_refuseNoPixel_15 : decode cX11_refuseNoPixel 15 = .ok (.invokespecial 159, 3) := by decide +kernel
theorem dX11_refuseNoPixel_18 : decode cX11_refuseNoPixel 18 = .ok (.athrow, 1) := by decide +kernel
theorem dX11_refuseNoPixel_19 : decode cX11_refuseNoPixel 19 = .ok (.return_, 1) := by decide +kernel
theorem dX11_refuseNothingShown_0 : decode cX11_refuseNothingShown 0 = .ok (.aload_n 0, 1) := by decide +kernel
theorem dX11_refuseNothingShown_1 : decode cX11_refuseNothingShown 1 = .ok (.getfield 74, 3) := by decide +kernel
theorem dX11_refuseNothingShown_4 : decode cX11_refuseNothingShown 4 = .ok (.getfield 299, 3) := by decide +kernel
theorem dX11_refuseNothingShown_7 : decode cX11_refuseNothingShown 7 = .ok (.iconst (-1), 1) := by decide +kernel
theorem dX11_refuseNothingShown_8 : decode cX11_refuseNothingShown 8 = .ok (.if_icmp .ne 14, 3) := by decide +kernel
theorem dX11_refuseNothingShown_11 : decode cX11_refuseNothingShown 11 = .ok (.new 218, 3) := by decide +kernel
theorem dX11_refuseNothingShown_14 : decode cX11_refuseNothingShown 14 = .ok (.dup, 1) := by decide +kernel
theorem dX11_refuseNothingShown_15 : decode cX11_refuseNothingShown 15 = .ok (.ldc_w 319, 3) := by decide +kernel
theorem dX11_refuseNothingShown_18 : decode cX11_refuseNothingShown 18 = .ok (.invokespecial 222, 3) := by decide +kernel
theorem dX11_refuseNothingShown_21 : decode cX11_refuseNothingShown 21 = .ok (.athrow, 1) := by decide +kernel
theorem dX11_refuseNothingShown_22 : decode cX11_refuseNothingShown 22 = .ok (.return_, 1) := by decide +kernel
theorem dX11_pictureAt_0 : decode cX11_pictureAt 0 = .ok (.iload_n 1, 1) := by decide +kernel
theorem dX11_pictureAt_1 : decode cX11_pictureAt 1 = .ok (.ifCond .lt 20, 3) := by decide +kernel
theorem dX11_pictureAt_4 : decode cX11_pictureAt 4 = .ok (.iload_n 1, 1) := by decide +kernel
theorem dX11_pictureAt_5 : decode cX11_pictureAt 5 = .ok (.aload_n 0, 1) := by decide +kernel
theorem dX11_pictureAt_6 : decode cX11_pictureAt 6 = .ok (.getfield 43, 3) := by decide +kernel
