theorem dX12_modeFor_28 : decode cX12_modeFor 28 = .ok (.istore 4, 2) := by decide +kernel
theorem dX12_modeFor_30 : decode cX12_modeFor 30 = .ok (.iload 4, 2) := by decide +kernel
theorem dX12_modeFor_32 : decode cX12_modeFor 32 = .ok (.iconst 3, 1) := by decide +kernel
theorem dX12_modeFor_33 : decode cX12_modeFor 33 = .ok (.if_icmp .le 11, 3) := by decide +kernel
theorem dX12_modeFor_36 : decode cX12_modeFor 36 = .ok (.aload_n 0, 1) := by decide +kernel
theorem dX12_modeFor_37 : decode cX12_modeFor 37 = .ok (.iload_n 1, 1) := by decide +kernel
theorem dX12_modeFor_38 : decode cX12_modeFor 38 = .ok (.iload_n 2, 1) := by decide +kernel
theorem dX12_modeFor_39 : decode cX12_modeFor 39 = .ok (.iload_n 3, 1) := by decide +kernel
theorem dX12_modeFor_40 : decode cX12_modeFor 40 = .ok (.iconst 0, 1) := by decide +kernel
theorem dX12_modeFor_41 : decode cX12_modeFor 41 = .ok (.invokevirtual 193, 3) := by decide +kernel
theorem dX12_modeFor_44 : decode cX12_modeFor 44 = .ok (.iload 4, 2) := by decide +kernel
theorem dX12_modeFor_46 : decode cX12_modeFor 46 = .ok (.iconst 4, 1) := by decide +kernel
theorem dX12_modeFor_47 : decode cX12_modeFor 47 = .ok (.if_icmp .le 11, 3) := by decide +kernel
theorem dX12_modeFor_50 : decode cX12_modeFor 50 = .ok (.aload_n 0, 1) := by decide +kernel
theorem dX12_modeFor_51 : decode cX12_modeFor 51 = .ok (.iload_n 1, 1) := by decide +kernel
theorem dX12_modeFor_52 : decode cX12_modeFor 52 = .ok (.iload_n 2, 1) := by decide +kernel
theorem dX12_modeFor_53 : decode cX12_modeFor 53 = .ok (.iload_n 3, 1) := by decide +kernel
theorem dX12_modeFor_54 : decode cX12_modeFor 54 = .ok (.iconst 2, 1) := by decide +kernel
theorem dX12_modeFor_55 : decode cX12_modeFor 55 = .ok (.invokevirtual 193, 3) := by decide +kernel
theorem dX12_modeFor_58 : decode cX12_modeFor 58 = .ok (.iconst 0, 1) := by decide +kernel
theorem dX12_modeFor_59 : decode cX12_modeFor 59 = .ok (.istore 5, 2) := by decide +kernel
theorem dX12_modeFor_61 : decode cX12_modeFor 61 = .ok (.aload_n 0, 1) := by decide +kernel
theorem dX12_modeFor_62 : decode cX12_modeFor 62 = .ok (.iload_n 1, 1) := by decide +kernel
theorem dX12_modeFor_63 : decode cX12_modeFor 63 = .ok (.iload_n 2, 1) := by decide +kernel
theorem dX12_modeFor_64 : decode cX12_modeFor 64 = .ok (.iload_n 3, 1) := by decide +kernel
theorem dX12_modeFor_65 : decode cX12_modeFor 65 = .ok (.iconst 0, 1) := by decide +kernel
theorem dX12_modeFor_66 : decode cX12_modeFor 66 = .ok (.invokevirtual 185, 3) := by decide +kernel
theorem dX12_modeFor_69 : decode cX12_modeFor 69 = .ok (.istore 6, 2) := by decide +kernel
theorem dX12_modeFor_71 : decode cX12_modeFor 71 = .ok (.iconst 1, 1) := by decide +kernel
theorem dX12_modeFor_72 : decode cX12_modeFor 72 = .ok (.istore 7, 2) := by decide +kernel
theorem dX12_modeFor_74 : decode cX12_modeFor 74 = .ok (.iload 7, 2) := by decide +kernel
theorem dX12_modeFor_76 : decode cX12_modeFor 76 = .ok (.iload 4, 2) := by decide +kernel
theorem dX12_modeFor_78 : decode cX12_modeFor 78 = .ok (.if_icmp .gt 45, 3) := by decide +kernel
theorem dX12_modeFor_81 : decode cX12_modeFor 81 = .ok (.aload_n 0, 1) := by decide +kernel
theorem dX12_modeFor_82 : decode cX12_modeFor 82 = .ok (.iload_n 1, 1) := by decide +kernel
theorem dX12_modeFor_83 : decode cX12_modeFor 83 = .ok (.iload_n 2, 1) := by decide +kernel
theorem dX12_modeFor_84 : decode cX12_modeFor 84 = .ok (.iload_n 3, 1) := by decide +kernel
theorem dX12_modeFor_85 : decode cX12_modeFor 85 = .ok (.iload 7, 2) := by decide +kernel
theorem dX12_modeFor_87 : decode cX12_modeFor 87 = .ok (.invokevirtual 185, 3) := by decide +kernel
theorem dX12_modeFor_90 : decode cX12_modeFor 90 = .ok (.istore 8, 2) := by decide +kernel
theorem dX12_modeFor_92 : decode cX12_modeFor 92 = .ok (.iload 8, 2) := by decide +kernel
theorem dX12_modeFor_94 : decode cX12_modeFor 94 = .ok (.iload 6, 2) := by decide +kernel
theorem dX12_modeFor_96 : decode cX12_modeFor 96 = .ok (.if_icmp .ge 8, 3) := by decide +kernel
theorem dX12_modeFor_99 : decode cX12_modeFor 99 = .ok (.iload 7, 2) := by decide +kernel
theorem dX12_modeFor_101 : decode cX12_modeFor 101 = .ok (.goto 5, 3) := by decide +kernel
theorem dX12_modeFor_104 : decode cX12_modeFor 104 = .ok (.iload 5, 2) := by decide +kernel
theorem dX12_modeFor_106 : decode cX12_modeFor 106 = .ok (.istore 5, 2) := by decide +kernel
theorem dX12_modeFor_108 : decode cX12_modeFor 108 = .ok (.iload 6, 2) := by decide +kernel
theorem dX12_modeFor_110 : decode cX12_modeFor 110 = .ok (.iload 8, 2) := by decide +kernel
theorem dX12_modeFor_112 : decode cX12_modeFor 112 = .ok (.invokestatic 3, 3) := by decide +kernel
theorem dX12_modeFor_115 : decode cX12_modeFor 115 = .ok (.istore 6, 2) := by decide +kernel
theorem dX12_modeFor_117 : decode cX12_modeFor 117 = .ok (.iinc 7 1, 3) := by decide +kernel
theorem dX12_modeFor_120 : decode cX12_modeFor 120 = .ok (.goto (-46), 3) := by decide +kernel
theorem dX12_modeFor_123 : decode cX12_modeFor 123 = .ok (.iload 5, 2) := by decide +kernel
theorem dX12_modeFor_125 : decode cX12_modeFor 125 = .ok (.ireturn, 1) := by decide +kernel
theorem dX12_signOf_0 : decode cX12_signOf 0 = .ok (.ldc 197, 2) := by decide +kernel
theorem dX12_signOf_2 : decode cX12_signOf 2 = .ok (.iconst 4, 1) := by decide +kernel
theorem dX12_signOf_3 : decode cX12_signOf 3 = .ok (.iload_n 0, 1) := by decide +kernel
theorem dX12_signOf_4 : decode cX12_signOf 4 = .ok (.imul, 1) := by decide +kernel
theorem dX12_signOf_5 : decode cX12_signOf 5 = .ok (.iload_n 1, 1) := by decide +kernel
theorem dX12_signOf_6 : decode cX12_signOf 6 = .ok (.iadd, 1) := by decide +kernel
theorem dX12_signOf_7 : decode cX12_signOf 7 = .ok (.ishr, 1) := by decide +kernel
theorem dX12_signOf_8 : decode cX12_signOf 8 = .ok (.iconst 1, 1) := by decide +kernel
theorem dX12_signOf_9 : decode cX12_signOf 9 = .ok (.iand, 1) := by decide +kernel
theorem dX12_signOf_10 : decode cX12_signOf 10 = .ok (.iconst 1, 1) := by decide +kernel
theorem dX12_signOf_11 : decode cX12_signOf 11 = .ok (.if_icmp .ne 7, 3) := by decide +kernel
theorem dX12_signOf_14 : decode cX12_signOf 14 = .ok (.iconst (-1), 1) := by decide +kernel
theorem dX12_signOf_15 : decode cX12_signOf 15 = .ok (.goto 4, 3) := by decide +kernel
theorem dX12_signOf_18 : decode cX12_signOf 18 = .ok (.iconst 1, 1) := by decide +kernel
theorem dX12_signOf_19 : decode cX12_signOf 19 = .ok (.ireturn, 1) := by decide +kernel
theorem dX12_turned_0 : decode cX12_turned 0 = .ok (.bipush 16, 2) := by decide +kernel
theorem dX12_turned_2 : decode cX12_turned 2 = .ok (.newarray .int, 2) := by decide +kernel
theorem dX12_turned_4 : decode cX12_turned 4 = .ok (.astore_n 1, 1) := by decide +kernel
theorem dX12_turned_5 : decode cX12_turned 5 = .ok (.iconst 0, 1) := by decide +kernel
theorem dX12_turned_6 : decode cX12_turned 6 = .ok (.istore_n 2, 1) := by decide +kernel
theorem dX12_turned_7 : decode cX12_turned 7 = .ok (.iload_n 2, 1) := by decide +kernel
theorem dX12_turned_8 : decode cX12_turned 8 = .ok (.bipush 16, 2) := by decide +kernel
theorem dX12_turned_10 : decode cX12_turned 10 = .ok (.if_icmp .ge 60, 3) := by decide +kernel
theorem dX12_turned_13 : decode cX12_turned 13 = .ok (.iconst 0, 1) := by decide +kernel
theorem dX12_turned_14 : decode cX12_turned 14 = .ok (.istore_n 3, 1) := by decide +kernel
theorem dX12_turned_15 : decode cX12_turned 15 = .ok (.iconst 0, 1) := by decide +kernel
theorem dX12_turned_16 : decode cX12_turned 16 = .ok (.istore 4, 2) := by decide +kernel
theorem dX12_turned_18 : decode cX12_turned 18 = .ok (.iload 4, 2) := by decide +kernel
theorem dX12_turned_20 : decode cX12_turned 20 = .ok (.bipush 16, 2) := by decide +kernel
theorem dX12_turned_22 : decode cX12_turned 22 = .ok (.if_icmp .ge 38, 3) := by decide +kernel
theorem dX12_turned_25 : decode cX12_turned 25 = .ok (.iload_n 3, 1) := by decide +kernel
theorem dX12_turned_26 : decode cX12_turned 26 = .ok (.iload_n 2, 1) := by decide +kernel
theorem dX12_turned_27 : decode cX12_turned 27 = .ok (.iconst 4, 1) := by decide +kernel
theorem dX12_turned_28 : decode cX12_turned 28 = .ok (.idiv, 1) := by decide +kernel
theorem dX12_turned_29 : decode cX12_turned 29 = .ok (.iload 4, 2) := by decide +kernel
theorem dX12_turned_31 : decode cX12_turned 31 = .ok (.iconst 4, 1) := by decide +kernel
theorem dX12_turned_32 : decode cX12_turned 32 = .ok (.idiv, 1) := by decide +kernel
theorem dX12_turned_33 : decode cX12_turned 33 = .ok (.invokestatic 198, 3) := by decide +kernel
theorem dX12_turned_36 : decode cX12_turned 36 = .ok (.aload_n 0, 1) := by decide +kernel
theorem dX12_turned_37 : decode cX12_turned 37 = .ok (.iload 4, 2) := by decide +kernel
theorem dX12_turned_39 : decode cX12_turned 39 = .ok (.iaload, 1) := by decide +kernel
theorem dX12_turned_40 : decode cX12_turned 40 = .ok (.imul, 1) := by decide +kernel
theorem dX12_turned_41 : decode cX12_turned 41 = .ok (.iload 4, 2) := by decide +kernel
theorem dX12_turned_43 : decode cX12_turned 43 = .ok (.iconst 4, 1) := by decide +kernel
theorem dX12_turned_44 : decode cX12_turned 44 = .ok (.irem, 1) := by decide +kernel
theorem dX12_turned_45 : decode cX12_turned 45 = .ok (.iload_n 2, 1) := by decide +kernel
theorem dX12_turned_46 : decode cX12_turned 46 = .ok (.iconst 4, 1) := by decide +kernel
theorem dX12_turned_47 : decode cX12_turned 47 = .ok (.irem, 1) := by decide +kernel
theorem dX12_turned_48 : decode cX12_turned 48 = .ok (.invokestatic 198, 3) := by decide +kernel
theorem dX12_turned_51 : decode cX12_turned 51 = .ok (.imul, 1) := by decide +kernel
theorem dX12_turned_52 : decode cX12_turned 52 = .ok (.iadd, 1) := by decide +kernel
theorem dX12_turned_53 : decode cX12_turned 53 = .ok (.istore_n 3, 1) := by decide +kernel
theorem dX12_turned_54 : decode cX12_turned 54 = .ok (.iinc 4 1, 3) := by decide +kernel
theorem dX12_turned_57 : decode cX12_turned 57 = .ok (.goto (-39), 3) := by decide +kernel
theorem dX12_turned_60 : decode cX12_turned 60 = .ok (.aload_n 1, 1) := by decide +kernel
theorem dX12_turned_61 : decode cX12_turned 61 = .ok (.iload_n 2, 1) := by decide +kernel
theorem dX12_turned_62 : decode cX12_turned 62 = .ok (.iload_n 3, 1) := by decide +kernel
theorem dX12_turned_63 : decode cX12_turned 63 = .ok (.iastore, 1) := by decide +kernel
theorem dX12_turned_64 : decode cX12_turned 64 = .ok (.iinc 2 1, 3) := by decide +kernel
theorem dX12_turned_67 : decode cX12_turned 67 = .ok (.goto (-60), 3) := by decide +kernel
theorem dX12_turned_70 : decode cX12_turned 70 = .ok (.aload_n 1, 1) := by decide +kernel
theorem dX12_turned_71 : decode cX12_turned 71 = .ok (.areturn, 1) := by decide +kernel
theorem dX12_back_0 : decode cX12_back 0 = .ok (.bipush 16, 2) := by decide +kernel
theorem dX12_back_2 : decode cX12_back 2 = .ok (.newarray .int, 2) := by decide +kernel
theorem dX12_back_4 : decode cX12_back 4 = .ok (.astore 4, 2) := by decide +kernel
theorem dX12_back_6 : decode cX12_back 6 = .ok (.iconst 0, 1) := by decide +kernel
theorem dX12_back_7 : decode cX12_back 7 = .ok (.istore 5, 2) := by decide +kernel
theorem dX12_back_9 : decode cX12_back 9 = .ok (.iload 5, 2) := by decide +kernel
theorem dX12_back_11 : decode cX12_back 11 = .ok (.bipush 16, 2) := by decide +kernel
theorem dX12_back_13 : decode cX12_back 13 = .ok (.if_icmp .ge 36, 3) := by decide +kernel
theorem dX12_back_16 : decode cX12_back 16 = .ok (.aload 4, 2) := by decide +kernel
theorem dX12_back_18 : decode cX12_back 18 = .ok (.iload 5, 2) := by decide +kernel
theorem dX12_back_20 : decode cX12_back 20 = .ok (.iconst 4, 1) := by decide +kernel
theorem dX12_back_21 : decode cX12_back 21 = .ok (.iload_n 3, 1) := by decide +kernel
theorem dX12_back_22 : decode cX12_back 22 = .ok (.imul, 1) := by decide +kernel
theorem dX12_back_23 : decode cX12_back 23 = .ok (.aload_n 0, 1) := by decide +kernel
theorem dX12_back_24 : decode cX12_back 24 = .ok (.bipush 16, 2) := by decide +kernel
theorem dX12_back_26 : decode cX12_back 26 = .ok (.iload_n 2, 1) := by decide +kernel
theorem dX12_back_27 : decode cX12_back 27 = .ok (.iload 5, 2) := by decide +kernel
theorem dX12_back_29 : decode cX12_back 29 = .ok (.iconst 4, 1) := by decide +kernel
theorem dX12_back_30 : decode cX12_back 30 = .ok (.idiv, 1) := by decide +kernel
theorem dX12_back_31 : decode cX12_back 31 = .ok (.iadd, 1) := by decide +kernel
theorem dX12_back_32 : decode cX12_back 32 = .ok (.imul, 1) := by decide +kernel
theorem dX12_back_33 : decode cX12_back 33 = .ok (.iload_n 1, 1) := by decide +kernel
theorem dX12_back_34 : decode cX12_back 34 = .ok (.iadd, 1) := by decide +kernel
theorem dX12_back_35 : decode cX12_back 35 = .ok (.iload 5, 2) := by decide +kernel
theorem dX12_back_37 : decode cX12_back 37 = .ok (.iconst 4, 1) := by decide +kernel
theorem dX12_back_38 : decode cX12_back 38 = .ok (.irem, 1) := by decide +kernel
theorem dX12_back_39 : decode cX12_back 39 = .ok (.iadd, 1) := by decide +kernel
theorem dX12_back_40 : decode cX12_back 40 = .ok (.iaload, 1) := by decide +kernel
theorem dX12_back_41 : decode cX12_back 41 = .ok (.imul, 1) := by decide +kernel
theorem dX12_back_42 : decode cX12_back 42 = .ok (.iastore, 1) := by decide +kernel
theorem dX12_back_43 : decode cX12_back 43 = .ok (.iinc 5 1, 3) := by decide +kernel
theorem dX12_back_46 : decode cX12_back 46 = .ok (.goto (-37), 3) := by decide +kernel
theorem dX12_back_49 : decode cX12_back 49 = .ok (.aload 4, 2) := by decide +kernel
theorem dX12_back_51 : decode cX12_back 51 = .ok (.invokestatic 201, 3) := by decide +kernel
theorem dX12_back_54 : decode cX12_back 54 = .ok (.astore 5, 2) := by decide +kernel
theorem dX12_back_56 : decode cX12_back 56 = .ok (.iconst 0, 1) := by decide +kernel
theorem dX12_back_57 : decode cX12_back 57 = .ok (.istore 6, 2) := by decide +kernel
theorem dX12_back_59 : decode cX12_back 59 = .ok (.iload 6, 2) := by decide +kernel
theorem dX12_back_61 : decode cX12_back 61 = .ok (.bipush 16, 2) := by decide +kernel
theorem dX12_back_63 : decode cX12_back 63 = .ok (.if_icmp .ge 24, 3) := by decide +kernel
theorem dX12_back_66 : decode cX12_back 66 = .ok (.aload 5, 2) := by decide +kernel
theorem dX12_back_68 : decode cX12_back 68 = .ok (.iload 6, 2) := by decide +kernel
theorem dX12_back_70 : decode cX12_back 70 = .ok (.aload 5, 2) := by decide +kernel
theorem dX12_back_72 : decode cX12_back 72 = .ok (.iload 6, 2) := by decide +kernel
theorem dX12_back_74 : decode cX12_back 74 = .ok (.iaload, 1) := by decide +kernel
theorem dX12_back_75 : decode cX12_back 75 = .ok (.bipush 8, 2) := by decide +kernel
theorem dX12_back_77 : decode cX12_back 77 = .ok (.iadd, 1) := by decide +kernel
theorem dX12_back_78 : decode cX12_back 78 = .ok (.iconst 4, 1) := by decide +kernel
theorem dX12_back_79 : decode cX12_back 79 = .ok (.ishr, 1) := by decide +kernel
theorem dX12_back_80 : decode cX12_back 80 = .ok (.iastore, 1) := by decide +kernel
theorem dX12_back_81 : decode cX12_back 81 = .ok (.iinc 6 1, 3) := by decide +kernel
theorem dX12_back_84 : decode cX12_back 84 = .ok (.goto (-25), 3) := by decide +kernel
theorem dX12_back_87 : decode cX12_back 87 = .ok (.aload 5, 2) := by decide +kernel
theorem dX12_back_89 : decode cX12_back 89 = .ok (.areturn, 1) := by decide +kernel
theorem dX12_codesSquare_0 : decode cX12_codesSquare 0 = .ok (.bipush 16, 2) := by decide +kernel
theorem dX12_codesSquare_2 : decode cX12_codesSquare 2 = .ok (.newarray .int, 2) := by decide +kernel
theorem dX12_codesSquare_4 : decode cX12_codesSquare 4 = .ok (.astore 4, 2) := by decide +kernel
theorem dX12_codesSquare_6 : decode cX12_codesSquare 6 = .ok (.iconst 0, 1) := by decide +kernel
theorem dX12_codesSquare_7 : decode cX12_codesSquare 7 = .ok (.istore 5, 2) := by decide +kernel
theorem dX12_codesSquare_9 : decode cX12_codesSquare 9 = .ok (.iload 5, 2) := by decide +kernel
theorem dX12_codesSquare_11 : decode cX12_codesSquare 11 = .ok (.bipush 16, 2) := by decide +kernel
theorem dX12_codesSquare_13 : decode cX12_codesSquare 13 = .ok (.if_icmp .ge 44, 3) := by decide +kernel
theorem dX12_codesSquare_16 : decode cX12_codesSquare 16 = .ok (.bipush 16, 2) := by decide +kernel
theorem dX12_codesSquare_18 : decode cX12_codesSquare 18 = .ok (.iload_n 2, 1) := by decide +kernel
theorem dX12_codesSquare_19 : decode cX12_codesSquare 19 = .ok (.iload 5, 2) := by decide +kernel
theorem dX12_codesSquare_21 : decode cX12_codesSquare 21 = .ok (.iconst 4, 1) := by decide +kernel
theorem dX12_codesSquare_22 : decode cX12_codesSquare 22 = .ok (.idiv, 1) := by decide +kernel
theorem dX12_codesSquare_23 : decode cX12_codesSquare 23 = .ok (.iadd, 1) := by decide +kernel
theorem dX12_codesSquare_24 : decode cX12_codesSquare 24 = .ok (.imul, 1) := by decide +kernel
theorem dX12_codesSquare_25 : decode cX12_codesSquare 25 = .ok (.iload_n 1, 1) := by decide +kernel
theorem dX12_codesSquare_26 : decode cX12_codesSquare 26 = .ok (.iadd, 1) := by decide +kernel
theorem dX12_codesSquare_27 : decode cX12_codesSquare 27 = .ok (.iload 5, 2) := by decide +kernel
theorem dX12_codesSquare_29 : decode cX12_codesSquare 29 = .ok (.iconst 4, 1) := by decide +kernel
theorem dX12_codesSquare_30 : decode cX12_codesSquare 30 = .ok (.irem, 1) := by decide +kernel
theorem dX12_codesSquare_31 : decode cX12_codesSquare 31 = .ok (.iadd, 1) := by decide +kernel
theorem dX12_codesSquare_32 : decode cX12_codesSquare 32 = .ok (.istore 6, 2) := by decide +kernel
theorem dX12_codesSquare_34 : decode cX12_codesSquare 34 = .ok (.aload 4, 2) := by decide +kernel
theorem dX12_codesSquare_36 : decode cX12_codesSquare 36 = .ok (.iload 5, 2) := by decide +kernel
theorem dX12_codesSquare_38 : decode cX12_codesSquare 38 = .ok (.aload_n 0, 1) := by decide +kernel
theorem dX12_codesSquare_39 : decode cX12_codesSquare 39 = .ok (.getfield 18, 3) := by decide +kernel
theorem dX12_codesSquare_42 : decode cX12_codesSquare 42 = .ok (.iload 6, 2) := by decide +kernel
theorem dX12_codesSquare_44 : decode cX12_codesSquare 44 = .ok (.iaload, 1) := by decide +kernel
theorem dX12_codesSquare_45 : decode cX12_codesSquare 45 = .ok (.aload_n 3, 1) := by decide +kernel
theorem dX12_codesSquare_46 : decode cX12_codesSquare 46 = .ok (.iload 6, 2) := by decide +kernel
theorem dX12_codesSquare_48 : decode cX12_codesSquare 48 = .ok (.iaload, 1) := by decide +kernel
theorem dX12_codesSquare_49 : decode cX12_codesSquare 49 = .ok (.isub, 1) := by decide +kernel
theorem dX12_codesSquare_50 : decode cX12_codesSquare 50 = .ok (.iastore, 1) := by decide +kernel
theorem dX12_codesSquare_51 : decode cX12_codesSquare 51 = .ok (.iinc 5 1, 3) := by decide +kernel
theorem dX12_codesSquare_54 : decode cX12_codesSquare 54 = .ok (.goto (-45), 3) := by decide +kernel
theorem dX12_codesSquare_57 : decode cX12_codesSquare 57 = .ok (.aload 4, 2) := by decide +kernel
theorem dX12_codesSquare_59 : decode cX12_codesSquare 59 = .ok (.invokestatic 201, 3) := by decide +kernel
theorem dX12_codesSquare_62 : decode cX12_codesSquare 62 = .ok (.astore 5, 2) := by decide +kernel
theorem dX12_codesSquare_64 : decode cX12_codesSquare 64 = .ok (.iconst 0, 1) := by decide +kernel
theorem dX12_codesSquare_65 : decode cX12_codesSquare 65 = .ok (.istore 6, 2) := by decide +kernel
theorem dX12_codesSquare_67 : decode cX12_codesSquare 67 = .ok (.iload 6, 2) := by decide +kernel
theorem dX12_codesSquare_69 : decode cX12_codesSquare 69 = .ok (.bipush 16, 2) := by decide +kernel
theorem dX12_codesSquare_71 : decode cX12_codesSquare 71 = .ok (.if_icmp .ge 68, 3) := by decide +kernel
theorem dX12_codesSquare_74 : decode cX12_codesSquare 74 = .ok (.aload 5, 2) := by decide +kernel
theorem dX12_codesSquare_76 : decode cX12_codesSquare 76 = .ok (.iload 6, 2) := by decide +kernel
theorem dX12_codesSquare_78 : decode cX12_codesSquare 78 = .ok (.iaload, 1) := by decide +kernel
theorem dX12_codesSquare_79 : decode cX12_codesSquare 79 = .ok (.invokestatic 175, 3) := by decide +kernel
theorem dX12_codesSquare_82 : decode cX12_codesSquare 82 = .ok (.aload_n 0, 1) := by decide +kernel
theorem dX12_codesSquare_83 : decode cX12_codesSquare 83 = .ok (.getfield 22, 3) := by decide +kernel
theorem dX12_codesSquare_86 : decode cX12_codesSquare 86 = .ok (.iadd, 1) := by decide +kernel
theorem dX12_codesSquare_87 : decode cX12_codesSquare 87 = .ok (.iconst 4, 1) := by decide +kernel
theorem dX12_codesSquare_88 : decode cX12_codesSquare 88 = .ok (.aload_n 0, 1) := by decide +kernel
theorem dX12_codesSquare_89 : decode cX12_codesSquare 89 = .ok (.getfield 22, 3) := by decide +kernel
theorem dX12_codesSquare_92 : decode cX12_codesSquare 92 = .ok (.imul, 1) := by decide +kernel
theorem dX12_codesSquare_93 : decode cX12_codesSquare 93 = .ok (.idiv, 1) := by decide +kernel
theorem dX12_codesSquare_94 : decode cX12_codesSquare 94 = .ok (.istore 7, 2) := by decide +kernel
theorem dX12_codesSquare_96 : decode cX12_codesSquare 96 = .ok (.aload_n 0, 1) := by decide +kernel
theorem dX12_codesSquare_97 : decode cX12_codesSquare 97 = .ok (.getfield 205, 3) := by decide +kernel
theorem dX12_codesSquare_100 : decode cX12_codesSquare 100 = .ok (.bipush 16, 2) := by decide +kernel
theorem dX12_codesSquare_102 : decode cX12_codesSquare 102 = .ok (.iload_n 2, 1) := by decide +kernel
theorem dX12_codesSquare_103 : decode cX12_codesSquare 103 = .ok (.iload 6, 2) := by decide +kernel
theorem dX12_codesSquare_105 : decode cX12_codesSquare 105 = .ok (.iconst 4, 1) := by decide +kernel
theorem dX12_codesSquare_106 : decode cX12_codesSquare 106 = .ok (.idiv, 1) := by decide +kernel
theorem dX12_codesSquare_107 : decode cX12_codesSquare 107 = .ok (.iadd, 1) := by decide +kernel
theorem dX12_codesSquare_108 : decode cX12_codesSquare 108 = .ok (.imul, 1) := by decide +kernel
theorem dX12_codesSquare_109 : decode cX12_codesSquare 109 = .ok (.iload_n 1, 1) := by decide +kernel
theorem dX12_codesSquare_110 : decode cX12_codesSquare 110 = .ok (.iadd, 1) := by decide +kernel
theorem dX12_codesSquare_111 : decode cX12_codesSquare 111 = .ok (.iload 6, 2) := by decide +kernel
theorem dX12_codesSquare_113 : decode cX12_codesSquare 113 = .ok (.iconst 4, 1) := by decide +kernel
theorem dX12_codesSquare_114 : decode cX12_codesSquare 114 = .ok (.irem, 1) := by decide +kernel
theorem dX12_codesSquare_115 : decode cX12_codesSquare 115 = .ok (.iadd, 1) := by decide +kernel
theorem dX12_codesSquare_116 : decode cX12_codesSquare 116 = .ok (.aload 5, 2) := by decide +kernel
theorem dX12_codesSquare_118 : decode cX12_codesSquare 118 = .ok (.iload 6, 2) := by decide +kernel
theorem dX12_codesSquare_120 : decode cX12_codesSquare 120 = .ok (.iaload, 1) := by decide +kernel
theorem dX12_codesSquare_121 : decode cX12_codesSquare 121 = .ok (.ifCond .ge 9, 3) := by decide +kernel
theorem dX12_codesSquare_124 : decode cX12_codesSquare 124 = .ok (.iload 7, 2) := by decide +kernel
theorem dX12_codesSquare_126 : decode cX12_codesSquare 126 = .ok (.ineg, 1) := by decide +kernel
theorem dX12_codesSquare_127 : decode cX12_codesSquare 127 = .ok (.goto 5, 3) := by decide +kernel
theorem dX12_codesSquare_130 : decode cX12_codesSquare 130 = .ok (.iload 7, 2) := by decide +kernel
theorem dX12_codesSquare_132 : decode cX12_codesSquare 132 = .ok (.iastore, 1) := by decide +kernel
theorem dX12_codesSquare_133 : decode cX12_codesSquare 133 = .ok (.iinc 6 1, 3) := by decide +kernel
theorem dX12_codesSquare_136 : decode cX12_codesSquare 136 = .ok (.goto (-69), 3) := by decide +kernel
theorem dX12_codesSquare_139 : decode cX12_codesSquare 139 = .ok (.return_, 1) := by decide +kernel
theorem dX12_builds_0 : decode cX12_builds 0 = .ok (.aload_n 0, 1) := by decide +kernel
theorem dX12_builds_1 : decode cX12_builds 1 = .ok (.aload_n 1, 1) := by decide +kernel
theorem dX12_builds_2 : decode cX12_builds 2 = .ok (.aload_n 2, 1) := by decide +kernel
theorem dX12_builds_3 : decode cX12_builds 3 = .ok (.iload_n 3, 1) := by decide +kernel
theorem dX12_builds_4 : decode cX12_builds 4 = .ok (.iload 4, 2) := by decide +kernel
theorem dX12_builds_6 : decode cX12_builds 6 = .ok (.iload 5, 2) := by decide +kernel
theorem dX12_builds_8 : decode cX12_builds 8 = .ok (.iload 6, 2) := by decide +kernel
theorem dX12_builds_10 : decode cX12_builds 10 = .ok (.aload 7, 2) := by decide +kernel
theorem dX12_builds_12 : decode cX12_builds 12 = .ok (.iload 10, 2) := by decide +kernel
theorem dX12_builds_14 : decode cX12_builds 14 = .ok (.invokestatic 208, 3) := by decide +kernel
theorem dX12_builds_17 : decode cX12_builds 17 = .ok (.astore 11, 2) := by decide +kernel
theorem dX12_builds_19 : decode cX12_builds 19 = .ok (.iconst 0, 1) := by decide +kernel
theorem dX12_builds_20 : decode cX12_builds 20 = .ok (.istore 12, 2) := by decide +kernel
theorem dX12_builds_22 : decode cX12_builds 22 = .ok (.iload 12, 2) := by decide +kernel
theorem dX12_builds_24 : decode cX12_builds 24 = .ok (.iload 5, 2) := by decide +kernel
theorem dX12_builds_26 : decode cX12_builds 26 = .ok (.iload 5, 2) := by decide +kernel
theorem dX12_builds_28 : decode cX12_builds 28 = .ok (.imul, 1) := by decide +kernel
theorem dX12_builds_29 : decode cX12_builds 29 = .ok (.bipush 16, 2) := by decide +kernel
theorem dX12_builds_31 : decode cX12_builds 31 = .ok (.idiv, 1) := by decide +kernel
theorem dX12_builds_32 : decode cX12_builds 32 = .ok (.if_icmp .ge 103, 3) := by decide +kernel
theorem dX12_builds_35 : decode cX12_builds 35 = .ok (.iload_n 3, 1) := by decide +kernel
theorem dX12_builds_36 : decode cX12_builds 36 = .ok (.iload 12, 2) := by decide +kernel
theorem dX12_builds_38 : decode cX12_builds 38 = .ok (.iload 5, 2) := by decide +kernel
theorem dX12_builds_40 : decode cX12_builds 40 = .ok (.iconst 4, 1) := by decide +kernel
theorem dX12_builds_41 : decode cX12_builds 41 = .ok (.idiv, 1) := by decide +kernel
theorem dX12_builds_42 : decode cX12_builds 42 = .ok (.irem, 1) := by decide +kernel
theorem dX12_builds_43 : decode cX12_builds 43 = .ok (.iconst 4, 1) := by decide +kernel
theorem dX12_builds_44 : decode cX12_builds 44 = .ok (.imul, 1) := by decide +kernel
theorem dX12_builds_45 : decode cX12_builds 45 = .ok (.iadd, 1) := by decide +kernel
theorem dX12_builds_46 : decode cX12_builds 46 = .ok (.istore 13, 2) := by decide +kernel
theorem dX12_builds_48 : decode cX12_builds 48 = .ok (.iload 4, 2) := by decide +kernel
theorem dX12_builds_50 : decode cX12_builds 50 = .ok (.iload 12, 2) := by decide +kernel
theorem dX12_builds_52 : decode cX12_builds 52 = .ok (.iload 5, 2) := by decide +kernel
theorem dX12_builds_54 : decode cX12_builds 54 = .ok (.iconst 4, 1) := by decide +kernel
theorem dX12_builds_55 : decode cX12_builds 55 = .ok (.idiv, 1) := by decide +kernel
theorem dX12_builds_56 : decode cX12_builds 56 = .ok (.idiv, 1) := by decide +kernel
theorem dX12_builds_57 : decode cX12_builds 57 = .ok (.iconst 4, 1) := by decide +kernel
theorem dX12_builds_58 : decode cX12_builds 58 = .ok (.imul, 1) := by decide +kernel
theorem dX12_builds_59 : decode cX12_builds 59 = .ok (.iadd, 1) := by decide +kernel
theorem dX12_builds_60 : decode cX12_builds 60 = .ok (.istore 14, 2) := by decide +kernel
theorem dX12_builds_62 : decode cX12_builds 62 = .ok (.aload 8, 2) := by decide +kernel
theorem dX12_builds_64 : decode cX12_builds 64 = .ok (.iload 13, 2) := by decide +kernel
theorem dX12_builds_66 : decode cX12_builds 66 = .ok (.iload 14, 2) := by decide +kernel
theorem dX12_builds_68 : decode cX12_builds 68 = .ok (.iload 9, 2) := by decide +kernel
theorem dX12_builds_70 : decode cX12_builds 70 = .ok (.invokestatic 212, 3) := by decide +kernel
theorem dX12_builds_73 : decode cX12_builds 73 = .ok (.astore 15, 2) := by decide +kernel
theorem dX12_builds_75 : decode cX12_builds 75 = .ok (.iconst 0, 1) := by decide +kernel
theorem dX12_builds_76 : decode cX12_builds 76 = .ok (.istore 16, 2) := by decide +kernel
theorem dX12_builds_78 : decode cX12_builds 78 = .ok (.iload 16, 2) := by decide +kernel
theorem dX12_builds_80 : decode cX12_builds 80 = .ok (.bipush 16, 2) := by decide +kernel
theorem dX12_builds_82 : decode cX12_builds 82 = .ok (.if_icmp .ge 47, 3) := by decide +kernel
theorem dX12_builds_85 : decode cX12_builds 85 = .ok (.bipush 16, 2) := by decide +kernel
theorem dX12_builds_87 : decode cX12_builds 87 = .ok (.iload 14, 2) := by decide +kernel
theorem dX12_builds_89 : decode cX12_builds 89 = .ok (.iload 16, 2) := by decide +kernel
theorem dX12_builds_91 : decode cX12_builds 91 = .ok (.iconst 4, 1) := by decide +kernel
theorem dX12_builds_92 : decode cX12_builds 92 = .ok (.idiv, 1) := by decide +kernel
theorem dX12_builds_93 : decode cX12_builds 93 = .ok (.iadd, 1) := by decide +kernel
theorem dX12_builds_94 : decode cX12_builds 94 = .ok (.imul, 1) := by decide +kernel
theorem dX12_builds_95 : decode cX12_builds 95 = .ok (.iload 13, 2) := by decide +kernel
theorem dX12_builds_97 : decode cX12_builds 97 = .ok (.iadd, 1) := by decide +kernel
theorem dX12_builds_98 : decode cX12_builds 98 = .ok (.iload 16, 2) := by decide +kernel
theorem dX12_builds_100 : decode cX12_builds 100 = .ok (.iconst 4, 1) := by decide +kernel
theorem dX12_builds_101 : decode cX12_builds 101 = .ok (.irem, 1) := by decide +kernel
theorem dX12_builds_102 : decode cX12_builds 102 = .ok (.iadd, 1) := by decide +kernel
theorem dX12_builds_103 : decode cX12_builds 103 = .ok (.istore 17, 2) := by decide +kernel
theorem dX12_builds_105 : decode cX12_builds 105 = .ok (.aload_n 0, 1) := by decide +kernel
theorem dX12_builds_106 : decode cX12_builds 106 = .ok (.iload 17, 2) := by decide +kernel
theorem dX12_builds_108 : decode cX12_builds 108 = .ok (.aload 11, 2) := by decide +kernel
theorem dX12_builds_110 : decode cX12_builds 110 = .ok (.iload 17, 2) := by decide +kernel
theorem dX12_builds_112 : decode cX12_builds 112 = .ok (.iaload, 1) := by decide +kernel
theorem dX12_builds_113 : decode cX12_builds 113 = .ok (.aload 15, 2) := by decide +kernel
theorem dX12_builds_115 : decode cX12_builds 115 = .ok (.iload 16, 2) := by decide +kernel
theorem dX12_builds_117 : decode cX12_builds 117 = .ok (.iaload, 1) := by decide +kernel
theorem dX12_builds_118 : decode cX12_builds 118 = .ok (.iadd, 1) := by decide +kernel
theorem dX12_builds_119 : decode cX12_builds 119 = .ok (.invokestatic 118, 3) := by decide +kernel
theorem dX12_builds_122 : decode cX12_builds 122 = .ok (.iastore, 1) := by decide +kernel
theorem dX12_builds_123 : decode cX12_builds 123 = .ok (.iinc 16 1, 3) := by decide +kernel
theorem dX12_builds_126 : decode cX12_builds 126 = .ok (.goto (-48), 3) := by decide +kernel
theorem dX12_builds_129 : decode cX12_builds 129 = .ok (.iinc 12 1, 3) := by decide +kernel
theorem dX12_builds_132 : decode cX12_builds 132 = .ok (.goto (-110), 3) := by decide +kernel
theorem dX12_builds_135 : decode cX12_builds 135 = .ok (.return_, 1) := by decide +kernel
theorem dX12_guesses_0 : decode cX12_guesses 0 = .ok (.sipush 256, 3) := by decide +kernel
theorem dX12_guesses_3 : decode cX12_guesses 3 = .ok (.newarray .int, 2) := by decide +kernel
theorem dX12_guesses_5 : decode cX12_guesses 5 = .ok (.astore 9, 2) := by decide +kernel
theorem dX12_guesses_7 : decode cX12_guesses 7 = .ok (.iconst 0, 1) := by decide +kernel
theorem dX12_guesses_8 : decode cX12_guesses 8 = .ok (.istore 10, 2) := by decide +kernel
theorem dX12_guesses_10 : decode cX12_guesses 10 = .ok (.iload 10, 2) := by decide +kernel
theorem dX12_guesses_12 : decode cX12_guesses 12 = .ok (.iload 5, 2) := by decide +kernel
theorem dX12_guesses_14 : decode cX12_guesses 14 = .ok (.iload 5, 2) := by decide +kernel
theorem dX12_guesses_16 : decode cX12_guesses 16 = .ok (.imul, 1) := by decide +kernel
theorem dX12_guesses_17 : decode cX12_guesses 17 = .ok (.if_icmp .ge 75, 3) := by decide +kernel
theorem dX12_guesses_20 : decode cX12_guesses 20 = .ok (.iload_n 3, 1) := by decide +kernel
theorem dX12_guesses_21 : decode cX12_guesses 21 = .ok (.iload 10, 2) := by decide +kernel
theorem dX12_guesses_23 : decode cX12_guesses 23 = .ok (.iload 5, 2) := by decide +kernel
theorem dX12_guesses_25 : decode cX12_guesses 25 = .ok (.irem, 1) := by decide +kernel
theorem dX12_guesses_26 : decode cX12_guesses 26 = .ok (.iadd, 1) := by decide +kernel
theorem dX12_guesses_27 : decode cX12_guesses 27 = .ok (.istore 11, 2) := by decide +kernel
theorem dX12_guesses_29 : decode cX12_guesses 29 = .ok (.iload 4, 2) := by decide +kernel
theorem dX12_guesses_31 : decode cX12_guesses 31 = .ok (.iload 10, 2) := by decide +kernel
theorem dX12_guesses_33 : decode cX12_guesses 33 = .ok (.iload 5, 2) := by decide +kernel
theorem dX12_guesses_35 : decode cX12_guesses 35 = .ok (.idiv, 1) := by decide +kernel
theorem dX12_guesses_36 : decode cX12_guesses 36 = .ok (.iadd, 1) := by decide +kernel
theorem dX12_guesses_37 : decode cX12_guesses 37 = .ok (.istore 12, 2) := by decide +kernel
theorem dX12_guesses_39 : decode cX12_guesses 39 = .ok (.aload 9, 2) := by decide +kernel
theorem dX12_guesses_41 : decode cX12_guesses 41 = .ok (.bipush 16, 2) := by decide +kernel
theorem dX12_guesses_43 : decode cX12_guesses 43 = .ok (.iload 12, 2) := by decide +kernel
theorem dX12_guesses_45 : decode cX12_guesses 45 = .ok (.imul, 1) := by decide +kernel
theorem dX12_guesses_46 : decode cX12_guesses 46 = .ok (.iload 11, 2) := by decide +kernel
theorem dX12_guesses_48 : decode cX12_guesses 48 = .ok (.iadd, 1) := by decide +kernel
theorem dX12_guesses_49 : decode cX12_guesses 49 = .ok (.iload 6, 2) := by decide +kernel
theorem dX12_guesses_51 : decode cX12_guesses 51 = .ok (.iconst 4, 1) := by decide +kernel
theorem dX12_guesses_52 : decode cX12_guesses 52 = .ok (.if_icmp .ge 20, 3) := by decide +kernel
theorem dX12_guesses_55 : decode cX12_guesses 55 = .ok (.aload_n 0, 1) := by decide +kernel
theorem dX12_guesses_56 : decode cX12_guesses 56 = .ok (.iload 11, 2) := by decide +kernel
theorem dX12_guesses_58 : decode cX12_guesses 58 = .ok (.iload 12, 2) := by decide +kernel
theorem dX12_guesses_60 : decode cX12_guesses 60 = .ok (.iload 5, 2) := by decide +kernel
theorem dX12_guesses_62 : decode cX12_guesses 62 = .ok (.iload 6, 2) := by decide +kernel
theorem dX12_guesses_64 : decode cX12_guesses 64 = .ok (.iload 8, 2) := by decide +kernel
theorem dX12_guesses_66 : decode cX12_guesses 66 = .ok (.invokestatic 158, 3) := by decide +kernel
theorem dX12_guesses_69 : decode cX12_guesses 69 = .ok (.goto 16, 3) := by decide +kernel
theorem dX12_guesses_72 : decode cX12_guesses 72 = .ok (.aload_n 1, 1) := by decide +kernel
theorem dX12_guesses_73 : decode cX12_guesses 73 = .ok (.aload_n 2, 1) := by decide +kernel
theorem dX12_guesses_74 : decode cX12_guesses 74 = .ok (.iload 11, 2) := by decide +kernel
theorem dX12_guesses_76 : decode cX12_guesses 76 = .ok (.iload 12, 2) := by decide +kernel
theorem dX12_guesses_78 : decode cX12_guesses 78 = .ok (.iload 6, 2) := by decide +kernel
theorem dX12_guesses_80 : decode cX12_guesses 80 = .ok (.aload 7, 2) := by decide +kernel
theorem dX12_guesses_82 : decode cX12_guesses 82 = .ok (.invokestatic 171, 3) := by decide +kernel
theorem dX12_guesses_85 : decode cX12_guesses 85 = .ok (.iastore, 1) := by decide +kernel
theorem dX12_guesses_86 : decode cX12_guesses 86 = .ok (.iinc 10 1, 3) := by decide +kernel
theorem dX12_guesses_89 : decode cX12_guesses 89 = .ok (.goto (-79), 3) := by decide +kernel
theorem dX12_guesses_92 : decode cX12_guesses 92 = .ok (.aload 9, 2) := by decide +kernel
theorem dX12_guesses_94 : decode cX12_guesses 94 = .ok (.areturn, 1) := by decide +kernel
theorem dX12_meets_0 : decode cX12_meets 0 = .ok (.aload_n 0, 1) := by decide +kernel
theorem dX12_meets_1 : decode cX12_meets 1 = .ok (.iload_n 2, 1) := by decide +kernel
theorem dX12_meets_2 : decode cX12_meets 2 = .ok (.iaload, 1) := by decide +kernel
theorem dX12_meets_3 : decode cX12_meets 3 = .ok (.aload_n 0, 1) := by decide +kernel
theorem dX12_meets_4 : decode cX12_meets 4 = .ok (.iload_n 1, 1) := by decide +kernel
theorem dX12_meets_5 : decode cX12_meets 5 = .ok (.iaload, 1) := by decide +kernel
theorem dX12_meets_6 : decode cX12_meets 6 = .ok (.isub, 1) := by decide +kernel
theorem dX12_meets_7 : decode cX12_meets 7 = .ok (.istore 4, 2) := by decide +kernel
theorem dX12_meets_9 : decode cX12_meets 9 = .ok (.iload 4, 2) := by decide +kernel
theorem dX12_meets_11 : decode cX12_meets 11 = .ok (.invokestatic 175, 3) := by decide +kernel
theorem dX12_meets_14 : decode cX12_meets 14 = .ok (.iload_n 3, 1) := by decide +kernel
theorem dX12_meets_15 : decode cX12_meets 15 = .ok (.iconst 2, 1) := by decide +kernel
theorem dX12_meets_16 : decode cX12_meets 16 = .ok (.iadd, 1) := by decide +kernel
theorem dX12_meets_17 : decode cX12_meets 17 = .ok (.if_icmp .ge 23, 3) := by decide +kernel
theorem dX12_meets_20 : decode cX12_meets 20 = .ok (.aload_n 0, 1) := by decide +kernel
theorem dX12_meets_21 : decode cX12_meets 21 = .ok (.iload_n 1, 1) := by decide +kernel
theorem dX12_meets_22 : decode cX12_meets 22 = .ok (.dup2, 1) := by decide +kernel
theorem dX12_meets_23 : decode cX12_meets 23 = .ok (.iaload, 1) := by decide +kernel
theorem dX12_meets_24 : decode cX12_meets 24 = .ok (.iload 4, 2) := by decide +kernel
theorem dX12_meets_26 : decode cX12_meets 26 = .ok (.iconst 4, 1) := by decide +kernel
theorem dX12_meets_27 : decode cX12_meets 27 = .ok (.idiv, 1) := by decide +kernel
theorem dX12_meets_28 : decode cX12_meets 28 = .ok (.iadd, 1) := by decide +kernel
theorem dX12_meets_29 : decode cX12_meets 29 = .ok (.iastore, 1) := by decide +kernel
theorem dX12_meets_30 : decode cX12_meets 30 = .ok (.aload_n 0, 1) := by decide +kernel
theorem dX12_meets_31 : decode cX12_meets 31 = .ok (.iload_n 2, 1) := by decide +kernel
theorem dX12_meets_32 : decode cX12_meets 32 = .ok (.dup2, 1) := by decide +kernel
theorem dX12_meets_33 : decode cX12_meets 33 = .ok (.iaload, 1) := by decide +kernel
theorem dX12_meets_34 : decode cX12_meets 34 = .ok (.iload 4, 2) := by decide +kernel
theorem dX12_meets_36 : decode cX12_meets 36 = .ok (.iconst 4, 1) := by decide +kernel
theorem dX12_meets_37 : decode cX12_meets 37 = .ok (.idiv, 1) := by decide +kernel
theorem dX12_meets_38 : decode cX12_meets 38 = .ok (.isub, 1) := by decide +kernel
theorem dX12_meets_39 : decode cX12_meets 39 = .ok (.iastore, 1) := by decide +kernel
theorem dX12_meets_40 : decode cX12_meets 40 = .ok (.return_, 1) := by decide +kernel
theorem dX12_smooths_0 : decode cX12_smooths 0 = .ok (.iload_n 2, 1) := by decide +kernel
theorem dX12_smooths_1 : decode cX12_smooths 1 = .ok (.iconst 2, 1) := by decide +kernel
theorem dX12_smooths_2 : decode cX12_smooths 2 = .ok (.iand, 1) := by decide +kernel
theorem dX12_smooths_3 : decode cX12_smooths 3 = .ok (.ifCond .ne 4, 3) := by decide +kernel
theorem dX12_smooths_6 : decode cX12_smooths 6 = .ok (.return_, 1) := by decide +kernel
theorem dX12_smooths_7 : decode cX12_smooths 7 = .ok (.iconst 4, 1) := by decide +kernel
theorem dX12_smooths_8 : decode cX12_smooths 8 = .ok (.istore 4, 2) := by decide +kernel
theorem dX12_smooths_10 : decode cX12_smooths 10 = .ok (.iload 4, 2) := by decide +kernel
theorem dX12_smooths_12 : decode cX12_smooths 12 = .ok (.bipush 16, 2) := by decide +kernel
theorem dX12_smooths_14 : decode cX12_smooths 14 = .ok (.if_icmp .ge 48, 3) := by decide +kernel
theorem dX12_smooths_17 : decode cX12_smooths 17 = .ok (.iconst 0, 1) := by decide +kernel
theorem dX12_smooths_18 : decode cX12_smooths 18 = .ok (.istore 5, 2) := by decide +kernel
theorem dX12_smooths_20 : decode cX12_smooths 20 = .ok (.iload 5, 2) := by decide +kernel
theorem dX12_smooths_22 : decode cX12_smooths 22 = .ok (.bipush 16, 2) := by decide +kernel
theorem dX12_smooths_24 : decode cX12_smooths 24 = .ok (.if_icmp .ge 32, 3) := by decide +kernel
theorem dX12_smooths_27 : decode cX12_smooths 27 = .ok (.aload_n 0, 1) := by decide +kernel
theorem dX12_smooths_28 : decode cX12_smooths 28 = .ok (.bipush 16, 2) := by decide +kernel
theorem dX12_smooths_30 : decode cX12_smooths 30 = .ok (.iload 5, 2) := by decide +kernel
theorem dX12_smooths_32 : decode cX12_smooths 32 = .ok (.imul, 1) := by decide +kernel
theorem dX12_smooths_33 : decode cX12_smooths 33 = .ok (.iload 4, 2) := by decide +kernel
theorem dX12_smooths_35 : decode cX12_smooths 35 = .ok (.iadd, 1) := by decide +kernel
theorem dX12_smooths_36 : decode cX12_smooths 36 = .ok (.iconst 1, 1) := by decide +kernel
theorem dX12_smooths_37 : decode cX12_smooths 37 = .ok (.isub, 1) := by decide +kernel
theorem dX12_smooths_38 : decode cX12_smooths 38 = .ok (.bipush 16, 2) := by decide +kernel
theorem dX12_smooths_40 : decode cX12_smooths 40 = .ok (.iload 5, 2) := by decide +kernel
theorem dX12_smooths_42 : decode cX12_smooths 42 = .ok (.imul, 1) := by decide +kernel
theorem dX12_smooths_43 : decode cX12_smooths 43 = .ok (.iload 4, 2) := by decide +kernel
theorem dX12_smooths_45 : decode cX12_smooths 45 = .ok (.iadd, 1) := by decide +kernel
theorem dX12_smooths_46 : decode cX12_smooths 46 = .ok (.iload_n 1, 1) := by decide +kernel
theorem dX12_smooths_47 : decode cX12_smooths 47 = .ok (.invokestatic 216, 3) := by decide +kernel
theorem dX12_smooths_50 : decode cX12_smooths 50 = .ok (.iinc 5 1, 3) := by decide +kernel
theorem dX12_smooths_53 : decode cX12_smooths 53 = .ok (.goto (-33), 3) := by decide +kernel
theorem dX12_smooths_56 : decode cX12_smooths 56 = .ok (.iinc 4 4, 3) := by decide +kernel
theorem dX12_smooths_59 : decode cX12_smooths 59 = .ok (.goto (-49), 3) := by decide +kernel
theorem dX12_smooths_62 : decode cX12_smooths 62 = .ok (.iconst 4, 1) := by decide +kernel
theorem dX12_smooths_63 : decode cX12_smooths 63 = .ok (.istore 4, 2) := by decide +kernel
theorem dX12_smooths_65 : decode cX12_smooths 65 = .ok (.iload 4, 2) := by decide +kernel
theorem dX12_smooths_67 : decode cX12_smooths 67 = .ok (.bipush 16, 2) := by decide +kernel
theorem dX12_smooths_69 : decode cX12_smooths 69 = .ok (.if_icmp .ge 60, 3) := by decide +kernel
theorem dX12_smooths_72 : decode cX12_smooths 72 = .ok (.iconst 0, 1) := by decide +kernel
theorem dX12_smooths_73 : decode cX12_smooths 73 = .ok (.istore 5, 2) := by decide +kernel
theorem dX12_smooths_75 : decode cX12_smooths 75 = .ok (.iload 5, 2) := by decide +kernel
theorem dX12_smooths_77 : decode cX12_smooths 77 = .ok (.bipush 16, 2) := by decide +kernel
theorem dX12_smooths_79 : decode cX12_smooths 79 = .ok (.if_icmp .ge 44, 3) := by decide +kernel
theorem dX12_smooths_82 : decode cX12_smooths 82 = .ok (.iload 4, 2) := by decide +kernel
theorem dX12_smooths_84 : decode cX12_smooths 84 = .ok (.bipush 8, 2) := by decide +kernel
theorem dX12_smooths_86 : decode cX12_smooths 86 = .ok (.if_icmp .ne 8, 3) := by decide +kernel
theorem dX12_smooths_89 : decode cX12_smooths 89 = .ok (.iload_n 3, 1) := by decide +kernel
theorem dX12_smooths_90 : decode cX12_smooths 90 = .ok (.iconst 1, 1) := by decide +kernel
theorem dX12_smooths_91 : decode cX12_smooths 91 = .ok (.if_icmp .ne 32, 3) := by decide +kernel
theorem dX12_smooths_94 : decode cX12_smooths 94 = .ok (.aload_n 0, 1) := by decide +kernel
theorem dX12_smooths_95 : decode cX12_smooths 95 = .ok (.bipush 16, 2) := by decide +kernel
theorem dX12_smooths_97 : decode cX12_smooths 97 = .ok (.iload 4, 2) := by decide +kernel
theorem dX12_smooths_99 : decode cX12_smooths 99 = .ok (.iconst 1, 1) := by decide +kernel
theorem dX12_smooths_100 : decode cX12_smooths 100 = .ok (.isub, 1) := by decide +kernel
theorem dX12_smooths_101 : decode cX12_smooths 101 = .ok (.imul, 1) := by decide +kernel
theorem dX12_smooths_102 : decode cX12_smooths 102 = .ok (.iload 5, 2) := by decide +kernel
theorem dX12_smooths_104 : decode cX12_smooths 104 = .ok (.iadd, 1) := by decide +kernel
theorem dX12_smooths_105 : decode cX12_smooths 105 = .ok (.bipush 16, 2) := by decide +kernel
theorem dX12_smooths_107 : decode cX12_smooths 107 = .ok (.iload 4, 2) := by decide +kernel
theorem dX12_smooths_109 : decode cX12_smooths 109 = .ok (.imul, 1) := by decide +kernel
theorem dX12_smooths_110 : decode cX12_smooths 110 = .ok (.iload 5, 2) := by decide +kernel
theorem dX12_smooths_112 : decode cX12_smooths 112 = .ok (.iadd, 1) := by decide +kernel
theorem dX12_smooths_113 : decode cX12_smooths 113 = .ok (.iload_n 1, 1) := by decide +kernel
theorem dX12_smooths_114 : decode cX12_smooths 114 = .ok (.invokestatic 216, 3) := by decide +kernel
theorem dX12_smooths_117 : decode cX12_smooths 117 = .ok (.iinc 5 1, 3) := by decide +kernel
theorem dX12_smooths_120 : decode cX12_smooths 120 = .ok (.goto (-45), 3) := by decide +kernel
theorem dX12_smooths_123 : decode cX12_smooths 123 = .ok (.iinc 4 4, 3) := by decide +kernel
theorem dX12_smooths_126 : decode cX12_smooths 126 = .ok (.goto (-61), 3) := by decide +kernel
theorem dX12_smooths_129 : decode cX12_smooths 129 = .ok (.return_, 1) := by decide +kernel
theorem dX12_begins_0 : decode cX12_begins 0 = .ok (.aload_n 0, 1) := by decide +kernel
theorem dX12_begins_1 : decode cX12_begins 1 = .ok (.ldc2_w 220, 3) := by decide +kernel
theorem dX12_begins_4 : decode cX12_begins 4 = .ok (.putfield 222, 3) := by decide +kernel
theorem dX12_begins_7 : decode cX12_begins 7 = .ok (.aload_n 0, 1) := by decide +kernel
theorem dX12_begins_8 : decode cX12_begins 8 = .ok (.iconst 0, 1) := by decide +kernel
theorem dX12_begins_9 : decode cX12_begins 9 = .ok (.putfield 226, 3) := by decide +kernel
theorem dX12_begins_12 : decode cX12_begins 12 = .ok (.iconst 0, 1) := by decide +kernel
theorem dX12_begins_13 : decode cX12_begins 13 = .ok (.istore_n 1, 1) := by decide +kernel
theorem dX12_begins_14 : decode cX12_begins 14 = .ok (.iload_n 1, 1) := by decide +kernel
theorem dX12_begins_15 : decode cX12_begins 15 = .ok (.aload_n 0, 1) := by decide +kernel
theorem dX12_begins_16 : decode cX12_begins 16 = .ok (.getfield 95, 3) := by decide +kernel
theorem dX12_begins_19 : decode cX12_begins 19 = .ok (.arraylength, 1) := by decide +kernel
theorem dX12_begins_20 : decode cX12_begins 20 = .ok (.if_icmp .ge 18, 3) := by decide +kernel
theorem dX12_begins_23 : decode cX12_begins 23 = .ok (.aload_n 0, 1) := by decide +kernel
theorem dX12_begins_24 : decode cX12_begins 24 = .ok (.getfield 95, 3) := by decide +kernel
theorem dX12_begins_27 : decode cX12_begins 27 = .ok (.iload_n 1, 1) := by decide +kernel
theorem dX12_begins_28 : decode cX12_begins 28 = .ok (.sipush 1024, 3) := by decide +kernel
theorem dX12_begins_31 : decode cX12_begins 31 = .ok (.iastore, 1) := by decide +kernel
theorem dX12_begins_32 : decode cX12_begins 32 = .ok (.iinc 1 1, 3) := by decide +kernel
theorem dX12_begins_35 : decode cX12_begins 35 = .ok (.goto (-21), 3) := by decide +kernel
theorem dX12_begins_38 : decode cX12_begins 38 = .ok (.iconst 0, 1) := by decide +kernel
theorem dX12_begins_39 : decode cX12_begins 39 = .ok (.istore_n 1, 1) := by decide +kernel
theorem dX12_begins_40 : decode cX12_begins 40 = .ok (.iload_n 1, 1) := by decide +kernel
theorem dX12_begins_41 : decode cX12_begins 41 = .ok (.iconst 4, 1) := by decide +kernel
theorem dX12_begins_42 : decode cX12_begins 42 = .ok (.if_icmp .ge 16, 3) := by decide +kernel
theorem dX12_begins_45 : decode cX12_begins 45 = .ok (.aload_n 0, 1) := by decide +kernel
theorem dX12_begins_46 : decode cX12_begins 46 = .ok (.getfield 92, 3) := by decide +kernel
theorem dX12_begins_49 : decode cX12_begins 49 = .ok (.iload_n 1, 1) := by decide +kernel
theorem dX12_begins_50 : decode cX12_begins 50 = .ok (.iconst 0, 1) := by decide +kernel
theorem dX12_begins_51 : decode cX12_begins 51 = .ok (.iastore, 1) := by decide +kernel
theorem dX12_begins_52 : decode cX12_begins 52 = .ok (.iinc 1 1, 3) := by decide +kernel
theorem dX12_begins_55 : decode cX12_begins 55 = .ok (.goto (-15), 3) := by decide +kernel
theorem dX12_begins_58 : decode cX12_begins 58 = .ok (.return_, 1) := by decide +kernel
theorem dX12_adds_0 : decode cX12_adds 0 = .ok (.lload_n 1, 1) := by decide +kernel
theorem dX12_adds_1 : decode cX12_adds 1 = .ok (.lstore_n 3, 1) := by decide +kernel
theorem dX12_adds_2 : decode cX12_adds 2 = .ok (.aload_n 0, 1) := by decide +kernel
theorem dX12_adds_3 : decode cX12_adds 3 = .ok (.getfield 226, 3) := by decide +kernel
theorem dX12_adds_6 : decode cX12_adds 6 = .ok (.iconst 3, 1) := by decide +kernel
theorem dX12_adds_7 : decode cX12_adds 7 = .ok (.iadd, 1) := by decide +kernel
theorem dX12_adds_8 : decode cX12_adds 8 = .ok (.istore 5, 2) := by decide +kernel
theorem dX12_adds_10 : decode cX12_adds 10 = .ok (.iload 5, 2) := by decide +kernel
theorem dX12_adds_12 : decode cX12_adds 12 = .ok (.ifCond .lt 44, 3) := by decide +kernel
theorem dX12_adds_15 : decode cX12_adds 15 = .ok (.lload_n 3, 1) := by decide +kernel
theorem dX12_adds_16 : decode cX12_adds 16 = .ok (.lconst 0, 1) := by decide +kernel
theorem dX12_adds_17 : decode cX12_adds 17 = .ok (.lcmp, 1) := by decide +kernel
theorem dX12_adds_18 : decode cX12_adds 18 = .ok (.ifCond .le 38, 3) := by decide +kernel
theorem dX12_adds_21 : decode cX12_adds 21 = .ok (.lload_n 3, 1) := by decide +kernel
theorem dX12_adds_22 : decode cX12_adds 22 = .ok (.aload_n 0, 1) := by decide +kernel
theorem dX12_adds_23 : decode cX12_adds 23 = .ok (.getfield 92, 3) := by decide +kernel
theorem dX12_adds_26 : decode cX12_adds 26 = .ok (.iload 5, 2) := by decide +kernel
theorem dX12_adds_28 : decode cX12_adds 28 = .ok (.iaload, 1) := by decide +kernel
theorem dX12_adds_29 : decode cX12_adds 29 = .ok (.i2l, 1) := by decide +kernel
theorem dX12_adds_30 : decode cX12_adds 30 = .ok (.ladd, 1) := by decide +kernel
theorem dX12_adds_31 : decode cX12_adds 31 = .ok (.lstore_n 3, 1) := by decide +kernel
theorem dX12_adds_32 : decode cX12_adds 32 = .ok (.aload_n 0, 1) := by decide +kernel
theorem dX12_adds_33 : decode cX12_adds 33 = .ok (.getfield 92, 3) := by decide +kernel
theorem dX12_adds_36 : decode cX12_adds 36 = .ok (.iload 5, 2) := by decide +kernel
theorem dX12_adds_38 : decode cX12_adds 38 = .ok (.lload_n 3, 1) := by decide +kernel
theorem dX12_adds_39 : decode cX12_adds 39 = .ok (.ldc2_w 229, 3) := by decide +kernel
theorem dX12_adds_42 : decode cX12_adds 42 = .ok (.land, 1) := by decide +kernel
theorem dX12_adds_43 : decode cX12_adds 43 = .ok (.l2i, 1) := by decide +kernel
theorem dX12_adds_44 : decode cX12_adds 44 = .ok (.iastore, 1) := by decide +kernel
theorem dX12_adds_45 : decode cX12_adds 45 = .ok (.lload_n 3, 1) := by decide +kernel
theorem dX12_adds_46 : decode cX12_adds 46 = .ok (.bipush 8, 2) := by decide +kernel
theorem dX12_adds_48 : decode cX12_adds 48 = .ok (.lshr, 1) := by decide +kernel
theorem dX12_adds_49 : decode cX12_adds 49 = .ok (.lstore_n 3, 1) := by decide +kernel
theorem dX12_adds_50 : decode cX12_adds 50 = .ok (.iinc 5 (-1), 3) := by decide +kernel
theorem dX12_adds_53 : decode cX12_adds 53 = .ok (.goto (-43), 3) := by decide +kernel
theorem dX12_adds_56 : decode cX12_adds 56 = .ok (.return_, 1) := by decide +kernel
theorem dX12_widens_0 : decode cX12_widens 0 = .ok (.aload_n 0, 1) := by decide +kernel
theorem dX12_widens_1 : decode cX12_widens 1 = .ok (.getfield 222, 3) := by decide +kernel
theorem dX12_widens_4 : decode cX12_widens 4 = .ok (.ldc2_w 231, 3) := by decide +kernel
theorem dX12_widens_7 : decode cX12_widens 7 = .ok (.lcmp, 1) := by decide +kernel
theorem dX12_widens_8 : decode cX12_widens 8 = .ok (.ifCond .ge 40, 3) := by decide +kernel
theorem dX12_widens_11 : decode cX12_widens 11 = .ok (.aload_n 0, 1) := by decide +kernel
theorem dX12_widens_12 : decode cX12_widens 12 = .ok (.dup, 1) := by decide +kernel
theorem dX12_widens_13 : decode cX12_widens 13 = .ok (.getfield 222, 3) := by decide +kernel
theorem dX12_widens_16 : decode cX12_widens 16 = .ok (.ldc2_w 233, 3) := by decide +kernel
theorem dX12_widens_19 : decode cX12_widens 19 = .ok (.lmul, 1) := by decide +kernel
theorem dX12_widens_20 : decode cX12_widens 20 = .ok (.putfield 222, 3) := by decide +kernel
theorem dX12_widens_23 : decode cX12_widens 23 = .ok (.aload_n 0, 1) := by decide +kernel
theorem dX12_widens_24 : decode cX12_widens 24 = .ok (.getfield 92, 3) := by decide +kernel
theorem dX12_widens_27 : decode cX12_widens 27 = .ok (.aload_n 0, 1) := by decide +kernel
theorem dX12_widens_28 : decode cX12_widens 28 = .ok (.getfield 226, 3) := by decide +kernel
theorem dX12_widens_31 : decode cX12_widens 31 = .ok (.iconst 4, 1) := by decide +kernel
theorem dX12_widens_32 : decode cX12_widens 32 = .ok (.iadd, 1) := by decide +kernel
theorem dX12_widens_33 : decode cX12_widens 33 = .ok (.iconst 0, 1) := by decide +kernel
theorem dX12_widens_34 : decode cX12_widens 34 = .ok (.iastore, 1) := by decide +kernel
theorem dX12_widens_35 : decode cX12_widens 35 = .ok (.aload_n 0, 1) := by decide +kernel
theorem dX12_widens_36 : decode cX12_widens 36 = .ok (.dup, 1) := by decide +kernel
theorem dX12_widens_37 : decode cX12_widens 37 = .ok (.getfield 226, 3) := by decide +kernel
theorem dX12_widens_40 : decode cX12_widens 40 = .ok (.iconst 1, 1) := by decide +kernel
theorem dX12_widens_41 : decode cX12_widens 41 = .ok (.iadd, 1) := by decide +kernel
theorem dX12_widens_42 : decode cX12_widens 42 = .ok (.putfield 226, 3) := by decide +kernel
theorem dX12_widens_45 : decode cX12_widens 45 = .ok (.goto (-45), 3) := by decide +kernel
theorem dX12_widens_48 : decode cX12_widens 48 = .ok (.return_, 1) := by decide +kernel
theorem dX12_says_0 : decode cX12_says 0 = .ok (.aload_n 0, 1) := by decide +kernel
theorem dX12_says_1 : decode cX12_says 1 = .ok (.getfield 222, 3) := by decide +kernel
theorem dX12_says_4 : decode cX12_says 4 = .ok (.ldc2_w 235, 3) := by decide +kernel
theorem dX12_says_7 : decode cX12_says 7 = .ok (.ldiv, 1) := by decide +kernel
theorem dX12_says_8 : decode cX12_says 8 = .ok (.aload_n 0, 1) := by decide +kernel
theorem dX12_says_9 : decode cX12_says 9 = .ok (.getfield 95, 3) := by decide +kernel
theorem dX12_says_12 : decode cX12_says 12 = .ok (.iload_n 1, 1) := by decide +kernel
theorem dX12_says_13 : decode cX12_says 13 = .ok (.iaload, 1) := by decide +kernel
theorem dX12_says_14 : decode cX12_says 14 = .ok (.i2l, 1) := by decide +kernel
theorem dX12_says_15 : decode cX12_says 15 = .ok (.lmul, 1) := by decide +kernel
theorem dX12_says_16 : decode cX12_says 16 = .ok (.lstore_n 3, 1) := by decide +kernel
theorem dX12_says_17 : decode cX12_says 17 = .ok (.iload_n 2, 1) := by decide +kernel
theorem dX12_says_18 : decode cX12_says 18 = .ok (.ifCond .eq 39, 3) := by decide +kernel
theorem dX12_says_21 : decode cX12_says 21 = .ok (.aload_n 0, 1) := by decide +kernel
theorem dX12_says_22 : decode cX12_says 22 = .ok (.lload_n 3, 1) := by decide +kernel
theorem dX12_says_23 : decode cX12_says 23 = .ok (.invokevirtual 237, 3) := by decide +kernel
theorem dX12_says_26 : decode cX12_says 26 = .ok (.aload_n 0, 1) := by decide +kernel
theorem dX12_says_27 : decode cX12_says 27 = .ok (.dup, 1) := by decide +kernel
theorem dX12_says_28 : decode cX12_says 28 = .ok (.getfield 222, 3) := by decide +kernel
theorem dX12_says_31 : decode cX12_says 31 = .ok (.lload_n 3, 1) := by decide +kernel
theorem dX12_says_32 : decode cX12_says 32 = .ok (.lsub, 1) := by decide +kernel
theorem dX12_says_33 : decode cX12_says 33 = .ok (.putfield 222, 3) := by decide +kernel
theorem dX12_says_36 : decode cX12_says 36 = .ok (.aload_n 0, 1) := by decide +kernel
theorem dX12_says_37 : decode cX12_says 37 = .ok (.getfield 95, 3) := by decide +kernel
theorem dX12_says_40 : decode cX12_says 40 = .ok (.iload_n 1, 1) := by decide +kernel
theorem dX12_says_41 : decode cX12_says 41 = .ok (.dup2, 1) := by decide +kernel
theorem dX12_says_42 : decode cX12_says 42 = .ok (.iaload, 1) := by decide +kernel
theorem dX12_says_43 : decode cX12_says 43 = .ok (.aload_n 0, 1) := by decide +kernel
theorem dX12_says_44 : decode cX12_says 44 = .ok (.getfield 95, 3) := by decide +kernel
theorem dX12_says_47 : decode cX12_says 47 = .ok (.iload_n 1, 1) := by decide +kernel
theorem dX12_says_48 : decode cX12_says 48 = .ok (.iaload, 1) := by decide +kernel
theorem dX12_says_49 : decode cX12_says 49 = .ok (.bipush 32, 2) := by decide +kernel
theorem dX12_says_51 : decode cX12_says 51 = .ok (.idiv, 1) := by decide +kernel
theorem dX12_says_52 : decode cX12_says 52 = .ok (.isub, 1) := by decide +kernel
theorem dX12_says_53 : decode cX12_says 53 = .ok (.iastore, 1) := by decide +kernel
theorem dX12_says_54 : decode cX12_says 54 = .ok (.goto 30, 3) := by decide +kernel
theorem dX12_says_57 : decode cX12_says 57 = .ok (.aload_n 0, 1) := by decide +kernel
theorem dX12_says_58 : decode cX12_says 58 = .ok (.lload_n 3, 1) := by decide +kernel
theorem dX12_says_59 : decode cX12_says 59 = .ok (.putfield 222, 3) := by decide +kernel
theorem dX12_says_62 : decode cX12_says 62 = .ok (.aload_n 0, 1) := by decide +kernel
theorem dX12_says_63 : decode cX12_says 63 = .ok (.getfield 95, 3) := by decide +kernel
theorem dX12_says_66 : decode cX12_says 66 = .ok (.iload_n 1, 1) := by decide +kernel
theorem dX12_says_67 : decode cX12_says 67 = .ok (.dup2, 1) := by decide +kernel
theorem dX12_says_68 : decode cX12_says 68 = .ok (.iaload, 1) := by decide +kernel
theorem dX12_says_69 : decode cX12_says 69 = .ok (.sipush 2048, 3) := by decide +kernel
theorem dX12_says_72 : decode cX12_says 72 = .ok (.aload_n 0, 1) := by decide +kernel
theorem dX12_says_73 : decode cX12_says 73 = .ok (.getfield 95, 3) := by decide +kernel
theorem dX12_says_76 : decode cX12_says 76 = .ok (.iload_n 1, 1) := by decide +kernel
theorem dX12_says_77 : decode cX12_says 77 = .ok (.iaload, 1) := by decide +kernel
theorem dX12_says_78 : decode cX12_says 78 = .ok (.isub, 1) := by decide +kernel
theorem dX12_says_79 : decode cX12_says 79 = .ok (.bipush 32, 2) := by decide +kernel
theorem dX12_says_81 : decode cX12_says 81 = .ok (.idiv, 1) := by decide +kernel
theorem dX12_says_82 : decode cX12_says 82 = .ok (.iadd, 1) := by decide +kernel
theorem dX12_says_83 : decode cX12_says 83 = .ok (.iastore, 1) := by decide +kernel
theorem dX12_says_84 : decode cX12_says 84 = .ok (.aload_n 0, 1) := by decide +kernel
theorem dX12_says_85 : decode cX12_says 85 = .ok (.invokevirtual 241, 3) := by decide +kernel
theorem dX12_says_88 : decode cX12_says 88 = .ok (.return_, 1) := by decide +kernel
theorem dX12_saysPlain_0 : decode cX12_saysPlain 0 = .ok (.aload_n 0, 1) := by decide +kernel
theorem dX12_saysPlain_1 : decode cX12_saysPlain 1 = .ok (.dup, 1) := by decide +kernel
theorem dX12_saysPlain_2 : decode cX12_saysPlain 2 = .ok (.getfield 222, 3) := by decide +kernel
theorem dX12_saysPlain_5 : decode cX12_saysPlain 5 = .ok (.ldc2_w 244, 3) := by decide +kernel
theorem dX12_saysPlain_8 : decode cX12_saysPlain 8 = .ok (.ldiv, 1) := by decide +kernel
theorem dX12_saysPlain_9 : decode cX12_saysPlain 9 = .ok (.putfield 222, 3) := by decide +kernel
theorem dX12_saysPlain_12 : decode cX12_saysPlain 12 = .ok (.iload_n 1, 1) := by decide +kernel
theorem dX12_saysPlain_13 : decode cX12_saysPlain 13 = .ok (.ifCond .eq 11, 3) := by decide +kernel
theorem dX12_saysPlain_16 : decode cX12_saysPlain 16 = .ok (.aload_n 0, 1) := by decide +kernel
theorem dX12_saysPlain_17 : decode cX12_saysPlain 17 = .ok (.aload_n 0, 1) := by decide +kernel
theorem dX12_saysPlain_18 : decode cX12_saysPlain 18 = .ok (.getfield 222, 3) := by decide +kernel
theorem dX12_saysPlain_21 : decode cX12_saysPlain 21 = .ok (.invokevirtual 237, 3) := by decide +kernel
theorem dX12_saysPlain_24 : decode cX12_saysPlain 24 = .ok (.aload_n 0, 1) := by decide +kernel
theorem dX12_saysPlain_25 : decode cX12_saysPlain 25 = .ok (.invokevirtual 241, 3) := by decide +kernel
theorem dX12_saysPlain_28 : decode cX12_saysPlain 28 = .ok (.return_, 1) := by decide +kernel
theorem dX12_saysNumber_0 : decode cX12_saysNumber 0 = .ok (.iconst 0, 1) := by decide +kernel
theorem dX12_saysNumber_1 : decode cX12_saysNumber 1 = .ok (.istore_n 3, 1) := by decide +kernel
theorem dX12_saysNumber_2 : decode cX12_saysNumber 2 = .ok (.iload_n 3, 1) := by decide +kernel
theorem dX12_saysNumber_3 : decode cX12_saysNumber 3 = .ok (.bipush 12, 2) := by decide +kernel
theorem dX12_saysNumber_5 : decode cX12_saysNumber 5 = .ok (.if_icmp .ge 36, 3) := by decide +kernel
theorem dX12_saysNumber_8 : decode cX12_saysNumber 8 = .ok (.aload_n 0, 1) := by decide +kernel
theorem dX12_saysNumber_9 : decode cX12_saysNumber 9 = .ok (.iload_n 1, 1) := by decide +kernel
theorem dX12_saysNumber_10 : decode cX12_saysNumber 10 = .ok (.iload_n 3, 1) := by decide +kernel
theorem dX12_saysNumber_11 : decode cX12_saysNumber 11 = .ok (.iconst 5, 1) := by decide +kernel
theorem dX12_saysNumber_12 : decode cX12_saysNumber 12 = .ok (.invokestatic 3, 3) := by decide +kernel
theorem dX12_saysNumber_15 : decode cX12_saysNumber 15 = .ok (.iadd, 1) := by decide +kernel
theorem dX12_saysNumber_16 : decode cX12_saysNumber 16 = .ok (.iload_n 2, 1) := by decide +kernel
theorem dX12_saysNumber_17 : decode cX12_saysNumber 17 = .ok (.iload_n 3, 1) := by decide +kernel
theorem dX12_saysNumber_18 : decode cX12_saysNumber 18 = .ok (.if_icmp .le 7, 3) := by decide +kernel
theorem dX12_saysNumber_21 : decode cX12_saysNumber 21 = .ok (.iconst 1, 1) := by decide +kernel
theorem dX12_saysNumber_22 : decode cX12_saysNumber 22 = .ok (.goto 4, 3) := by decide +kernel
theorem dX12_saysNumber_25 : decode cX12_saysNumber 25 = .ok (.iconst 0, 1) := by decide +kernel
theorem dX12_saysNumber_26 : decode cX12_saysNumber 26 = .ok (.invokevirtual 246, 3) := by decide +kernel
theorem dX12_saysNumber_29 : decode cX12_saysNumber 29 = .ok (.iload_n 2, 1) := by decide +kernel
theorem dX12_saysNumber_30 : decode cX12_saysNumber 30 = .ok (.iload_n 3, 1) := by decide +kernel
theorem dX12_saysNumber_31 : decode cX12_saysNumber 31 = .ok (.if_icmp .gt 4, 3) := by decide +kernel
theorem dX12_saysNumber_34 : decode cX12_saysNumber 34 = .ok (.return_, 1) := by decide +kernel
theorem dX12_saysNumber_35 : decode cX12_saysNumber 35 = .ok (.iinc 3 1, 3) := by decide +kernel
theorem dX12_saysNumber_38 : decode cX12_saysNumber 38 = .ok (.goto (-36), 3) := by decide +kernel
theorem dX12_saysNumber_41 : decode cX12_saysNumber 41 = .ok (.iload_n 2, 1) := by decide +kernel
theorem dX12_saysNumber_42 : decode cX12_saysNumber 42 = .ok (.bipush 11, 2) := by decide +kernel
theorem dX12_saysNumber_44 : decode cX12_saysNumber 44 = .ok (.isub, 1) := by decide +kernel
theorem dX12_saysNumber_45 : decode cX12_saysNumber 45 = .ok (.istore_n 3, 1) := by decide +kernel
theorem dX12_saysNumber_46 : decode cX12_saysNumber 46 = .ok (.iconst 0, 1) := by decide +kernel
theorem dX12_saysNumber_47 : decode cX12_saysNumber 47 = .ok (.istore 4, 2) := by decide +kernel
theorem dX12_saysNumber_49 : decode cX12_saysNumber 49 = .ok (.iload_n 3, 1) := by decide +kernel
theorem dX12_saysNumber_50 : decode cX12_saysNumber 50 = .ok (.iload 4, 2) := by decide +kernel
theorem dX12_saysNumber_52 : decode cX12_saysNumber 52 = .ok (.ishr, 1) := by decide +kernel
theorem dX12_saysNumber_53 : decode cX12_saysNumber 53 = .ok (.iconst 1, 1) := by decide +kernel
theorem dX12_saysNumber_54 : decode cX12_saysNumber 54 = .ok (.if_icmp .le 9, 3) := by decide +kernel
theorem dX12_saysNumber_57 : decode cX12_saysNumber 57 = .ok (.iinc 4 1, 3) := by decide +kernel
theorem dX12_saysNumber_60 : decode cX12_saysNumber 60 = .ok (.goto (-11), 3) := by decide +kernel
theorem dX12_saysNumber_63 : decode cX12_saysNumber 63 = .ok (.iconst 0, 1) := by decide +kernel
theorem dX12_saysNumber_64 : decode cX12_saysNumber 64 = .ok (.istore 5, 2) := by decide +kernel
theorem dX12_saysNumber_66 : decode cX12_saysNumber 66 = .ok (.iload 5, 2) := by decide +kernel
theorem dX12_saysNumber_68 : decode cX12_saysNumber 68 = .ok (.iload 4, 2) := by decide +kernel
theorem dX12_saysNumber_70 : decode cX12_saysNumber 70 = .ok (.if_icmp .ge 14, 3) := by decide +kernel
theorem dX12_saysNumber_73 : decode cX12_saysNumber 73 = .ok (.aload_n 0, 1) := by decide +kernel
theorem dX12_saysNumber_74 : decode cX12_saysNumber 74 = .ok (.iconst 1, 1) := by decide +kernel
theorem dX12_saysNumber_75 : decode cX12_saysNumber 75 = .ok (.invokevirtual 250, 3) := by decide +kernel
theorem dX12_saysNumber_78 : decode cX12_saysNumber 78 = .ok (.iinc 5 1, 3) := by decide +kernel
theorem dX12_saysNumber_81 : decode cX12_saysNumber 81 = .ok (.goto (-15), 3) := by decide +kernel
theorem dX12_saysNumber_84 : decode cX12_saysNumber 84 = .ok (.aload_n 0, 1) := by decide +kernel
theorem dX12_saysNumber_85 : decode cX12_saysNumber 85 = .ok (.iconst 0, 1) := by decide +kernel
theorem dX12_saysNumber_86 : decode cX12_saysNumber 86 = .ok (.invokevirtual 250, 3) := by decide +kernel
theorem dX12_saysNumber_89 : decode cX12_saysNumber 89 = .ok (.iload 4, 2) := by decide +kernel
theorem dX12_saysNumber_91 : decode cX12_saysNumber 91 = .ok (.iconst 1, 1) := by decide +kernel
theorem dX12_saysNumber_92 : decode cX12_saysNumber 92 = .ok (.isub, 1) := by decide +kernel
theorem dX12_saysNumber_93 : decode cX12_saysNumber 93 = .ok (.istore 5, 2) := by decide +kernel
theorem dX12_saysNumber_95 : decode cX12_saysNumber 95 = .ok (.iload 5, 2) := by decide +kernel
theorem dX12_saysNumber_97 : decode cX12_saysNumber 97 = .ok (.ifCond .lt 28, 3) := by decide +kernel
theorem dX12_saysNumber_100 : decode cX12_saysNumber 100 = .ok (.aload_n 0, 1) := by decide +kernel
theorem dX12_saysNumber_101 : decode cX12_saysNumber 101 = .ok (.iload_n 3, 1) := by decide +kernel
theorem dX12_saysNumber_102 : decode cX12_saysNumber 102 = .ok (.iload 5, 2) := by decide +kernel
theorem dX12_saysNumber_104 : decode cX12_saysNumber 104 = .ok (.ishr, 1) := by decide +kernel
theorem dX12_saysNumber_105 : decode cX12_saysNumber 105 = .ok (.iconst 1, 1) := by decide +kernel
theorem dX12_saysNumber_106 : decode cX12_saysNumber 106 = .ok (.iand, 1) := by decide +kernel
theorem dX12_saysNumber_107 : decode cX12_saysNumber 107 = .ok (.iconst 1, 1) := by decide +kernel
theorem dX12_saysNumber_108 : decode cX12_saysNumber 108 = .ok (.if_icmp .ne 7, 3) := by decide +kernel
theorem dX12_saysNumber_111 : decode cX12_saysNumber 111 = .ok (.iconst 1, 1) := by decide +kernel
theorem dX12_saysNumber_112 : decode cX12_saysNumber 112 = .ok (.goto 4, 3) := by decide +kernel
theorem dX12_saysNumber_115 : decode cX12_saysNumber 115 = .ok (.iconst 0, 1) := by decide +kernel
theorem dX12_saysNumber_116 : decode cX12_saysNumber 116 = .ok (.invokevirtual 250, 3) := by decide +kernel
theorem dX12_saysNumber_119 : decode cX12_saysNumber 119 = .ok (.iinc 5 (-1), 3) := by decide +kernel
theorem dX12_saysNumber_122 : decode cX12_saysNumber 122 = .ok (.goto (-27), 3) := by decide +kernel
theorem dX12_saysNumber_125 : decode cX12_saysNumber 125 = .ok (.return_, 1) := by decide +kernel
theorem dX12_saysVector_0 : decode cX12_saysVector 0 = .ok (.iload_n 2, 1) := by decide +kernel
theorem dX12_saysVector_1 : decode cX12_saysVector 1 = .ok (.istore_n 3, 1) := by decide +kernel
theorem dX12_saysVector_2 : decode cX12_saysVector 2 = .ok (.iload_n 3, 1) := by decide +kernel
theorem dX12_saysVector_3 : decode cX12_saysVector 3 = .ok (.iload_n 2, 1) := by decide +kernel
theorem dX12_saysVector_4 : decode cX12_saysVector 4 = .ok (.iconst 2, 1) := by decide +kernel
theorem dX12_saysVector_5 : decode cX12_saysVector 5 = .ok (.iadd, 1) := by decide +kernel
theorem dX12_saysVector_6 : decode cX12_saysVector 6 = .ok (.if_icmp .ge 74, 3) := by decide +kernel
theorem dX12_saysVector_9 : decode cX12_saysVector 9 = .ok (.aload_n 0, 1) := by decide +kernel
theorem dX12_saysVector_10 : decode cX12_saysVector 10 = .ok (.getfield 168, 3) := by decide +kernel
theorem dX12_saysVector_13 : decode cX12_saysVector 13 = .ok (.iconst 4, 1) := by decide +kernel
theorem dX12_saysVector_14 : decode cX12_saysVector 14 = .ok (.iload_n 1, 1) := by decide +kernel
theorem dX12_saysVector_15 : decode cX12_saysVector 15 = .ok (.imul, 1) := by decide +kernel
theorem dX12_saysVector_16 : decode cX12_saysVector 16 = .ok (.iload_n 3, 1) := by decide +kernel
theorem dX12_saysVector_17 : decode cX12_saysVector 17 = .ok (.iadd, 1) := by decide +kernel
theorem dX12_saysVector_18 : decode cX12_saysVector 18 = .ok (.iaload, 1) := by decide +kernel
theorem dX12_saysVector_19 : decode cX12_saysVector 19 = .ok (.aload_n 0, 1) := by decide +kernel
theorem dX12_saysVector_20 : decode cX12_saysVector 20 = .ok (.getfield 98, 3) := by decide +kernel
theorem dX12_saysVector_23 : decode cX12_saysVector 23 = .ok (.iload_n 3, 1) := by decide +kernel
theorem dX12_saysVector_24 : decode cX12_saysVector 24 = .ok (.iaload, 1) := by decide +kernel
theorem dX12_saysVector_25 : decode cX12_saysVector 25 = .ok (.isub, 1) := by decide +kernel
theorem dX12_saysVector_26 : decode cX12_saysVector 26 = .ok (.istore 4, 2) := by decide +kernel
theorem dX12_saysVector_28 : decode cX12_saysVector 28 = .ok (.aload_n 0, 1) := by decide +kernel
theorem dX12_saysVector_29 : decode cX12_saysVector 29 = .ok (.bipush 8, 2) := by decide +kernel
theorem dX12_saysVector_31 : decode cX12_saysVector 31 = .ok (.iload 4, 2) := by decide +kernel
theorem dX12_saysVector_33 : decode cX12_saysVector 33 = .ok (.invokestatic 175, 3) := by decide +kernel
theorem dX12_saysVector_36 : decode cX12_saysVector 36 = .ok (.invokevirtual 254, 3) := by decide +kernel
theorem dX12_saysVector_39 : decode cX12_saysVector 39 = .ok (.iload 4, 2) := by decide +kernel
theorem dX12_saysVector_41 : decode cX12_saysVector 41 = .ok (.ifCond .eq 17, 3) := by decide +kernel
theorem dX12_saysVector_44 : decode cX12_saysVector 44 = .ok (.aload_n 0, 1) := by decide +kernel
theorem dX12_saysVector_45 : decode cX12_saysVector 45 = .ok (.iload 4, 2) := by decide +kernel
theorem dX12_saysVector_47 : decode cX12_saysVector 47 = .ok (.ifCond .ge 7, 3) := by decide +kernel
theorem dX12_saysVector_50 : decode cX12_saysVector 50 = .ok (.iconst 1, 1) := by decide +kernel
theorem dX12_saysVector_51 : decode cX12_saysVector 51 = .ok (.goto 4, 3) := by decide +kernel
theorem dX12_saysVector_54 : decode cX12_saysVector 54 = .ok (.iconst 0, 1) := by decide +kernel
theorem dX12_saysVector_55 : decode cX12_saysVector 55 = .ok (.invokevirtual 250, 3) := by decide +kernel
theorem dX12_saysVector_58 : decode cX12_saysVector 58 = .ok (.aload_n 0, 1) := by decide +kernel
theorem dX12_saysVector_59 : decode cX12_saysVector 59 = .ok (.getfield 98, 3) := by decide +kernel
theorem dX12_saysVector_62 : decode cX12_saysVector 62 = .ok (.iload_n 3, 1) := by decide +kernel
theorem dX12_saysVector_63 : decode cX12_saysVector 63 = .ok (.aload_n 0, 1) := by decide +kernel
theorem dX12_saysVector_64 : decode cX12_saysVector 64 = .ok (.getfield 168, 3) := by decide +kernel
theorem dX12_saysVector_67 : decode cX12_saysVector 67 = .ok (.iconst 4, 1) := by decide +kernel
theorem dX12_saysVector_68 : decode cX12_saysVector 68 = .ok (.iload_n 1, 1) := by decide +kernel
theorem dX12_saysVector_69 : decode cX12_saysVector 69 = .ok (.imul, 1) := by decide +kernel
theorem dX12_saysVector_70 : decode cX12_saysVector 70 = .ok (.iload_n 3, 1) := by decide +kernel
theorem dX12_saysVector_71 : decode cX12_saysVector 71 = .ok (.iadd, 1) := by decide +kernel
theorem dX12_saysVector_72 : decode cX12_saysVector 72 = .ok (.iaload, 1) := by decide +kernel
theorem dX12_saysVector_73 : decode cX12_saysVector 73 = .ok (.iastore, 1) := by decide +kernel
theorem dX12_saysVector_74 : decode cX12_saysVector 74 = .ok (.iinc 3 1, 3) := by decide +kernel
theorem dX12_saysVector_77 : decode cX12_saysVector 77 = .ok (.goto (-75), 3) := by decide +kernel
theorem dX12_saysVector_80 : decode cX12_saysVector 80 = .ok (.return_, 1) := by decide +kernel
theorem dX12_saysMode_0 : decode cX12_saysMode 0 = .ok (.aload_n 0, 1) := by decide +kernel
theorem dX12_saysMode_1 : decode cX12_saysMode 1 = .ok (.getfield 258, 3) := by decide +kernel
theorem dX12_saysMode_4 : decode cX12_saysMode 4 = .ok (.iload_n 1, 1) := by decide +kernel
theorem dX12_saysMode_5 : decode cX12_saysMode 5 = .ok (.iaload, 1) := by decide +kernel
theorem dX12_saysMode_6 : decode cX12_saysMode 6 = .ok (.istore_n 2, 1) := by decide +kernel
theorem dX12_saysMode_7 : decode cX12_saysMode 7 = .ok (.aload_n 0, 1) := by decide +kernel
theorem dX12_saysMode_8 : decode cX12_saysMode 8 = .ok (.getfield 189, 3) := by decide +kernel
theorem dX12_saysMode_11 : decode cX12_saysMode 11 = .ok (.bipush 105, 2) := by decide +kernel
theorem dX12_saysMode_13 : decode cX12_saysMode 13 = .ok (.if_icmp .eq 18, 3) := by decide +kernel
theorem dX12_saysMode_16 : decode cX12_saysMode 16 = .ok (.aload_n 0, 1) := by decide +kernel
theorem dX12_saysMode_17 : decode cX12_saysMode 17 = .ok (.iconst 1, 1) := by decide +kernel
theorem dX12_saysMode_18 : decode cX12_saysMode 18 = .ok (.iload_n 2, 1) := by decide +kernel
theorem dX12_saysMode_19 : decode cX12_saysMode 19 = .ok (.iconst 3, 1) := by decide +kernel
theorem dX12_saysMode_20 : decode cX12_saysMode 20 = .ok (.if_icmp .le 7, 3) := by decide +kernel
theorem dX12_saysMode_23 : decode cX12_saysMode 23 = .ok (.iconst 1, 1) := by decide +kernel
theorem dX12_saysMode_24 : decode cX12_saysMode 24 = .ok (.goto 4, 3) := by decide +kernel
theorem dX12_saysMode_27 : decode cX12_saysMode 27 = .ok (.iconst 0, 1) := by decide +kernel
theorem dX12_saysMode_28 : decode cX12_saysMode 28 = .ok (.invokevirtual 246, 3) := by decide +kernel
theorem dX12_saysMode_31 : decode cX12_saysMode 31 = .ok (.iload_n 2, 1) := by decide +kernel
theorem dX12_saysMode_32 : decode cX12_saysMode 32 = .ok (.iconst 3, 1) := by decide +kernel
theorem dX12_saysMode_33 : decode cX12_saysMode 33 = .ok (.if_icmp .le 74, 3) := by decide +kernel
theorem dX12_saysMode_36 : decode cX12_saysMode 36 = .ok (.aload_n 0, 1) := by decide +kernel
theorem dX12_saysMode_37 : decode cX12_saysMode 37 = .ok (.getfield 189, 3) := by decide +kernel
theorem dX12_saysMode_40 : decode cX12_saysMode 40 = .ok (.bipush 98, 2) := by decide +kernel
theorem dX12_saysMode_42 : decode cX12_saysMode 42 = .ok (.if_icmp .ne 40, 3) := by decide +kernel
theorem dX12_saysMode_45 : decode cX12_saysMode 45 = .ok (.aload_n 0, 1) := by decide +kernel
theorem dX12_saysMode_46 : decode cX12_saysMode 46 = .ok (.iconst 2, 1) := by decide +kernel
theorem dX12_saysMode_47 : decode cX12_saysMode 47 = .ok (.iload_n 2, 1) := by decide +kernel
theorem dX12_saysMode_48 : decode cX12_saysMode 48 = .ok (.bipush 6, 2) := by decide +kernel
theorem dX12_saysMode_50 : decode cX12_saysMode 50 = .ok (.if_icmp .ne 7, 3) := by decide +kernel
theorem dX12_saysMode_53 : decode cX12_saysMode 53 = .ok (.iconst 1, 1) := by decide +kernel
theorem dX12_saysMode_54 : decode cX12_saysMode 54 = .ok (.goto 4, 3) := by decide +kernel
theorem dX12_saysMode_57 : decode cX12_saysMode 57 = .ok (.iconst 0, 1) := by decide +kernel
theorem dX12_saysMode_58 : decode cX12_saysMode 58 = .ok (.invokevirtual 246, 3) := by decide +kernel
theorem dX12_saysMode_61 : decode cX12_saysMode 61 = .ok (.iload_n 2, 1) := by decide +kernel
theorem dX12_saysMode_62 : decode cX12_saysMode 62 = .ok (.bipush 6, 2) := by decide +kernel
theorem dX12_saysMode_64 : decode cX12_saysMode 64 = .ok (.if_icmp .eq 18, 3) := by decide +kernel
theorem dX12_saysMode_67 : decode cX12_saysMode 67 = .ok (.aload_n 0, 1) := by decide +kernel
theorem dX12_saysMode_68 : decode cX12_saysMode 68 = .ok (.iconst 3, 1) := by decide +kernel
theorem dX12_saysMode_69 : decode cX12_saysMode 69 = .ok (.iload_n 2, 1) := by decide +kernel
theorem dX12_saysMode_70 : decode cX12_saysMode 70 = .ok (.iconst 5, 1) := by decide +kernel
theorem dX12_saysMode_71 : decode cX12_saysMode 71 = .ok (.if_icmp .ne 7, 3) := by decide +kernel
theorem dX12_saysMode_74 : decode cX12_saysMode 74 = .ok (.iconst 1, 1) := by decide +kernel
theorem dX12_saysMode_75 : decode cX12_saysMode 75 = .ok (.goto 4, 3) := by decide +kernel
theorem dX12_saysMode_78 : decode cX12_saysMode 78 = .ok (.iconst 0, 1) := by decide +kernel
theorem dX12_saysMode_79 : decode cX12_saysMode 79 = .ok (.invokevirtual 246, 3) := by decide +kernel
theorem dX12_saysMode_82 : decode cX12_saysMode 82 = .ok (.iload_n 2, 1) := by decide +kernel
theorem dX12_saysMode_83 : decode cX12_saysMode 83 = .ok (.iconst 5, 1) := by decide +kernel
theorem dX12_saysMode_84 : decode cX12_saysMode 84 = .ok (.if_icmp .eq 9, 3) := by decide +kernel
theorem dX12_saysMode_87 : decode cX12_saysMode 87 = .ok (.aload_n 0, 1) := by decide +kernel
theorem dX12_saysMode_88 : decode cX12_saysMode 88 = .ok (.iload_n 1, 1) := by decide +kernel
theorem dX12_saysMode_89 : decode cX12_saysMode 89 = .ok (.iconst 0, 1) := by decide +kernel
theorem dX12_saysMode_90 : decode cX12_saysMode 90 = .ok (.invokevirtual 261, 3) := by decide +kernel
theorem dX12_saysMode_93 : decode cX12_saysMode 93 = .ok (.iload_n 2, 1) := by decide +kernel
theorem dX12_saysMode_94 : decode cX12_saysMode 94 = .ok (.iconst 4, 1) := by decide +kernel
theorem dX12_saysMode_95 : decode cX12_saysMode 95 = .ok (.if_icmp .eq 54, 3) := by decide +kernel
theorem dX12_saysMode_98 : decode cX12_saysMode 98 = .ok (.aload_n 0, 1) := by decide +kernel
theorem dX12_saysMode_99 : decode cX12_saysMode 99 = .ok (.iload_n 1, 1) := by decide +kernel
theorem dX12_saysMode_100 : decode cX12_saysMode 100 = .ok (.iconst 2, 1) := by decide +kernel
theorem dX12_saysMode_101 : decode cX12_saysMode 101 = .ok (.invokevirtual 261, 3) := by decide +kernel
theorem dX12_saysMode_104 : decode cX12_saysMode 104 = .ok (.goto 45, 3) := by decide +kernel
theorem dX12_saysMode_107 : decode cX12_saysMode 107 = .ok (.aload_n 0, 1) := by decide +kernel
theorem dX12_saysMode_108 : decode cX12_saysMode 108 = .ok (.iconst 4, 1) := by decide +kernel
theorem dX12_saysMode_109 : decode cX12_saysMode 109 = .ok (.iload_n 2, 1) := by decide +kernel
theorem dX12_saysMode_110 : decode cX12_saysMode 110 = .ok (.iconst 1, 1) := by decide +kernel
theorem dX12_saysMode_111 : decode cX12_saysMode 111 = .ok (.if_icmp .le 7, 3) := by decide +kernel
theorem dX12_saysMode_114 : decode cX12_saysMode 114 = .ok (.iconst 1, 1) := by decide +kernel
theorem dX12_saysMode_115 : decode cX12_saysMode 115 = .ok (.goto 4, 3) := by decide +kernel
theorem dX12_saysMode_118 : decode cX12_saysMode 118 = .ok (.iconst 0, 1) := by decide +kernel
theorem dX12_saysMode_119 : decode cX12_saysMode 119 = .ok (.invokevirtual 246, 3) := by decide +kernel
theorem dX12_saysMode_122 : decode cX12_saysMode 122 = .ok (.aload_n 0, 1) := by decide +kernel
theorem dX12_saysMode_123 : decode cX12_saysMode 123 = .ok (.iload_n 2, 1) := by decide +kernel
theorem dX12_saysMode_124 : decode cX12_saysMode 124 = .ok (.iconst 1, 1) := by decide +kernel
theorem dX12_saysMode_125 : decode cX12_saysMode 125 = .ok (.if_icmp .le 8, 3) := by decide +kernel
theorem dX12_saysMode_128 : decode cX12_saysMode 128 = .ok (.bipush 6, 2) := by decide +kernel
theorem dX12_saysMode_130 : decode cX12_saysMode 130 = .ok (.goto 4, 3) := by decide +kernel
theorem dX12_saysMode_133 : decode cX12_saysMode 133 = .ok (.iconst 5, 1) := by decide +kernel
theorem dX12_saysMode_134 : decode cX12_saysMode 134 = .ok (.iload_n 2, 1) := by decide +kernel
theorem dX12_saysMode_135 : decode cX12_saysMode 135 = .ok (.iconst 2, 1) := by decide +kernel
theorem dX12_saysMode_136 : decode cX12_saysMode 136 = .ok (.irem, 1) := by decide +kernel
theorem dX12_saysMode_137 : decode cX12_saysMode 137 = .ok (.iconst 1, 1) := by decide +kernel
theorem dX12_saysMode_138 : decode cX12_saysMode 138 = .ok (.if_icmp .ne 7, 3) := by decide +kernel
theorem dX12_saysMode_141 : decode cX12_saysMode 141 = .ok (.iconst 1, 1) := by decide +kernel
theorem dX12_saysMode_142 : decode cX12_saysMode 142 = .ok (.goto 4, 3) := by decide +kernel
theorem dX12_saysMode_145 : decode cX12_saysMode 145 = .ok (.iconst 0, 1) := by decide +kernel
theorem dX12_saysMode_146 : decode cX12_saysMode 146 = .ok (.invokevirtual 246, 3) := by decide +kernel
theorem dX12_saysMode_149 : decode cX12_saysMode 149 = .ok (.return_, 1) := by decide +kernel
theorem dX12_placeOf_0 : decode cX12_placeOf 0 = .ok (.iload_n 0, 1) := by decide +kernel
theorem dX12_placeOf_1 : decode cX12_placeOf 1 = .ok (.tableswitch 95 2 13 #[63, 65, 68, 70, 72, 74, 77, 80, 83, 86, 89, 92], 63) := by decide +kernel
theorem dX12_placeOf_64 : decode cX12_placeOf 64 = .ok (.iconst 4, 1) := by decide +kernel
theorem dX12_placeOf_65 : decode cX12_placeOf 65 = .ok (.ireturn, 1) := by decide +kernel
theorem dX12_placeOf_66 : decode cX12_placeOf 66 = .ok (.bipush 8, 2) := by decide +kernel
theorem dX12_placeOf_68 : decode cX12_placeOf 68 = .ok (.ireturn, 1) := by decide +kernel
theorem dX12_placeOf_69 : decode cX12_placeOf 69 = .ok (.iconst 5, 1) := by decide +kernel
theorem dX12_placeOf_70 : decode cX12_placeOf 70 = .ok (.ireturn, 1) := by decide +kernel
theorem dX12_placeOf_71 : decode cX12_placeOf 71 = .ok (.iconst 2, 1) := by decide +kernel
theorem dX12_placeOf_72 : decode cX12_placeOf 72 = .ok (.ireturn, 1) := by decide +kernel
theorem dX12_placeOf_73 : decode cX12_placeOf 73 = .ok (.iconst 3, 1) := by decide +kernel
theorem dX12_placeOf_74 : decode cX12_placeOf 74 = .ok (.ireturn, 1) := by decide +kernel
theorem dX12_placeOf_75 : decode cX12_placeOf 75 = .ok (.bipush 6, 2) := by decide +kernel
theorem dX12_placeOf_77 : decode cX12_placeOf 77 = .ok (.ireturn, 1) := by decide +kernel
theorem dX12_placeOf_78 : decode cX12_placeOf 78 = .ok (.bipush 9, 2) := by decide +kernel
theorem dX12_placeOf_80 : decode cX12_placeOf 80 = .ok (.ireturn, 1) := by decide +kernel
theorem dX12_placeOf_81 : decode cX12_placeOf 81 = .ok (.bipush 12, 2) := by decide +kernel
theorem dX12_placeOf_83 : decode cX12_placeOf 83 = .ok (.ireturn, 1) := by decide +kernel
theorem dX12_placeOf_84 : decode cX12_placeOf 84 = .ok (.bipush 13, 2) := by decide +kernel
theorem dX12_placeOf_86 : decode cX12_placeOf 86 = .ok (.ireturn, 1) := by decide +kernel
theorem dX12_placeOf_87 : decode cX12_placeOf 87 = .ok (.bipush 10, 2) := by decide +kernel
theorem dX12_placeOf_89 : decode cX12_placeOf 89 = .ok (.ireturn, 1) := by decide +kernel
theorem dX12_placeOf_90 : decode cX12_placeOf 90 = .ok (.bipush 7, 2) := by decide +kernel
theorem dX12_placeOf_92 : decode cX12_placeOf 92 = .ok (.ireturn, 1) := by decide +kernel
theorem dX12_placeOf_93 : decode cX12_placeOf 93 = .ok (.bipush 11, 2) := by decide +kernel
theorem dX12_placeOf_95 : decode cX12_placeOf 95 = .ok (.ireturn, 1) := by decide +kernel
theorem dX12_placeOf_96 : decode cX12_placeOf 96 = .ok (.iload_n 0, 1) := by decide +kernel
theorem dX12_placeOf_97 : decode cX12_placeOf 97 = .ok (.ireturn, 1) := by decide +kernel
theorem dX12_saysSquare_0 : decode cX12_saysSquare 0 = .ok (.iconst (-1), 1) := by decide +kernel
theorem dX12_saysSquare_1 : decode cX12_saysSquare 1 = .ok (.istore_n 3, 1) := by decide +kernel
theorem dX12_saysSquare_2 : decode cX12_saysSquare 2 = .ok (.iconst 0, 1) := by decide +kernel
theorem dX12_saysSquare_3 : decode cX12_saysSquare 3 = .ok (.istore 4, 2) := by decide +kernel
theorem dX12_saysSquare_5 : decode cX12_saysSquare 5 = .ok (.iload 4, 2) := by decide +kernel
theorem dX12_saysSquare_7 : decode cX12_saysSquare 7 = .ok (.bipush 16, 2) := by decide +kernel
theorem dX12_saysSquare_9 : decode cX12_saysSquare 9 = .ok (.if_icmp .ge 46, 3) := by decide +kernel
theorem dX12_saysSquare_12 : decode cX12_saysSquare 12 = .ok (.aload_n 0, 1) := by decide +kernel
theorem dX12_saysSquare_13 : decode cX12_saysSquare 13 = .ok (.getfield 205, 3) := by decide +kernel
theorem dX12_saysSquare_16 : decode cX12_saysSquare 16 = .ok (.bipush 16, 2) := by decide +kernel
theorem dX12_saysSquare_18 : decode cX12_saysSquare 18 = .ok (.iload_n 2, 1) := by decide +kernel
theorem dX12_saysSquare_19 : decode cX12_saysSquare 19 = .ok (.iload 4, 2) := by decide +kernel
theorem dX12_saysSquare_21 : decode cX12_saysSquare 21 = .ok (.invokestatic 264, 3) := by decide +kernel
theorem dX12_saysSquare_24 : decode cX12_saysSquare 24 = .ok (.iconst 4, 1) := by decide +kernel
theorem dX12_saysSquare_25 : decode cX12_saysSquare 25 = .ok (.idiv, 1) := by decide +kernel
theorem dX12_saysSquare_26 : decode cX12_saysSquare 26 = .ok (.iadd, 1) := by decide +kernel
theorem dX12_saysSquare_27 : decode cX12_saysSquare 27 = .ok (.imul, 1) := by decide +kernel
theorem dX12_saysSquare_28 : decode cX12_saysSquare 28 = .ok (.iload_n 1, 1) := by decide +kernel
theorem dX12_saysSquare_29 : decode cX12_saysSquare 29 = .ok (.iadd, 1) := by decide +kernel
theorem dX12_saysSquare_30 : decode cX12_saysSquare 30 = .ok (.iload 4, 2) := by decide +kernel
theorem dX12_saysSquare_32 : decode cX12_saysSquare 32 = .ok (.invokestatic 264, 3) := by decide +kernel
theorem dX12_saysSquare_35 : decode cX12_saysSquare 35 = .ok (.iconst 4, 1) := by decide +kernel
theorem dX12_saysSquare_36 : decode cX12_saysSquare 36 = .ok (.irem, 1) := by decide +kernel
theorem dX12_saysSquare_37 : decode cX12_saysSquare 37 = .ok (.iadd, 1) := by decide +kernel
theorem dX12_saysSquare_38 : decode cX12_saysSquare 38 = .ok (.iaload, 1) := by decide +kernel
theorem dX12_saysSquare_39 : decode cX12_saysSquare 39 = .ok (.ifCond .eq 8, 3) := by decide +kernel
theorem dX12_saysSquare_42 : decode cX12_saysSquare 42 = .ok (.iload 4, 2) := by decide +kernel
theorem dX12_saysSquare_44 : decode cX12_saysSquare 44 = .ok (.goto 4, 3) := by decide +kernel
theorem dX12_saysSquare_47 : decode cX12_saysSquare 47 = .ok (.iload_n 3, 1) := by decide +kernel
theorem dX12_saysSquare_48 : decode cX12_saysSquare 48 = .ok (.istore_n 3, 1) := by decide +kernel
theorem dX12_saysSquare_49 : decode cX12_saysSquare 49 = .ok (.iinc 4 1, 3) := by decide +kernel
theorem dX12_saysSquare_52 : decode cX12_saysSquare 52 = .ok (.goto (-47), 3) := by decide +kernel
theorem dX12_saysSquare_55 : decode cX12_saysSquare 55 = .ok (.aload_n 0, 1) := by decide +kernel
theorem dX12_saysSquare_56 : decode cX12_saysSquare 56 = .ok (.bipush 7, 2) := by decide +kernel
theorem dX12_saysSquare_58 : decode cX12_saysSquare 58 = .ok (.iload_n 3, 1) := by decide +kernel
theorem dX12_saysSquare_59 : decode cX12_saysSquare 59 = .ok (.iconst (-1), 1) := by decide +kernel
theorem dX12_saysSquare_60 : decode cX12_saysSquare 60 = .ok (.if_icmp .eq 7, 3) := by decide +kernel
theorem dX12_saysSquare_63 : decode cX12_saysSquare 63 = .ok (.iconst 1, 1) := by decide +kernel
theorem dX12_saysSquare_64 : decode cX12_saysSquare 64 = .ok (.goto 4, 3) := by decide +kernel
theorem dX12_saysSquare_67 : decode cX12_saysSquare 67 = .ok (.iconst 0, 1) := by decide +kernel
theorem dX12_saysSquare_68 : decode cX12_saysSquare 68 = .ok (.invokevirtual 246, 3) := by decide +kernel
theorem dX12_saysSquare_71 : decode cX12_saysSquare 71 = .ok (.iconst 1, 1) := by decide +kernel
theorem dX12_saysSquare_72 : decode cX12_saysSquare 72 = .ok (.istore 4, 2) := by decide +kernel
theorem dX12_saysSquare_74 : decode cX12_saysSquare 74 = .ok (.iconst 3, 1) := by decide +kernel
theorem dX12_saysSquare_75 : decode cX12_saysSquare 75 = .ok (.istore 5, 2) := by decide +kernel
theorem dX12_saysSquare_77 : decode cX12_saysSquare 77 = .ok (.iload 5, 2) := by decide +kernel
theorem dX12_saysSquare_79 : decode cX12_saysSquare 79 = .ok (.ifCond .lt 51, 3) := by decide +kernel
theorem dX12_saysSquare_82 : decode cX12_saysSquare 82 = .ok (.iload_n 3, 1) := by decide +kernel
theorem dX12_saysSquare_83 : decode cX12_saysSquare 83 = .ok (.iconst (-1), 1) := by decide +kernel
theorem dX12_saysSquare_84 : decode cX12_saysSquare 84 = .ok (.if_icmp .eq 46, 3) := by decide +kernel
theorem dX12_saysSquare_87 : decode cX12_saysSquare 87 = .ok (.iload_n 3, 1) := by decide +kernel
theorem dX12_saysSquare_88 : decode cX12_saysSquare 88 = .ok (.iload 5, 2) := by decide +kernel
theorem dX12_saysSquare_90 : decode cX12_saysSquare 90 = .ok (.ishr, 1) := by decide +kernel
theorem dX12_saysSquare_91 : decode cX12_saysSquare 91 = .ok (.iconst 1, 1) := by decide +kernel
theorem dX12_saysSquare_92 : decode cX12_saysSquare 92 = .ok (.iand, 1) := by decide +kernel
theorem dX12_saysSquare_93 : decode cX12_saysSquare 93 = .ok (.istore 6, 2) := by decide +kernel
theorem dX12_saysSquare_95 : decode cX12_saysSquare 95 = .ok (.aload_n 0, 1) := by decide +kernel
theorem dX12_saysSquare_96 : decode cX12_saysSquare 96 = .ok (.bipush 32, 2) := by decide +kernel
theorem dX12_saysSquare_98 : decode cX12_saysSquare 98 = .ok (.iload 4, 2) := by decide +kernel
theorem dX12_saysSquare_100 : decode cX12_saysSquare 100 = .ok (.iadd, 1) := by decide +kernel
theorem dX12_saysSquare_101 : decode cX12_saysSquare 101 = .ok (.iload 6, 2) := by decide +kernel
theorem dX12_saysSquare_103 : decode cX12_saysSquare 103 = .ok (.iconst 1, 1) := by decide +kernel
theorem dX12_saysSquare_104 : decode cX12_saysSquare 104 = .ok (.if_icmp .ne 7, 3) := by decide +kernel
theorem dX12_saysSquare_107 : decode cX12_saysSquare 107 = .ok (.iconst 1, 1) := by decide +kernel
theorem dX12_saysSquare_108 : decode cX12_saysSquare 108 = .ok (.goto 4, 3) := by decide +kernel
theorem dX12_saysSquare_111 : decode cX12_saysSquare 111 = .ok (.iconst 0, 1) := by decide +kernel
theorem dX12_saysSquare_112 : decode cX12_saysSquare 112 = .ok (.invokevirtual 246, 3) := by decide +kernel
theorem dX12_saysSquare_115 : decode cX12_saysSquare 115 = .ok (.iconst 2, 1) := by decide +kernel
theorem dX12_saysSquare_116 : decode cX12_saysSquare 116 = .ok (.iload 4, 2) := by decide +kernel
theorem dX12_saysSquare_118 : decode cX12_saysSquare 118 = .ok (.imul, 1) := by decide +kernel
theorem dX12_saysSquare_119 : decode cX12_saysSquare 119 = .ok (.iload 6, 2) := by decide +kernel
theorem dX12_saysSquare_121 : decode cX12_saysSquare 121 = .ok (.iadd, 1) := by decide +kernel
theorem dX12_saysSquare_122 : decode cX12_saysSquare 122 = .ok (.istore 4, 2) := by decide +kernel
theorem dX12_saysSquare_124 : decode cX12_saysSquare 124 = .ok (.iinc 5 (-1), 3) := by decide +kernel
theorem dX12_saysSquare_127 : decode cX12_saysSquare 127 = .ok (.goto (-50), 3) := by decide +kernel
theorem dX12_saysSquare_130 : decode cX12_saysSquare 130 = .ok (.iload_n 3, 1) := by decide +kernel
theorem dX12_saysSquare_131 : decode cX12_saysSquare 131 = .ok (.istore 5, 2) := by decide +kernel
theorem dX12_saysSquare_133 : decode cX12_saysSquare 133 = .ok (.iload 5, 2) := by decide +kernel
theorem dX12_saysSquare_135 : decode cX12_saysSquare 135 = .ok (.ifCond .lt 95, 3) := by decide +kernel
theorem dX12_saysSquare_138 : decode cX12_saysSquare 138 = .ok (.aload_n 0, 1) := by decide +kernel
theorem dX12_saysSquare_139 : decode cX12_saysSquare 139 = .ok (.getfield 205, 3) := by decide +kernel
theorem dX12_saysSquare_142 : decode cX12_saysSquare 142 = .ok (.bipush 16, 2) := by decide +kernel
theorem dX12_saysSquare_144 : decode cX12_saysSquare 144 = .ok (.iload_n 2, 1) := by decide +kernel
theorem dX12_saysSquare_145 : decode cX12_saysSquare 145 = .ok (.iload 5, 2) := by decide +kernel
theorem dX12_saysSquare_147 : decode cX12_saysSquare 147 = .ok (.invokestatic 264, 3) := by decide +kernel
theorem dX12_saysSquare_150 : decode cX12_saysSquare 150 = .ok (.iconst 4, 1) := by decide +kernel
theorem dX12_saysSquare_151 : decode cX12_saysSquare 151 = .ok (.idiv, 1) := by decide +kernel
theorem dX12_saysSquare_152 : decode cX12_saysSquare 152 = .ok (.iadd, 1) := by decide +kernel
theorem dX12_saysSquare_153 : decode cX12_saysSquare 153 = .ok (.imul, 1) := by decide +kernel
theorem dX12_saysSquare_154 : decode cX12_saysSquare 154 = .ok (.iload_n 1, 1) := by decide +kernel
theorem dX12_saysSquare_155 : decode cX12_saysSquare 155 = .ok (.iadd, 1) := by decide +kernel
theorem dX12_saysSquare_156 : decode cX12_saysSquare 156 = .ok (.iload 5, 2) := by decide +kernel
theorem dX12_saysSquare_158 : decode cX12_saysSquare 158 = .ok (.invokestatic 264, 3) := by decide +kernel
theorem dX12_saysSquare_161 : decode cX12_saysSquare 161 = .ok (.iconst 4, 1) := by decide +kernel
theorem dX12_saysSquare_162 : decode cX12_saysSquare 162 = .ok (.irem, 1) := by decide +kernel
theorem dX12_saysSquare_163 : decode cX12_saysSquare 163 = .ok (.iadd, 1) := by decide +kernel
theorem dX12_saysSquare_164 : decode cX12_saysSquare 164 = .ok (.iaload, 1) := by decide +kernel
theorem dX12_saysSquare_165 : decode cX12_saysSquare 165 = .ok (.istore 6, 2) := by decide +kernel
theorem dX12_saysSquare_167 : decode cX12_saysSquare 167 = .ok (.iload 5, 2) := by decide +kernel
theorem dX12_saysSquare_169 : decode cX12_saysSquare 169 = .ok (.iload_n 3, 1) := by decide +kernel
theorem dX12_saysSquare_170 : decode cX12_saysSquare 170 = .ok (.if_icmp .eq 22, 3) := by decide +kernel
theorem dX12_saysSquare_173 : decode cX12_saysSquare 173 = .ok (.aload_n 0, 1) := by decide +kernel
theorem dX12_saysSquare_174 : decode cX12_saysSquare 174 = .ok (.bipush 48, 2) := by decide +kernel
theorem dX12_saysSquare_176 : decode cX12_saysSquare 176 = .ok (.iload 5, 2) := by decide +kernel
theorem dX12_saysSquare_178 : decode cX12_saysSquare 178 = .ok (.iadd, 1) := by decide +kernel
theorem dX12_saysSquare_179 : decode cX12_saysSquare 179 = .ok (.iload 6, 2) := by decide +kernel
theorem dX12_saysSquare_181 : decode cX12_saysSquare 181 = .ok (.ifCond .eq 7, 3) := by decide +kernel
theorem dX12_saysSquare_184 : decode cX12_saysSquare 184 = .ok (.iconst 1, 1) := by decide +kernel
theorem dX12_saysSquare_185 : decode cX12_saysSquare 185 = .ok (.goto 4, 3) := by decide +kernel
theorem dX12_saysSquare_188 : decode cX12_saysSquare 188 = .ok (.iconst 0, 1) := by decide +kernel
theorem dX12_saysSquare_189 : decode cX12_saysSquare 189 = .ok (.invokevirtual 246, 3) := by decide +kernel
theorem dX12_saysSquare_192 : decode cX12_saysSquare 192 = .ok (.iload 6, 2) := by decide +kernel
theorem dX12_saysSquare_194 : decode cX12_saysSquare 194 = .ok (.ifCond .eq 30, 3) := by decide +kernel
theorem dX12_saysSquare_197 : decode cX12_saysSquare 197 = .ok (.aload_n 0, 1) := by decide +kernel
theorem dX12_saysSquare_198 : decode cX12_saysSquare 198 = .ok (.iload 6, 2) := by decide +kernel
theorem dX12_saysSquare_200 : decode cX12_saysSquare 200 = .ok (.ifCond .ge 7, 3) := by decide +kernel
theorem dX12_saysSquare_203 : decode cX12_saysSquare 203 = .ok (.iconst 1, 1) := by decide +kernel
theorem dX12_saysSquare_204 : decode cX12_saysSquare 204 = .ok (.goto 4, 3) := by decide +kernel
theorem dX12_saysSquare_207 : decode cX12_saysSquare 207 = .ok (.iconst 0, 1) := by decide +kernel
theorem dX12_saysSquare_208 : decode cX12_saysSquare 208 = .ok (.invokevirtual 250, 3) := by decide +kernel
theorem dX12_saysSquare_211 : decode cX12_saysSquare 211 = .ok (.aload_n 0, 1) := by decide +kernel
theorem dX12_saysSquare_212 : decode cX12_saysSquare 212 = .ok (.bipush 64, 2) := by decide +kernel
theorem dX12_saysSquare_214 : decode cX12_saysSquare 214 = .ok (.iload 6, 2) := by decide +kernel
theorem dX12_saysSquare_216 : decode cX12_saysSquare 216 = .ok (.invokestatic 175, 3) := by decide +kernel
theorem dX12_saysSquare_219 : decode cX12_saysSquare 219 = .ok (.iconst 1, 1) := by decide +kernel
theorem dX12_saysSquare_220 : decode cX12_saysSquare 220 = .ok (.isub, 1) := by decide +kernel
theorem dX12_saysSquare_221 : decode cX12_saysSquare 221 = .ok (.invokevirtual 254, 3) := by decide +kernel
theorem dX12_saysSquare_224 : decode cX12_saysSquare 224 = .ok (.iinc 5 (-1), 3) := by decide +kernel
theorem dX12_saysSquare_227 : decode cX12_saysSquare 227 = .ok (.goto (-94), 3) := by decide +kernel
theorem dX12_saysSquare_230 : decode cX12_saysSquare 230 = .ok (.return_, 1) := by decide +kernel
theorem dX12_saysPart_0 : decode cX12_saysPart 0 = .ok (.aload_n 0, 1) := by decide +kernel
theorem dX12_saysPart_1 : decode cX12_saysPart 1 = .ok (.iconst 4, 1) := by decide +kernel
theorem dX12_saysPart_2 : decode cX12_saysPart 2 = .ok (.iload_n 2, 1) := by decide +kernel
theorem dX12_saysPart_3 : decode cX12_saysPart 3 = .ok (.iconst 4, 1) := by decide +kernel
theorem dX12_saysPart_4 : decode cX12_saysPart 4 = .ok (.idiv, 1) := by decide +kernel
theorem dX12_saysPart_5 : decode cX12_saysPart 5 = .ok (.imul, 1) := by decide +kernel
theorem dX12_saysPart_6 : decode cX12_saysPart 6 = .ok (.iload_n 1, 1) := by decide +kernel
theorem dX12_saysPart_7 : decode cX12_saysPart 7 = .ok (.iconst 4, 1) := by decide +kernel
theorem dX12_saysPart_8 : decode cX12_saysPart 8 = .ok (.idiv, 1) := by decide +kernel
theorem dX12_saysPart_9 : decode cX12_saysPart 9 = .ok (.iadd, 1) := by decide +kernel
theorem dX12_saysPart_10 : decode cX12_saysPart 10 = .ok (.invokevirtual 267, 3) := by decide +kernel
theorem dX12_saysPart_13 : decode cX12_saysPart 13 = .ok (.iconst 0, 1) := by decide +kernel
theorem dX12_saysPart_14 : decode cX12_saysPart 14 = .ok (.istore 4, 2) := by decide +kernel
theorem dX12_saysPart_16 : decode cX12_saysPart 16 = .ok (.iload 4, 2) := by decide +kernel
theorem dX12_saysPart_18 : decode cX12_saysPart 18 = .ok (.iload_n 3, 1) := by decide +kernel
theorem dX12_saysPart_19 : decode cX12_saysPart 19 = .ok (.iload_n 3, 1) := by decide +kernel
theorem dX12_saysPart_20 : decode cX12_saysPart 20 = .ok (.imul, 1) := by decide +kernel
theorem dX12_saysPart_21 : decode cX12_saysPart 21 = .ok (.bipush 16, 2) := by decide +kernel
theorem dX12_saysPart_23 : decode cX12_saysPart 23 = .ok (.idiv, 1) := by decide +kernel
theorem dX12_saysPart_24 : decode cX12_saysPart 24 = .ok (.if_icmp .ge 33, 3) := by decide +kernel
theorem dX12_saysPart_27 : decode cX12_saysPart 27 = .ok (.aload_n 0, 1) := by decide +kernel
theorem dX12_saysPart_28 : decode cX12_saysPart 28 = .ok (.iload_n 1, 1) := by decide +kernel
theorem dX12_saysPart_29 : decode cX12_saysPart 29 = .ok (.iload 4, 2) := by decide +kernel
theorem dX12_saysPart_31 : decode cX12_saysPart 31 = .ok (.iload_n 3, 1) := by decide +kernel
theorem dX12_saysPart_32 : decode cX12_saysPart 32 = .ok (.iconst 4, 1) := by decide +kernel
theorem dX12_saysPart_33 : decode cX12_saysPart 33 = .ok (.idiv, 1) := by decide +kernel
theorem dX12_saysPart_34 : decode cX12_saysPart 34 = .ok (.irem, 1) := by decide +kernel
theorem dX12_saysPart_35 : decode cX12_saysPart 35 = .ok (.iconst 4, 1) := by decide +kernel
theorem dX12_saysPart_36 : decode cX12_saysPart 36 = .ok (.imul, 1) := by decide +kernel
theorem dX12_saysPart_37 : decode cX12_saysPart 37 = .ok (.iadd, 1) := by decide +kernel
theorem dX12_saysPart_38 : decode cX12_saysPart 38 = .ok (.iload_n 2, 1) := by decide +kernel
theorem dX12_saysPart_39 : decode cX12_saysPart 39 = .ok (.iload 4, 2) := by decide +kernel
theorem dX12_saysPart_41 : decode cX12_saysPart 41 = .ok (.iload_n 3, 1) := by decide +kernel
theorem dX12_saysPart_42 : decode cX12_saysPart 42 = .ok (.iconst 4, 1) := by decide +kernel
theorem dX12_saysPart_43 : decode cX12_saysPart 43 = .ok (.idiv, 1) := by decide +kernel
theorem dX12_saysPart_44 : decode cX12_saysPart 44 = .ok (.idiv, 1) := by decide +kernel
theorem dX12_saysPart_45 : decode cX12_saysPart 45 = .ok (.iconst 4, 1) := by decide +kernel
theorem dX12_saysPart_46 : decode cX12_saysPart 46 = .ok (.imul, 1) := by decide +kernel
theorem dX12_saysPart_47 : decode cX12_saysPart 47 = .ok (.iadd, 1) := by decide +kernel
theorem dX12_saysPart_48 : decode cX12_saysPart 48 = .ok (.invokevirtual 271, 3) := by decide +kernel
theorem dX12_saysPart_51 : decode cX12_saysPart 51 = .ok (.iinc 4 1, 3) := by decide +kernel
theorem dX12_saysPart_54 : decode cX12_saysPart 54 = .ok (.goto (-38), 3) := by decide +kernel
theorem dX12_saysPart_57 : decode cX12_saysPart 57 = .ok (.return_, 1) := by decide +kernel
theorem dX12_slice_0 : decode cX12_slice 0 = .ok (.aload_n 0, 1) := by decide +kernel
theorem dX12_slice_1 : decode cX12_slice 1 = .ok (.invokevirtual 274, 3) := by decide +kernel
theorem dX12_slice_4 : decode cX12_slice 4 = .ok (.iconst 0, 1) := by decide +kernel
theorem dX12_slice_5 : decode cX12_slice 5 = .ok (.istore_n 3, 1) := by decide +kernel
theorem dX12_slice_6 : decode cX12_slice 6 = .ok (.iload_n 3, 1) := by decide +kernel
theorem dX12_slice_7 : decode cX12_slice 7 = .ok (.iconst 4, 1) := by decide +kernel
theorem dX12_slice_8 : decode cX12_slice 8 = .ok (.if_icmp .ge 16, 3) := by decide +kernel
theorem dX12_slice_11 : decode cX12_slice 11 = .ok (.aload_n 0, 1) := by decide +kernel
theorem dX12_slice_12 : decode cX12_slice 12 = .ok (.getfield 98, 3) := by decide +kernel
theorem dX12_slice_15 : decode cX12_slice 15 = .ok (.iload_n 3, 1) := by decide +kernel
theorem dX12_slice_16 : decode cX12_slice 16 = .ok (.iconst 0, 1) := by decide +kernel
theorem dX12_slice_17 : decode cX12_slice 17 = .ok (.iastore, 1) := by decide +kernel
theorem dX12_slice_18 : decode cX12_slice 18 = .ok (.iinc 3 1, 3) := by decide +kernel
theorem dX12_slice_21 : decode cX12_slice 21 = .ok (.goto (-15), 3) := by decide +kernel
theorem dX12_slice_24 : decode cX12_slice 24 = .ok (.iconst 0, 1) := by decide +kernel
theorem dX12_slice_25 : decode cX12_slice 25 = .ok (.istore_n 3, 1) := by decide +kernel
theorem dX12_slice_26 : decode cX12_slice 26 = .ok (.iload_n 3, 1) := by decide +kernel
theorem dX12_slice_27 : decode cX12_slice 27 = .ok (.iconst 4, 1) := by decide +kernel
theorem dX12_slice_28 : decode cX12_slice 28 = .ok (.if_icmp .ge 134, 3) := by decide +kernel
theorem dX12_slice_31 : decode cX12_slice 31 = .ok (.iload_n 3, 1) := by decide +kernel
theorem dX12_slice_32 : decode cX12_slice 32 = .ok (.iconst 2, 1) := by decide +kernel
theorem dX12_slice_33 : decode cX12_slice 33 = .ok (.irem, 1) := by decide +kernel
theorem dX12_slice_34 : decode cX12_slice 34 = .ok (.bipush 8, 2) := by decide +kernel
theorem dX12_slice_36 : decode cX12_slice 36 = .ok (.imul, 1) := by decide +kernel
theorem dX12_slice_37 : decode cX12_slice 37 = .ok (.istore 4, 2) := by decide +kernel
theorem dX12_slice_39 : decode cX12_slice 39 = .ok (.iload_n 3, 1) := by decide +kernel
theorem dX12_slice_40 : decode cX12_slice 40 = .ok (.iconst 2, 1) := by decide +kernel
theorem dX12_slice_41 : decode cX12_slice 41 = .ok (.idiv, 1) := by decide +kernel
theorem dX12_slice_42 : decode cX12_slice 42 = .ok (.bipush 8, 2) := by decide +kernel
theorem dX12_slice_44 : decode cX12_slice 44 = .ok (.imul, 1) := by decide +kernel
theorem dX12_slice_45 : decode cX12_slice 45 = .ok (.istore 5, 2) := by decide +kernel
theorem dX12_slice_47 : decode cX12_slice 47 = .ok (.aload_n 2, 1) := by decide +kernel
theorem dX12_slice_48 : decode cX12_slice 48 = .ok (.iconst 4, 1) := by decide +kernel
theorem dX12_slice_49 : decode cX12_slice 49 = .ok (.iload 5, 2) := by decide +kernel
theorem dX12_slice_51 : decode cX12_slice 51 = .ok (.iconst 4, 1) := by decide +kernel
theorem dX12_slice_52 : decode cX12_slice 52 = .ok (.idiv, 1) := by decide +kernel
theorem dX12_slice_53 : decode cX12_slice 53 = .ok (.imul, 1) := by decide +kernel
theorem dX12_slice_54 : decode cX12_slice 54 = .ok (.iload 4, 2) := by decide +kernel
theorem dX12_slice_56 : decode cX12_slice 56 = .ok (.iconst 4, 1) := by decide +kernel
theorem dX12_slice_57 : decode cX12_slice 57 = .ok (.idiv, 1) := by decide +kernel
theorem dX12_slice_58 : decode cX12_slice 58 = .ok (.iadd, 1) := by decide +kernel
theorem dX12_slice_59 : decode cX12_slice 59 = .ok (.iaload, 1) := by decide +kernel
theorem dX12_slice_60 : decode cX12_slice 60 = .ok (.istore 6, 2) := by decide +kernel
theorem dX12_slice_62 : decode cX12_slice 62 = .ok (.aload_n 0, 1) := by decide +kernel
theorem dX12_slice_63 : decode cX12_slice 63 = .ok (.getfield 29, 3) := by decide +kernel
theorem dX12_slice_66 : decode cX12_slice 66 = .ok (.iconst 2, 1) := by decide +kernel
theorem dX12_slice_67 : decode cX12_slice 67 = .ok (.if_icmp .ne 13, 3) := by decide +kernel
theorem dX12_slice_70 : decode cX12_slice 70 = .ok (.iload_n 3, 1) := by decide +kernel
theorem dX12_slice_71 : decode cX12_slice 71 = .ok (.iconst 2, 1) := by decide +kernel
theorem dX12_slice_72 : decode cX12_slice 72 = .ok (.idiv, 1) := by decide +kernel
theorem dX12_slice_73 : decode cX12_slice 73 = .ok (.iload_n 1, 1) := by decide +kernel
theorem dX12_slice_74 : decode cX12_slice 74 = .ok (.if_icmp .eq 6, 3) := by decide +kernel
theorem dX12_slice_77 : decode cX12_slice 77 = .ok (.goto 79, 3) := by decide +kernel
theorem dX12_slice_80 : decode cX12_slice 80 = .ok (.aload_n 0, 1) := by decide +kernel
theorem dX12_slice_81 : decode cX12_slice 81 = .ok (.getfield 26, 3) := by decide +kernel
theorem dX12_slice_84 : decode cX12_slice 84 = .ok (.iconst 1, 1) := by decide +kernel
theorem dX12_slice_85 : decode cX12_slice 85 = .ok (.iand, 1) := by decide +kernel
theorem dX12_slice_86 : decode cX12_slice 86 = .ok (.iconst 1, 1) := by decide +kernel
theorem dX12_slice_87 : decode cX12_slice 87 = .ok (.if_icmp .ne 19, 3) := by decide +kernel
theorem dX12_slice_90 : decode cX12_slice 90 = .ok (.aload_n 0, 1) := by decide +kernel
theorem dX12_slice_91 : decode cX12_slice 91 = .ok (.iconst 0, 1) := by decide +kernel
theorem dX12_slice_92 : decode cX12_slice 92 = .ok (.iload 6, 2) := by decide +kernel
theorem dX12_slice_94 : decode cX12_slice 94 = .ok (.iconst 4, 1) := by decide +kernel
theorem dX12_slice_95 : decode cX12_slice 95 = .ok (.if_icmp .ne 7, 3) := by decide +kernel
theorem dX12_slice_98 : decode cX12_slice 98 = .ok (.iconst 1, 1) := by decide +kernel
theorem dX12_slice_99 : decode cX12_slice 99 = .ok (.goto 4, 3) := by decide +kernel
theorem dX12_slice_102 : decode cX12_slice 102 = .ok (.iconst 0, 1) := by decide +kernel
theorem dX12_slice_103 : decode cX12_slice 103 = .ok (.invokevirtual 246, 3) := by decide +kernel
theorem dX12_slice_106 : decode cX12_slice 106 = .ok (.iconst 0, 1) := by decide +kernel
theorem dX12_slice_107 : decode cX12_slice 107 = .ok (.istore 7, 2) := by decide +kernel
theorem dX12_slice_109 : decode cX12_slice 109 = .ok (.iload 7, 2) := by decide +kernel
theorem dX12_slice_111 : decode cX12_slice 111 = .ok (.iload 6, 2) := by decide +kernel
theorem dX12_slice_113 : decode cX12_slice 113 = .ok (.bipush 8, 2) := by decide +kernel
theorem dX12_slice_115 : decode cX12_slice 115 = .ok (.if_icmp .ne 7, 3) := by decide +kernel
theorem dX12_slice_118 : decode cX12_slice 118 = .ok (.iconst 1, 1) := by decide +kernel
theorem dX12_slice_119 : decode cX12_slice 119 = .ok (.goto 4, 3) := by decide +kernel
theorem dX12_slice_122 : decode cX12_slice 122 = .ok (.iconst 4, 1) := by decide +kernel
theorem dX12_slice_123 : decode cX12_slice 123 = .ok (.if_icmp .ge 33, 3) := by decide +kernel
theorem dX12_slice_126 : decode cX12_slice 126 = .ok (.aload_n 0, 1) := by decide +kernel
theorem dX12_slice_127 : decode cX12_slice 127 = .ok (.iload 4, 2) := by decide +kernel
theorem dX12_slice_129 : decode cX12_slice 129 = .ok (.iload 7, 2) := by decide +kernel
theorem dX12_slice_131 : decode cX12_slice 131 = .ok (.iconst 2, 1) := by decide +kernel
theorem dX12_slice_132 : decode cX12_slice 132 = .ok (.irem, 1) := by decide +kernel
theorem dX12_slice_133 : decode cX12_slice 133 = .ok (.iconst 4, 1) := by decide +kernel
theorem dX12_slice_134 : decode cX12_slice 134 = .ok (.imul, 1) := by decide +kernel
theorem dX12_slice_135 : decode cX12_slice 135 = .ok (.iadd, 1) := by decide +kernel
theorem dX12_slice_136 : decode cX12_slice 136 = .ok (.iload 5, 2) := by decide +kernel
theorem dX12_slice_138 : decode cX12_slice 138 = .ok (.iload 7, 2) := by decide +kernel
theorem dX12_slice_140 : decode cX12_slice 140 = .ok (.iconst 2, 1) := by decide +kernel
theorem dX12_slice_141 : decode cX12_slice 141 = .ok (.idiv, 1) := by decide +kernel
theorem dX12_slice_142 : decode cX12_slice 142 = .ok (.iconst 4, 1) := by decide +kernel
theorem dX12_slice_143 : decode cX12_slice 143 = .ok (.imul, 1) := by decide +kernel
theorem dX12_slice_144 : decode cX12_slice 144 = .ok (.iadd, 1) := by decide +kernel
theorem dX12_slice_145 : decode cX12_slice 145 = .ok (.iload 6, 2) := by decide +kernel
theorem dX12_slice_147 : decode cX12_slice 147 = .ok (.invokevirtual 277, 3) := by decide +kernel
theorem dX12_slice_150 : decode cX12_slice 150 = .ok (.iinc 7 1, 3) := by decide +kernel
theorem dX12_slice_153 : decode cX12_slice 153 = .ok (.goto (-44), 3) := by decide +kernel
theorem dX12_slice_156 : decode cX12_slice 156 = .ok (.iinc 3 1, 3) := by decide +kernel
theorem dX12_slice_159 : decode cX12_slice 159 = .ok (.goto (-133), 3) := by decide +kernel
theorem dX12_slice_162 : decode cX12_slice 162 = .ok (.aload_n 0, 1) := by decide +kernel
theorem dX12_slice_163 : decode cX12_slice 163 = .ok (.getfield 226, 3) := by decide +kernel
theorem dX12_slice_166 : decode cX12_slice 166 = .ok (.iconst 4, 1) := by decide +kernel
theorem dX12_slice_167 : decode cX12_slice 167 = .ok (.iadd, 1) := by decide +kernel
theorem dX12_slice_168 : decode cX12_slice 168 = .ok (.newarray .int, 2) := by decide +kernel
theorem dX12_slice_170 : decode cX12_slice 170 = .ok (.astore_n 3, 1) := by decide +kernel
theorem dX12_slice_171 : decode cX12_slice 171 = .ok (.iconst 0, 1) := by decide +kernel
theorem dX12_slice_172 : decode cX12_slice 172 = .ok (.istore 4, 2) := by decide +kernel
theorem dX12_slice_174 : decode cX12_slice 174 = .ok (.iload 4, 2) := by decide +kernel
theorem dX12_slice_176 : decode cX12_slice 176 = .ok (.aload_n 3, 1) := by decide +kernel
theorem dX12_slice_177 : decode cX12_slice 177 = .ok (.arraylength, 1) := by decide +kernel
theorem dX12_slice_178 : decode cX12_slice 178 = .ok (.if_icmp .ge 20, 3) := by decide +kernel
theorem dX12_slice_181 : decode cX12_slice 181 = .ok (.aload_n 3, 1) := by decide +kernel
theorem dX12_slice_182 : decode cX12_slice 182 = .ok (.iload 4, 2) := by decide +kernel
theorem dX12_slice_184 : decode cX12_slice 184 = .ok (.aload_n 0, 1) := by decide +kernel
theorem dX12_slice_185 : decode cX12_slice 185 = .ok (.getfield 92, 3) := by decide +kernel
theorem dX12_slice_188 : decode cX12_slice 188 = .ok (.iload 4, 2) := by decide +kernel
theorem dX12_slice_190 : decode cX12_slice 190 = .ok (.iaload, 1) := by decide +kernel
theorem dX12_slice_191 : decode cX12_slice 191 = .ok (.iastore, 1) := by decide +kernel
theorem dX12_slice_192 : decode cX12_slice 192 = .ok (.iinc 4 1, 3) := by decide +kernel
theorem dX12_slice_195 : decode cX12_slice 195 = .ok (.goto (-21), 3) := by decide +kernel
theorem dX12_slice_198 : decode cX12_slice 198 = .ok (.aload_n 3, 1) := by decide +kernel
theorem dX12_slice_199 : decode cX12_slice 199 = .ok (.areturn, 1) := by decide +kernel
theorem dX12_isSplit_0 : decode cX12_isSplit 0 = .ok (.sipush 255, 3) := by decide +kernel
theorem dX12_isSplit_3 : decode cX12_isSplit 3 = .ok (.istore_n 3, 1) := by decide +kernel
theorem dX12_isSplit_4 : decode cX12_isSplit 4 = .ok (.iconst 0, 1) := by decide +kernel
theorem dX12_isSplit_5 : decode cX12_isSplit 5 = .ok (.istore 4, 2) := by decide +kernel
theorem dX12_isSplit_7 : decode cX12_isSplit 7 = .ok (.iconst 0, 1) := by decide +kernel
theorem dX12_isSplit_8 : decode cX12_isSplit 8 = .ok (.istore 5, 2) := by decide +kernel
theorem dX12_isSplit_10 : decode cX12_isSplit 10 = .ok (.iload 5, 2) := by decide +kernel
theorem dX12_isSplit_12 : decode cX12_isSplit 12 = .ok (.bipush 64, 2) := by decide +kernel
theorem dX12_isSplit_14 : decode cX12_isSplit 14 = .ok (.if_icmp .ge 50, 3) := by decide +kernel
theorem dX12_isSplit_17 : decode cX12_isSplit 17 = .ok (.aload_n 0, 1) := by decide +kernel
theorem dX12_isSplit_18 : decode cX12_isSplit 18 = .ok (.getfield 18, 3) := by decide +kernel
theorem dX12_isSplit_21 : decode cX12_isSplit 21 = .ok (.bipush 16, 2) := by decide +kernel
theorem dX12_isSplit_23 : decode cX12_isSplit 23 = .ok (.iload_n 2, 1) := by decide +kernel
theorem dX12_isSplit_24 : decode cX12_isSplit 24 = .ok (.iload 5, 2) := by decide +kernel
theorem dX12_isSplit_26 : decode cX12_isSplit 26 = .ok (.bipush 8, 2) := by decide +kernel
theorem dX12_isSplit_28 : decode cX12_isSplit 28 = .ok (.idiv, 1) := by decide +kernel
theorem dX12_isSplit_29 : decode cX12_isSplit 29 = .ok (.iadd, 1) := by decide +kernel
theorem dX12_isSplit_30 : decode cX12_isSplit 30 = .ok (.imul, 1) := by decide +kernel
theorem dX12_isSplit_31 : decode cX12_isSplit 31 = .ok (.iload_n 1, 1) := by decide +kernel
theorem dX12_isSplit_32 : decode cX12_isSplit 32 = .ok (.iadd, 1) := by decide +kernel
theorem dX12_isSplit_33 : decode cX12_isSplit 33 = .ok (.iload 5, 2) := by decide +kernel
theorem dX12_isSplit_35 : decode cX12_isSplit 35 = .ok (.bipush 8, 2) := by decide +kernel
theorem dX12_isSplit_37 : decode cX12_isSplit 37 = .ok (.irem, 1) := by decide +kernel
theorem dX12_isSplit_38 : decode cX12_isSplit 38 = .ok (.iadd, 1) := by decide +kernel
theorem dX12_isSplit_39 : decode cX12_isSplit 39 = .ok (.iaload, 1) := by decide +kernel
theorem dX12_isSplit_40 : decode cX12_isSplit 40 = .ok (.istore 6, 2) := by decide +kernel
theorem dX12_isSplit_42 : decode cX12_isSplit 42 = .ok (.iload_n 3, 1) := by decide +kernel
theorem dX12_isSplit_43 : decode cX12_isSplit 43 = .ok (.iload 6, 2) := by decide +kernel
theorem dX12_isSplit_45 : decode cX12_isSplit 45 = .ok (.invokestatic 3, 3) := by decide +kernel
theorem dX12_isSplit_48 : decode cX12_isSplit 48 = .ok (.istore_n 3, 1) := by decide +kernel
theorem dX12_isSplit_49 : decode cX12_isSplit 49 = .ok (.iload 4, 2) := by decide +kernel
theorem dX12_isSplit_51 : decode cX12_isSplit 51 = .ok (.iload 6, 2) := by decide +kernel
theorem dX12_isSplit_53 : decode cX12_isSplit 53 = .ok (.invokestatic 9, 3) := by decide +kernel
theorem dX12_isSplit_56 : decode cX12_isSplit 56 = .ok (.istore 4, 2) := by decide +kernel
theorem dX12_isSplit_58 : decode cX12_isSplit 58 = .ok (.iinc 5 1, 3) := by decide +kernel
theorem dX12_isSplit_61 : decode cX12_isSplit 61 = .ok (.goto (-51), 3) := by decide +kernel
theorem dX12_isSplit_64 : decode cX12_isSplit 64 = .ok (.aload_n 0, 1) := by decide +kernel
theorem dX12_isSplit_65 : decode cX12_isSplit 65 = .ok (.getfield 26, 3) := by decide +kernel
theorem dX12_isSplit_68 : decode cX12_isSplit 68 = .ok (.iconst 1, 1) := by decide +kernel
theorem dX12_isSplit_69 : decode cX12_isSplit 69 = .ok (.iand, 1) := by decide +kernel
theorem dX12_isSplit_70 : decode cX12_isSplit 70 = .ok (.iconst 1, 1) := by decide +kernel
theorem dX12_isSplit_71 : decode cX12_isSplit 71 = .ok (.if_icmp .ne 23, 3) := by decide +kernel
theorem dX12_isSplit_74 : decode cX12_isSplit 74 = .ok (.iload 4, 2) := by decide +kernel
theorem dX12_isSplit_76 : decode cX12_isSplit 76 = .ok (.iload_n 3, 1) := by decide +kernel
theorem dX12_isSplit_77 : decode cX12_isSplit 77 = .ok (.isub, 1) := by decide +kernel
theorem dX12_isSplit_78 : decode cX12_isSplit 78 = .ok (.bipush 24, 2) := by decide +kernel
theorem dX12_isSplit_80 : decode cX12_isSplit 80 = .ok (.iconst 3, 1) := by decide +kernel
theorem dX12_isSplit_81 : decode cX12_isSplit 81 = .ok (.aload_n 0, 1) := by decide +kernel
theorem dX12_isSplit_82 : decode cX12_isSplit 82 = .ok (.getfield 22, 3) := by decide +kernel
theorem dX12_isSplit_85 : decode cX12_isSplit 85 = .ok (.imul, 1) := by decide +kernel
theorem dX12_isSplit_86 : decode cX12_isSplit 86 = .ok (.iadd, 1) := by decide +kernel
theorem dX12_isSplit_87 : decode cX12_isSplit 87 = .ok (.if_icmp .le 7, 3) := by decide +kernel
theorem dX12_isSplit_90 : decode cX12_isSplit 90 = .ok (.iconst 1, 1) := by decide +kernel
theorem dX12_isSplit_91 : decode cX12_isSplit 91 = .ok (.goto 4, 3) := by decide +kernel
theorem dX12_isSplit_94 : decode cX12_isSplit 94 = .ok (.iconst 0, 1) := by decide +kernel
theorem dX12_isSplit_95 : decode cX12_isSplit 95 = .ok (.ireturn, 1) := by decide +kernel
theorem dX12_codesPart_0 : decode cX12_codesPart 0 = .ok (.aload_n 0, 1) := by decide +kernel
theorem dX12_codesPart_1 : decode cX12_codesPart 1 = .ok (.iload_n 1, 1) := by decide +kernel
theorem dX12_codesPart_2 : decode cX12_codesPart 2 = .ok (.iload_n 2, 1) := by decide +kernel
theorem dX12_codesPart_3 : decode cX12_codesPart 3 = .ok (.iload_n 3, 1) := by decide +kernel
theorem dX12_codesPart_4 : decode cX12_codesPart 4 = .ok (.invokevirtual 281, 3) := by decide +kernel
theorem dX12_codesPart_7 : decode cX12_codesPart 7 = .ok (.istore 4, 2) := by decide +kernel
theorem dX12_codesPart_9 : decode cX12_codesPart 9 = .ok (.aload_n 0, 1) := by decide +kernel
theorem dX12_codesPart_10 : decode cX12_codesPart 10 = .ok (.getfield 155, 3) := by decide +kernel
theorem dX12_codesPart_13 : decode cX12_codesPart 13 = .ok (.aload_n 0, 1) := by decide +kernel
theorem dX12_codesPart_14 : decode cX12_codesPart 14 = .ok (.getfield 162, 3) := by decide +kernel
theorem dX12_codesPart_17 : decode cX12_codesPart 17 = .ok (.aload_n 0, 1) := by decide +kernel
theorem dX12_codesPart_18 : decode cX12_codesPart 18 = .ok (.getfield 165, 3) := by decide +kernel
theorem dX12_codesPart_21 : decode cX12_codesPart 21 = .ok (.iload_n 1, 1) := by decide +kernel
theorem dX12_codesPart_22 : decode cX12_codesPart 22 = .ok (.iload_n 2, 1) := by decide +kernel
theorem dX12_codesPart_23 : decode cX12_codesPart 23 = .ok (.iload_n 3, 1) := by decide +kernel
theorem dX12_codesPart_24 : decode cX12_codesPart 24 = .ok (.iload 4, 2) := by decide +kernel
theorem dX12_codesPart_26 : decode cX12_codesPart 26 = .ok (.aload_n 0, 1) := by decide +kernel
theorem dX12_codesPart_27 : decode cX12_codesPart 27 = .ok (.getfield 168, 3) := by decide +kernel
theorem dX12_codesPart_30 : decode cX12_codesPart 30 = .ok (.aload_n 0, 1) := by decide +kernel
theorem dX12_codesPart_31 : decode cX12_codesPart 31 = .ok (.getfield 29, 3) := by decide +kernel
theorem dX12_codesPart_34 : decode cX12_codesPart 34 = .ok (.invokestatic 208, 3) := by decide +kernel
theorem dX12_codesPart_37 : decode cX12_codesPart 37 = .ok (.astore 5, 2) := by decide +kernel
theorem dX12_codesPart_39 : decode cX12_codesPart 39 = .ok (.iconst 0, 1) := by decide +kernel
theorem dX12_codesPart_40 : decode cX12_codesPart 40 = .ok (.istore 6, 2) := by decide +kernel
theorem dX12_codesPart_42 : decode cX12_codesPart 42 = .ok (.iload 6, 2) := by decide +kernel
theorem dX12_codesPart_44 : decode cX12_codesPart 44 = .ok (.iload_n 3, 1) := by decide +kernel
theorem dX12_codesPart_45 : decode cX12_codesPart 45 = .ok (.iload_n 3, 1) := by decide +kernel
theorem dX12_codesPart_46 : decode cX12_codesPart 46 = .ok (.imul, 1) := by decide +kernel
theorem dX12_codesPart_47 : decode cX12_codesPart 47 = .ok (.bipush 16, 2) := by decide +kernel
theorem dX12_codesPart_49 : decode cX12_codesPart 49 = .ok (.idiv, 1) := by decide +kernel
theorem dX12_codesPart_50 : decode cX12_codesPart 50 = .ok (.if_icmp .ge 61, 3) := by decide +kernel
theorem dX12_codesPart_53 : decode cX12_codesPart 53 = .ok (.iload_n 1, 1) := by decide +kernel
theorem dX12_codesPart_54 : decode cX12_codesPart 54 = .ok (.iload 6, 2) := by decide +kernel
theorem dX12_codesPart_56 : decode cX12_codesPart 56 = .ok (.iload_n 3, 1) := by decide +kernel
theorem dX12_codesPart_57 : decode cX12_codesPart 57 = .ok (.iconst 4, 1) := by decide +kernel
theorem dX12_codesPart_58 : decode cX12_codesPart 58 = .ok (.idiv, 1) := by decide +kernel
theorem dX12_codesPart_59 : decode cX12_codesPart 59 = .ok (.irem, 1) := by decide +kernel
theorem dX12_codesPart_60 : decode cX12_codesPart 60 = .ok (.iconst 4, 1) := by decide +kernel
theorem dX12_codesPart_61 : decode cX12_codesPart 61 = .ok (.imul, 1) := by decide +kernel
theorem dX12_codesPart_62 : decode cX12_codesPart 62 = .ok (.iadd, 1) := by decide +kernel
theorem dX12_codesPart_63 : decode cX12_codesPart 63 = .ok (.istore 7, 2) := by decide +kernel
theorem dX12_codesPart_65 : decode cX12_codesPart 65 = .ok (.iload_n 2, 1) := by decide +kernel
theorem dX12_codesPart_66 : decode cX12_codesPart 66 = .ok (.iload 6, 2) := by decide +kernel
theorem dX12_codesPart_68 : decode cX12_codesPart 68 = .ok (.iload_n 3, 1) := by decide +kernel
theorem dX12_codesPart_69 : decode cX12_codesPart 69 = .ok (.iconst 4, 1) := by decide +kernel
theorem dX12_codesPart_70 : decode cX12_codesPart 70 = .ok (.idiv, 1) := by decide +kernel
theorem dX12_codesPart_71 : decode cX12_codesPart 71 = .ok (.idiv, 1) := by decide +kernel
theorem dX12_codesPart_72 : decode cX12_codesPart 72 = .ok (.iconst 4, 1) := by decide +kernel
theorem dX12_codesPart_73 : decode cX12_codesPart 73 = .ok (.imul, 1) := by decide +kernel
theorem dX12_codesPart_74 : decode cX12_codesPart 74 = .ok (.iadd, 1) := by decide +kernel
theorem dX12_codesPart_75 : decode cX12_codesPart 75 = .ok (.istore 8, 2) := by decide +kernel
theorem dX12_codesPart_77 : decode cX12_codesPart 77 = .ok (.aload_n 0, 1) := by decide +kernel
theorem dX12_codesPart_78 : decode cX12_codesPart 78 = .ok (.getfield 258, 3) := by decide +kernel
theorem dX12_codesPart_81 : decode cX12_codesPart 81 = .ok (.iconst 4, 1) := by decide +kernel
theorem dX12_codesPart_82 : decode cX12_codesPart 82 = .ok (.iload 8, 2) := by decide +kernel
theorem dX12_codesPart_84 : decode cX12_codesPart 84 = .ok (.iconst 4, 1) := by decide +kernel
