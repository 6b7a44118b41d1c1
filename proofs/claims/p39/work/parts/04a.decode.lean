theorem dX0_init_0 : decode cX0_init 0 = .ok (.aload_n 0, 1) := by decide +kernel
theorem dX0_init_1 : decode cX0_init 1 = .ok (.invokespecial 3, 3) := by decide +kernel
theorem dX0_init_4 : decode cX0_init 4 = .ok (.aload_n 0, 1) := by decide +kernel
theorem dX0_init_5 : decode cX0_init 5 = .ok (.iconst 0, 1) := by decide +kernel
theorem dX0_init_6 : decode cX0_init 6 = .ok (.putfield 9, 3) := by decide +kernel
theorem dX0_init_9 : decode cX0_init 9 = .ok (.aload_n 0, 1) := by decide +kernel
theorem dX0_init_10 : decode cX0_init 10 = .ok (.iconst 0, 1) := by decide +kernel
theorem dX0_init_11 : decode cX0_init 11 = .ok (.putfield 15, 3) := by decide +kernel
theorem dX0_init_14 : decode cX0_init 14 = .ok (.aload_n 0, 1) := by decide +kernel
theorem dX0_init_15 : decode cX0_init 15 = .ok (.iconst 0, 1) := by decide +kernel
theorem dX0_init_16 : decode cX0_init 16 = .ok (.putfield 18, 3) := by decide +kernel
theorem dX0_init_19 : decode cX0_init 19 = .ok (.return_, 1) := by decide +kernel
theorem dX0_isThere_0 : decode cX0_isThere 0 = .ok (.aload_n 0, 1) := by decide +kernel
theorem dX0_isThere_1 : decode cX0_isThere 1 = .ok (.getfield 9, 3) := by decide +kernel
theorem dX0_isThere_4 : decode cX0_isThere 4 = .ok (.ifCond .le 7, 3) := by decide +kernel
theorem dX0_isThere_7 : decode cX0_isThere 7 = .ok (.iconst 1, 1) := by decide +kernel
theorem dX0_isThere_8 : decode cX0_isThere 8 = .ok (.goto 4, 3) := by decide +kernel
theorem dX0_isThere_11 : decode cX0_isThere 11 = .ok (.iconst 0, 1) := by decide +kernel
theorem dX0_isThere_12 : decode cX0_isThere 12 = .ok (.ireturn, 1) := by decide +kernel
theorem dX0_put_0 : decode cX0_put 0 = .ok (.aload_n 0, 1) := by decide +kernel
theorem dX0_put_1 : decode cX0_put 1 = .ok (.iload_n 1, 1) := by decide +kernel
theorem dX0_put_2 : decode cX0_put 2 = .ok (.putfield 9, 3) := by decide +kernel
theorem dX0_put_5 : decode cX0_put 5 = .ok (.aload_n 0, 1) := by decide +kernel
theorem dX0_put_6 : decode cX0_put 6 = .ok (.iload_n 2, 1) := by decide +kernel
theorem dX0_put_7 : decode cX0_put 7 = .ok (.putfield 15, 3) := by decide +kernel
theorem dX0_put_10 : decode cX0_put 10 = .ok (.aload_n 0, 1) := by decide +kernel
theorem dX0_put_11 : decode cX0_put 11 = .ok (.iconst 0, 1) := by decide +kernel
theorem dX0_put_12 : decode cX0_put 12 = .ok (.putfield 18, 3) := by decide +kernel
theorem dX0_put_15 : decode cX0_put 15 = .ok (.return_, 1) := by decide +kernel
theorem dX0_filledWith_0 : decode cX0_filledWith 0 = .ok (.aload_n 0, 1) := by decide +kernel
theorem dX0_filledWith_1 : decode cX0_filledWith 1 = .ok (.getfield 18, 3) := by decide +kernel
theorem dX0_filledWith_4 : decode cX0_filledWith 4 = .ok (.aload_n 0, 1) := by decide +kernel
theorem dX0_filledWith_5 : decode cX0_filledWith 5 = .ok (.getfield 15, 3) := by decide +kernel
theorem dX0_filledWith_8 : decode cX0_filledWith 8 = .ok (.if_icmp .le 15, 3) := by decide +kernel
theorem dX0_filledWith_11 : decode cX0_filledWith 11 = .ok (.aload_n 0, 1) := by decide +kernel
theorem dX0_filledWith_12 : decode cX0_filledWith 12 = .ok (.getfield 18, 3) := by decide +kernel
theorem dX0_filledWith_15 : decode cX0_filledWith 15 = .ok (.aload_n 0, 1) := by decide +kernel
theorem dX0_filledWith_16 : decode cX0_filledWith 16 = .ok (.getfield 15, 3) := by decide +kernel
theorem dX0_filledWith_19 : decode cX0_filledWith 19 = .ok (.isub, 1) := by decide +kernel
theorem dX0_filledWith_20 : decode cX0_filledWith 20 = .ok (.goto 4, 3) := by decide +kernel
theorem dX0_filledWith_23 : decode cX0_filledWith 23 = .ok (.iconst 0, 1) := by decide +kernel
theorem dX0_filledWith_24 : decode cX0_filledWith 24 = .ok (.iload_n 1, 1) := by decide +kernel
theorem dX0_filledWith_25 : decode cX0_filledWith 25 = .ok (.iadd, 1) := by decide +kernel
theorem dX0_filledWith_26 : decode cX0_filledWith 26 = .ok (.ireturn, 1) := by decide +kernel
theorem dX0_hasRoomFor_0 : decode cX0_hasRoomFor 0 = .ok (.aload_n 0, 1) := by decide +kernel
theorem dX0_hasRoomFor_1 : decode cX0_hasRoomFor 1 = .ok (.invokevirtual 21, 3) := by decide +kernel
theorem dX0_hasRoomFor_4 : decode cX0_hasRoomFor 4 = .ok (.ifCond .eq 15, 3) := by decide +kernel
theorem dX0_hasRoomFor_7 : decode cX0_hasRoomFor 7 = .ok (.aload_n 0, 1) := by decide +kernel
theorem dX0_hasRoomFor_8 : decode cX0_hasRoomFor 8 = .ok (.iload_n 1, 1) := by decide +kernel
theorem dX0_hasRoomFor_9 : decode cX0_hasRoomFor 9 = .ok (.invokevirtual 25, 3) := by decide +kernel
theorem dX0_hasRoomFor_12 : decode cX0_hasRoomFor 12 = .ok (.aload_n 0, 1) := by decide +kernel
theorem dX0_hasRoomFor_13 : decode cX0_hasRoomFor 13 = .ok (.getfield 9, 3) := by decide +kernel
theorem dX0_hasRoomFor_16 : decode cX0_hasRoomFor 16 = .ok (.if_icmp .gt 7, 3) := by decide +kernel
theorem dX0_hasRoomFor_19 : decode cX0_hasRoomFor 19 = .ok (.iconst 1, 1) := by decide +kernel
theorem dX0_hasRoomFor_20 : decode cX0_hasRoomFor 20 = .ok (.goto 4, 3) := by decide +kernel
theorem dX0_hasRoomFor_23 : decode cX0_hasRoomFor 23 = .ok (.iconst 0, 1) := by decide +kernel
theorem dX0_hasRoomFor_24 : decode cX0_hasRoomFor 24 = .ok (.ireturn, 1) := by decide +kernel
theorem dX0_take_0 : decode cX0_take 0 = .ok (.aload_n 0, 1) := by decide +kernel
theorem dX0_take_1 : decode cX0_take 1 = .ok (.invokevirtual 21, 3) := by decide +kernel
theorem dX0_take_4 : decode cX0_take 4 = .ok (.ifCond .eq 12, 3) := by decide +kernel
theorem dX0_take_7 : decode cX0_take 7 = .ok (.aload_n 0, 1) := by decide +kernel
theorem dX0_take_8 : decode cX0_take 8 = .ok (.aload_n 0, 1) := by decide +kernel
theorem dX0_take_9 : decode cX0_take 9 = .ok (.iload_n 1, 1) := by decide +kernel
theorem dX0_take_10 : decode cX0_take 10 = .ok (.invokevirtual 25, 3) := by decide +kernel
theorem dX0_take_13 : decode cX0_take 13 = .ok (.putfield 18, 3) := by decide +kernel
theorem dX0_take_16 : decode cX0_take 16 = .ok (.return_, 1) := by decide +kernel
theorem dX0_steer_0 : decode cX0_steer 0 = .ok (.aload_n 0, 1) := by decide +kernel
theorem dX0_steer_1 : decode cX0_steer 1 = .ok (.invokevirtual 21, 3) := by decide +kernel
theorem dX0_steer_4 : decode cX0_steer 4 = .ok (.ifCond .eq 28, 3) := by decide +kernel
theorem dX0_steer_7 : decode cX0_steer 7 = .ok (.iconst 4, 1) := by decide +kernel
theorem dX0_steer_8 : decode cX0_steer 8 = .ok (.aload_n 0, 1) := by decide +kernel
theorem dX0_steer_9 : decode cX0_steer 9 = .ok (.getfield 18, 3) := by decide +kernel
theorem dX0_steer_12 : decode cX0_steer 12 = .ok (.imul, 1) := by decide +kernel
theorem dX0_steer_13 : decode cX0_steer 13 = .ok (.iconst 3, 1) := by decide +kernel
theorem dX0_steer_14 : decode cX0_steer 14 = .ok (.aload_n 0, 1) := by decide +kernel
theorem dX0_steer_15 : decode cX0_steer 15 = .ok (.getfield 9, 3) := by decide +kernel
theorem dX0_steer_18 : decode cX0_steer 18 = .ok (.imul, 1) := by decide +kernel
theorem dX0_steer_19 : decode cX0_steer 19 = .ok (.if_icmp .le 13, 3) := by decide +kernel
theorem dX0_steer_22 : decode cX0_steer 22 = .ok (.iload_n 1, 1) := by decide +kernel
theorem dX0_steer_23 : decode cX0_steer 23 = .ok (.bipush 40, 2) := by decide +kernel
theorem dX0_steer_25 : decode cX0_steer 25 = .ok (.if_icmp .ge 7, 3) := by decide +kernel
theorem dX0_steer_28 : decode cX0_steer 28 = .ok (.iload_n 1, 1) := by decide +kernel
theorem dX0_steer_29 : decode cX0_steer 29 = .ok (.iconst 1, 1) := by decide +kernel
theorem dX0_steer_30 : decode cX0_steer 30 = .ok (.iadd, 1) := by decide +kernel
theorem dX0_steer_31 : decode cX0_steer 31 = .ok (.ireturn, 1) := by decide +kernel
theorem dX0_steer_32 : decode cX0_steer 32 = .ok (.aload_n 0, 1) := by decide +kernel
theorem dX0_steer_33 : decode cX0_steer 33 = .ok (.invokevirtual 21, 3) := by decide +kernel
theorem dX0_steer_36 : decode cX0_steer 36 = .ok (.ifCond .eq 25, 3) := by decide +kernel
theorem dX0_steer_39 : decode cX0_steer 39 = .ok (.iconst 4, 1) := by decide +kernel
theorem dX0_steer_40 : decode cX0_steer 40 = .ok (.aload_n 0, 1) := by decide +kernel
theorem dX0_steer_41 : decode cX0_steer 41 = .ok (.getfield 18, 3) := by decide +kernel
theorem dX0_steer_44 : decode cX0_steer 44 = .ok (.imul, 1) := by decide +kernel
theorem dX0_steer_45 : decode cX0_steer 45 = .ok (.aload_n 0, 1) := by decide +kernel
theorem dX0_steer_46 : decode cX0_steer 46 = .ok (.getfield 9, 3) := by decide +kernel
theorem dX0_steer_49 : decode cX0_steer 49 = .ok (.if_icmp .ge 12, 3) := by decide +kernel
theorem dX0_steer_52 : decode cX0_steer 52 = .ok (.iload_n 1, 1) := by decide +kernel
theorem dX0_steer_53 : decode cX0_steer 53 = .ok (.iconst 1, 1) := by decide +kernel
theorem dX0_steer_54 : decode cX0_steer 54 = .ok (.if_icmp .le 7, 3) := by decide +kernel
theorem dX0_steer_57 : decode cX0_steer 57 = .ok (.iload_n 1, 1) := by decide +kernel
theorem dX0_steer_58 : decode cX0_steer 58 = .ok (.iconst 1, 1) := by decide +kernel
theorem dX0_steer_59 : decode cX0_steer 59 = .ok (.isub, 1) := by decide +kernel
theorem dX0_steer_60 : decode cX0_steer 60 = .ok (.ireturn, 1) := by decide +kernel
theorem dX0_steer_61 : decode cX0_steer 61 = .ok (.iload_n 1, 1) := by decide +kernel
theorem dX0_steer_62 : decode cX0_steer 62 = .ok (.ireturn, 1) := by decide +kernel
theorem dX1_init_0 : decode cX1_init 0 = .ok (.aload_n 0, 1) := by decide +kernel
theorem dX1_init_1 : decode cX1_init 1 = .ok (.invokespecial 3, 3) := by decide +kernel
theorem dX1_init_4 : decode cX1_init 4 = .ok (.aload_n 0, 1) := by decide +kernel
theorem dX1_init_5 : decode cX1_init 5 = .ok (.new 9, 3) := by decide +kernel
theorem dX1_init_8 : decode cX1_init 8 = .ok (.dup, 1) := by decide +kernel
theorem dX1_init_9 : decode cX1_init 9 = .ok (.invokespecial 11, 3) := by decide +kernel
theorem dX1_init_12 : decode cX1_init 12 = .ok (.putfield 12, 3) := by decide +kernel
theorem dX1_init_15 : decode cX1_init 15 = .ok (.aload_n 0, 1) := by decide +kernel
theorem dX1_init_16 : decode cX1_init 16 = .ok (.new 9, 3) := by decide +kernel
theorem dX1_init_19 : decode cX1_init 19 = .ok (.dup, 1) := by decide +kernel
theorem dX1_init_20 : decode cX1_init 20 = .ok (.invokespecial 11, 3) := by decide +kernel
theorem dX1_init_23 : decode cX1_init 23 = .ok (.putfield 18, 3) := by decide +kernel
theorem dX1_init_26 : decode cX1_init 26 = .ok (.aload_n 0, 1) := by decide +kernel
theorem dX1_init_27 : decode cX1_init 27 = .ok (.bipush 8, 2) := by decide +kernel
theorem dX1_init_29 : decode cX1_init 29 = .ok (.newarray .int, 2) := by decide +kernel
theorem dX1_init_31 : decode cX1_init 31 = .ok (.putfield 21, 3) := by decide +kernel
theorem dX1_init_34 : decode cX1_init 34 = .ok (.aload_n 0, 1) := by decide +kernel
theorem dX1_init_35 : decode cX1_init 35 = .ok (.bipush 8, 2) := by decide +kernel
theorem dX1_init_37 : decode cX1_init 37 = .ok (.newarray .int, 2) := by decide +kernel
theorem dX1_init_39 : decode cX1_init 39 = .ok (.putfield 25, 3) := by decide +kernel
theorem dX1_init_42 : decode cX1_init 42 = .ok (.aload_n 0, 1) := by decide +kernel
theorem dX1_init_43 : decode cX1_init 43 = .ok (.sipush 128, 3) := by decide +kernel
theorem dX1_init_46 : decode cX1_init 46 = .ok (.putfield 28, 3) := by decide +kernel
theorem dX1_init_49 : decode cX1_init 49 = .ok (.aload_n 0, 1) := by decide +kernel
theorem dX1_init_50 : decode cX1_init 50 = .ok (.sipush 128, 3) := by decide +kernel
theorem dX1_init_53 : decode cX1_init 53 = .ok (.putfield 32, 3) := by decide +kernel
theorem dX1_init_56 : decode cX1_init 56 = .ok (.aload_n 0, 1) := by decide +kernel
theorem dX1_init_57 : decode cX1_init 57 = .ok (.sipush 256, 3) := by decide +kernel
theorem dX1_init_60 : decode cX1_init 60 = .ok (.newarray .int, 2) := by decide +kernel
theorem dX1_init_62 : decode cX1_init 62 = .ok (.putfield 35, 3) := by decide +kernel
theorem dX1_init_65 : decode cX1_init 65 = .ok (.aload_n 0, 1) := by decide +kernel
theorem dX1_init_66 : decode cX1_init 66 = .ok (.bipush 16, 2) := by decide +kernel
theorem dX1_init_68 : decode cX1_init 68 = .ok (.newarray .int, 2) := by decide +kernel
theorem dX1_init_70 : decode cX1_init 70 = .ok (.putfield 38, 3) := by decide +kernel
theorem dX1_init_73 : decode cX1_init 73 = .ok (.return_, 1) := by decide +kernel
theorem dX1_takeBorder_0 : decode cX1_takeBorder 0 = .ok (.iconst 0, 1) := by decide +kernel
theorem dX1_takeBorder_1 : decode cX1_takeBorder 1 = .ok (.istore_n 3, 1) := by decide +kernel
theorem dX1_takeBorder_2 : decode cX1_takeBorder 2 = .ok (.iconst 0, 1) := by decide +kernel
theorem dX1_takeBorder_3 : decode cX1_takeBorder 3 = .ok (.istore 4, 2) := by decide +kernel
theorem dX1_takeBorder_5 : decode cX1_takeBorder 5 = .ok (.iload 4, 2) := by decide +kernel
theorem dX1_takeBorder_7 : decode cX1_takeBorder 7 = .ok (.aload_n 2, 1) := by decide +kernel
theorem dX1_takeBorder_8 : decode cX1_takeBorder 8 = .ok (.getfield 41, 3) := by decide +kernel
theorem dX1_takeBorder_11 : decode cX1_takeBorder 11 = .ok (.if_icmp .ge 85, 3) := by decide +kernel
theorem dX1_takeBorder_14 : decode cX1_takeBorder 14 = .ok (.aload_n 1, 1) := by decide +kernel
theorem dX1_takeBorder_15 : decode cX1_takeBorder 15 = .ok (.aload_n 2, 1) := by decide +kernel
theorem dX1_takeBorder_16 : decode cX1_takeBorder 16 = .ok (.getfield 46, 3) := by decide +kernel
theorem dX1_takeBorder_19 : decode cX1_takeBorder 19 = .ok (.iload 4, 2) := by decide +kernel
theorem dX1_takeBorder_21 : decode cX1_takeBorder 21 = .ok (.iadd, 1) := by decide +kernel
theorem dX1_takeBorder_22 : decode cX1_takeBorder 22 = .ok (.aload_n 2, 1) := by decide +kernel
theorem dX1_takeBorder_23 : decode cX1_takeBorder 23 = .ok (.getfield 49, 3) := by decide +kernel
theorem dX1_takeBorder_26 : decode cX1_takeBorder 26 = .ok (.iconst 1, 1) := by decide +kernel
theorem dX1_takeBorder_27 : decode cX1_takeBorder 27 = .ok (.isub, 1) := by decide +kernel
theorem dX1_takeBorder_28 : decode cX1_takeBorder 28 = .ok (.aload_n 2, 1) := by decide +kernel
theorem dX1_takeBorder_29 : decode cX1_takeBorder 29 = .ok (.getfield 52, 3) := by decide +kernel
theorem dX1_takeBorder_32 : decode cX1_takeBorder 32 = .ok (.invokestatic 55, 3) := by decide +kernel
theorem dX1_takeBorder_35 : decode cX1_takeBorder 35 = .ok (.istore 5, 2) := by decide +kernel
theorem dX1_takeBorder_37 : decode cX1_takeBorder 37 = .ok (.aload_n 1, 1) := by decide +kernel
theorem dX1_takeBorder_38 : decode cX1_takeBorder 38 = .ok (.aload_n 2, 1) := by decide +kernel
theorem dX1_takeBorder_39 : decode cX1_takeBorder 39 = .ok (.getfield 46, 3) := by decide +kernel
theorem dX1_takeBorder_42 : decode cX1_takeBorder 42 = .ok (.iconst 1, 1) := by decide +kernel
theorem dX1_takeBorder_43 : decode cX1_takeBorder 43 = .ok (.isub, 1) := by decide +kernel
theorem dX1_takeBorder_44 : decode cX1_takeBorder 44 = .ok (.aload_n 2, 1) := by decide +kernel
theorem dX1_takeBorder_45 : decode cX1_takeBorder 45 = .ok (.getfield 49, 3) := by decide +kernel
theorem dX1_takeBorder_48 : decode cX1_takeBorder 48 = .ok (.iload 4, 2) := by decide +kernel
theorem dX1_takeBorder_50 : decode cX1_takeBorder 50 = .ok (.iadd, 1) := by decide +kernel
theorem dX1_takeBorder_51 : decode cX1_takeBorder 51 = .ok (.aload_n 2, 1) := by decide +kernel
theorem dX1_takeBorder_52 : decode cX1_takeBorder 52 = .ok (.getfield 52, 3) := by decide +kernel
theorem dX1_takeBorder_55 : decode cX1_takeBorder 55 = .ok (.invokestatic 55, 3) := by decide +kernel
theorem dX1_takeBorder_58 : decode cX1_takeBorder 58 = .ok (.istore 6, 2) := by decide +kernel
theorem dX1_takeBorder_60 : decode cX1_takeBorder 60 = .ok (.aload_n 0, 1) := by decide +kernel
theorem dX1_takeBorder_61 : decode cX1_takeBorder 61 = .ok (.getfield 21, 3) := by decide +kernel
theorem dX1_takeBorder_64 : decode cX1_takeBorder 64 = .ok (.iload 4, 2) := by decide +kernel
theorem dX1_takeBorder_66 : decode cX1_takeBorder 66 = .ok (.iload 5, 2) := by decide +kernel
theorem dX1_takeBorder_68 : decode cX1_takeBorder 68 = .ok (.invokestatic 59, 3) := by decide +kernel
theorem dX1_takeBorder_71 : decode cX1_takeBorder 71 = .ok (.aload_n 0, 1) := by decide +kernel
theorem dX1_takeBorder_72 : decode cX1_takeBorder 72 = .ok (.getfield 25, 3) := by decide +kernel
theorem dX1_takeBorder_75 : decode cX1_takeBorder 75 = .ok (.iload 4, 2) := by decide +kernel
theorem dX1_takeBorder_77 : decode cX1_takeBorder 77 = .ok (.iload 6, 2) := by decide +kernel
theorem dX1_takeBorder_79 : decode cX1_takeBorder 79 = .ok (.invokestatic 59, 3) := by decide +kernel
theorem dX1_takeBorder_82 : decode cX1_takeBorder 82 = .ok (.iload_n 3, 1) := by decide +kernel
theorem dX1_takeBorder_83 : decode cX1_takeBorder 83 = .ok (.iload 5, 2) := by decide +kernel
theorem dX1_takeBorder_85 : decode cX1_takeBorder 85 = .ok (.iload 6, 2) := by decide +kernel
theorem dX1_takeBorder_87 : decode cX1_takeBorder 87 = .ok (.iadd, 1) := by decide +kernel
theorem dX1_takeBorder_88 : decode cX1_takeBorder 88 = .ok (.iadd, 1) := by decide +kernel
theorem dX1_takeBorder_89 : decode cX1_takeBorder 89 = .ok (.istore_n 3, 1) := by decide +kernel
theorem dX1_takeBorder_90 : decode cX1_takeBorder 90 = .ok (.iinc 4 1, 3) := by decide +kernel
theorem dX1_takeBorder_93 : decode cX1_takeBorder 93 = .ok (.goto (-88), 3) := by decide +kernel
theorem dX1_takeBorder_96 : decode cX1_takeBorder 96 = .ok (.aload_n 0, 1) := by decide +kernel
theorem dX1_takeBorder_97 : decode cX1_takeBorder 97 = .ok (.aload_n 1, 1) := by decide +kernel
theorem dX1_takeBorder_98 : decode cX1_takeBorder 98 = .ok (.aload_n 2, 1) := by decide +kernel
theorem dX1_takeBorder_99 : decode cX1_takeBorder 99 = .ok (.getfield 46, 3) := by decide +kernel
theorem dX1_takeBorder_102 : decode cX1_takeBorder 102 = .ok (.iconst 1, 1) := by decide +kernel
theorem dX1_takeBorder_103 : decode cX1_takeBorder 103 = .ok (.isub, 1) := by decide +kernel
theorem dX1_takeBorder_104 : decode cX1_takeBorder 104 = .ok (.aload_n 2, 1) := by decide +kernel
theorem dX1_takeBorder_105 : decode cX1_takeBorder 105 = .ok (.getfield 49, 3) := by decide +kernel
theorem dX1_takeBorder_108 : decode cX1_takeBorder 108 = .ok (.iconst 1, 1) := by decide +kernel
theorem dX1_takeBorder_109 : decode cX1_takeBorder 109 = .ok (.isub, 1) := by decide +kernel
theorem dX1_takeBorder_110 : decode cX1_takeBorder 110 = .ok (.aload_n 2, 1) := by decide +kernel
theorem dX1_takeBorder_111 : decode cX1_takeBorder 111 = .ok (.getfield 52, 3) := by decide +kernel
theorem dX1_takeBorder_114 : decode cX1_takeBorder 114 = .ok (.invokestatic 55, 3) := by decide +kernel
theorem dX1_takeBorder_117 : decode cX1_takeBorder 117 = .ok (.putfield 28, 3) := by decide +kernel
theorem dX1_takeBorder_120 : decode cX1_takeBorder 120 = .ok (.aload_n 0, 1) := by decide +kernel
theorem dX1_takeBorder_121 : decode cX1_takeBorder 121 = .ok (.aload_n 2, 1) := by decide +kernel
theorem dX1_takeBorder_122 : decode cX1_takeBorder 122 = .ok (.getfield 41, 3) := by decide +kernel
theorem dX1_takeBorder_125 : decode cX1_takeBorder 125 = .ok (.ifCond .le 19, 3) := by decide +kernel
theorem dX1_takeBorder_128 : decode cX1_takeBorder 128 = .ok (.iload_n 3, 1) := by decide +kernel
theorem dX1_takeBorder_129 : decode cX1_takeBorder 129 = .ok (.aload_n 2, 1) := by decide +kernel
theorem dX1_takeBorder_130 : decode cX1_takeBorder 130 = .ok (.getfield 41, 3) := by decide +kernel
theorem dX1_takeBorder_133 : decode cX1_takeBorder 133 = .ok (.iadd, 1) := by decide +kernel
theorem dX1_takeBorder_134 : decode cX1_takeBorder 134 = .ok (.iconst 2, 1) := by decide +kernel
theorem dX1_takeBorder_135 : decode cX1_takeBorder 135 = .ok (.aload_n 2, 1) := by decide +kernel
theorem dX1_takeBorder_136 : decode cX1_takeBorder 136 = .ok (.getfield 41, 3) := by decide +kernel
theorem dX1_takeBorder_139 : decode cX1_takeBorder 139 = .ok (.imul, 1) := by decide +kernel
theorem dX1_takeBorder_140 : decode cX1_takeBorder 140 = .ok (.idiv, 1) := by decide +kernel
theorem dX1_takeBorder_141 : decode cX1_takeBorder 141 = .ok (.goto 6, 3) := by decide +kernel
theorem dX1_takeBorder_144 : decode cX1_takeBorder 144 = .ok (.sipush 128, 3) := by decide +kernel
theorem dX1_takeBorder_147 : decode cX1_takeBorder 147 = .ok (.putfield 32, 3) := by decide +kernel
theorem dX1_takeBorder_150 : decode cX1_takeBorder 150 = .ok (.return_, 1) := by decide +kernel
theorem dX1_bordering_0 : decode cX1_bordering 0 = .ok (.iload_n 1, 1) := by decide +kernel
theorem dX1_bordering_1 : decode cX1_bordering 1 = .ok (.ifCond .lt 8, 3) := by decide +kernel
theorem dX1_bordering_4 : decode cX1_bordering 4 = .ok (.iload_n 2, 1) := by decide +kernel
theorem dX1_bordering_5 : decode cX1_bordering 5 = .ok (.iload_n 3, 1) := by decide +kernel
theorem dX1_bordering_6 : decode cX1_bordering 6 = .ok (.if_icmp .ge 9, 3) := by decide +kernel
theorem dX1_bordering_9 : decode cX1_bordering 9 = .ok (.sipush 128, 3) := by decide +kernel
theorem dX1_bordering_12 : decode cX1_bordering 12 = .ok (.goto 12, 3) := by decide +kernel
theorem dX1_bordering_15 : decode cX1_bordering 15 = .ok (.aload_n 0, 1) := by decide +kernel
theorem dX1_bordering_16 : decode cX1_bordering 16 = .ok (.iload_n 1, 1) := by decide +kernel
theorem dX1_bordering_17 : decode cX1_bordering 17 = .ok (.iload_n 2, 1) := by decide +kernel
theorem dX1_bordering_18 : decode cX1_bordering 18 = .ok (.invokestatic 65, 3) := by decide +kernel
theorem dX1_bordering_21 : decode cX1_bordering 21 = .ok (.invokestatic 69, 3) := by decide +kernel
theorem dX1_bordering_24 : decode cX1_bordering 24 = .ok (.ireturn, 1) := by decide +kernel
theorem dX1_guessPart_0 : decode cX1_guessPart 0 = .ok (.aload_n 1, 1) := by decide +kernel
theorem dX1_guessPart_1 : decode cX1_guessPart 1 = .ok (.getfield 49, 3) := by decide +kernel
theorem dX1_guessPart_4 : decode cX1_guessPart 4 = .ok (.istore_n 2, 1) := by decide +kernel
theorem dX1_guessPart_5 : decode cX1_guessPart 5 = .ok (.iload_n 2, 1) := by decide +kernel
theorem dX1_guessPart_6 : decode cX1_guessPart 6 = .ok (.aload_n 1, 1) := by decide +kernel
theorem dX1_guessPart_7 : decode cX1_guessPart 7 = .ok (.getfield 49, 3) := by decide +kernel
theorem dX1_guessPart_10 : decode cX1_guessPart 10 = .ok (.aload_n 1, 1) := by decide +kernel
theorem dX1_guessPart_11 : decode cX1_guessPart 11 = .ok (.getfield 41, 3) := by decide +kernel
theorem dX1_guessPart_14 : decode cX1_guessPart 14 = .ok (.iadd, 1) := by decide +kernel
theorem dX1_guessPart_15 : decode cX1_guessPart 15 = .ok (.if_icmp .ge 86, 3) := by decide +kernel
theorem dX1_guessPart_18 : decode cX1_guessPart 18 = .ok (.aload_n 1, 1) := by decide +kernel
theorem dX1_guessPart_19 : decode cX1_guessPart 19 = .ok (.getfield 46, 3) := by decide +kernel
theorem dX1_guessPart_22 : decode cX1_guessPart 22 = .ok (.istore_n 3, 1) := by decide +kernel
theorem dX1_guessPart_23 : decode cX1_guessPart 23 = .ok (.iload_n 3, 1) := by decide +kernel
theorem dX1_guessPart_24 : decode cX1_guessPart 24 = .ok (.aload_n 1, 1) := by decide +kernel
theorem dX1_guessPart_25 : decode cX1_guessPart 25 = .ok (.getfield 46, 3) := by decide +kernel
theorem dX1_guessPart_28 : decode cX1_guessPart 28 = .ok (.aload_n 1, 1) := by decide +kernel
theorem dX1_guessPart_29 : decode cX1_guessPart 29 = .ok (.getfield 41, 3) := by decide +kernel
theorem dX1_guessPart_32 : decode cX1_guessPart 32 = .ok (.iadd, 1) := by decide +kernel
theorem dX1_guessPart_33 : decode cX1_guessPart 33 = .ok (.if_icmp .ge 62, 3) := by decide +kernel
theorem dX1_guessPart_36 : decode cX1_guessPart 36 = .ok (.aload_n 1, 1) := by decide +kernel
theorem dX1_guessPart_37 : decode cX1_guessPart 37 = .ok (.invokevirtual 73, 3) := by decide +kernel
theorem dX1_guessPart_40 : decode cX1_guessPart 40 = .ok (.ifCond .eq 26, 3) := by decide +kernel
theorem dX1_guessPart_43 : decode cX1_guessPart 43 = .ok (.aload_n 0, 1) := by decide +kernel
theorem dX1_guessPart_44 : decode cX1_guessPart 44 = .ok (.aload_n 1, 1) := by decide +kernel
theorem dX1_guessPart_45 : decode cX1_guessPart 45 = .ok (.getfield 77, 3) := by decide +kernel
theorem dX1_guessPart_48 : decode cX1_guessPart 48 = .ok (.iload_n 3, 1) := by decide +kernel
theorem dX1_guessPart_49 : decode cX1_guessPart 49 = .ok (.aload_n 1, 1) := by decide +kernel
theorem dX1_guessPart_50 : decode cX1_guessPart 50 = .ok (.getfield 46, 3) := by decide +kernel
theorem dX1_guessPart_53 : decode cX1_guessPart 53 = .ok (.isub, 1) := by decide +kernel
theorem dX1_guessPart_54 : decode cX1_guessPart 54 = .ok (.iload_n 2, 1) := by decide +kernel
theorem dX1_guessPart_55 : decode cX1_guessPart 55 = .ok (.aload_n 1, 1) := by decide +kernel
theorem dX1_guessPart_56 : decode cX1_guessPart 56 = .ok (.getfield 49, 3) := by decide +kernel
theorem dX1_guessPart_59 : decode cX1_guessPart 59 = .ok (.isub, 1) := by decide +kernel
theorem dX1_guessPart_60 : decode cX1_guessPart 60 = .ok (.invokevirtual 80, 3) := by decide +kernel
theorem dX1_guessPart_63 : decode cX1_guessPart 63 = .ok (.goto 10, 3) := by decide +kernel
theorem dX1_guessPart_66 : decode cX1_guessPart 66 = .ok (.aload_n 0, 1) := by decide +kernel
theorem dX1_guessPart_67 : decode cX1_guessPart 67 = .ok (.aload_n 1, 1) := by decide +kernel
theorem dX1_guessPart_68 : decode cX1_guessPart 68 = .ok (.iload_n 3, 1) := by decide +kernel
theorem dX1_guessPart_69 : decode cX1_guessPart 69 = .ok (.iload_n 2, 1) := by decide +kernel
theorem dX1_guessPart_70 : decode cX1_guessPart 70 = .ok (.invokevirtual 84, 3) := by decide +kernel
theorem dX1_guessPart_73 : decode cX1_guessPart 73 = .ok (.istore 4, 2) := by decide +kernel
theorem dX1_guessPart_75 : decode cX1_guessPart 75 = .ok (.aload_n 0, 1) := by decide +kernel
theorem dX1_guessPart_76 : decode cX1_guessPart 76 = .ok (.getfield 35, 3) := by decide +kernel
theorem dX1_guessPart_79 : decode cX1_guessPart 79 = .ok (.iload_n 3, 1) := by decide +kernel
theorem dX1_guessPart_80 : decode cX1_guessPart 80 = .ok (.iload_n 2, 1) := by decide +kernel
theorem dX1_guessPart_81 : decode cX1_guessPart 81 = .ok (.invokestatic 65, 3) := by decide +kernel
theorem dX1_guessPart_84 : decode cX1_guessPart 84 = .ok (.iload 4, 2) := by decide +kernel
theorem dX1_guessPart_86 : decode cX1_guessPart 86 = .ok (.invokestatic 59, 3) := by decide +kernel
theorem dX1_guessPart_89 : decode cX1_guessPart 89 = .ok (.iinc 3 1, 3) := by decide +kernel
theorem dX1_guessPart_92 : decode cX1_guessPart 92 = .ok (.goto (-69), 3) := by decide +kernel
theorem dX1_guessPart_95 : decode cX1_guessPart 95 = .ok (.iinc 2 1, 3) := by decide +kernel
theorem dX1_guessPart_98 : decode cX1_guessPart 98 = .ok (.goto (-93), 3) := by decide +kernel
theorem dX1_guessPart_101 : decode cX1_guessPart 101 = .ok (.return_, 1) := by decide +kernel
theorem dX1_fromBorder_0 : decode cX1_fromBorder 0 = .ok (.iload_n 1, 1) := by decide +kernel
theorem dX1_fromBorder_1 : decode cX1_fromBorder 1 = .ok (.tableswitch 50 0 2 #[27, 32, 41], 27) := by decide +kernel
theorem dX1_fromBorder_28 : decode cX1_fromBorder 28 = .ok (.aload_n 0, 1) := by decide +kernel
theorem dX1_fromBorder_29 : decode cX1_fromBorder 29 = .ok (.getfield 32, 3) := by decide +kernel
theorem dX1_fromBorder_32 : decode cX1_fromBorder 32 = .ok (.ireturn, 1) := by decide +kernel
theorem dX1_fromBorder_33 : decode cX1_fromBorder 33 = .ok (.aload_n 0, 1) := by decide +kernel
theorem dX1_fromBorder_34 : decode cX1_fromBorder 34 = .ok (.getfield 21, 3) := by decide +kernel
theorem dX1_fromBorder_37 : decode cX1_fromBorder 37 = .ok (.iload_n 2, 1) := by decide +kernel
theorem dX1_fromBorder_38 : decode cX1_fromBorder 38 = .ok (.invokestatic 69, 3) := by decide +kernel
theorem dX1_fromBorder_41 : decode cX1_fromBorder 41 = .ok (.ireturn, 1) := by decide +kernel
theorem dX1_fromBorder_42 : decode cX1_fromBorder 42 = .ok (.aload_n 0, 1) := by decide +kernel
theorem dX1_fromBorder_43 : decode cX1_fromBorder 43 = .ok (.getfield 25, 3) := by decide +kernel
theorem dX1_fromBorder_46 : decode cX1_fromBorder 46 = .ok (.iload_n 3, 1) := by decide +kernel
theorem dX1_fromBorder_47 : decode cX1_fromBorder 47 = .ok (.invokestatic 69, 3) := by decide +kernel
theorem dX1_fromBorder_50 : decode cX1_fromBorder 50 = .ok (.ireturn, 1) := by decide +kernel
theorem dX1_fromBorder_51 : decode cX1_fromBorder 51 = .ok (.aload_n 0, 1) := by decide +kernel
theorem dX1_fromBorder_52 : decode cX1_fromBorder 52 = .ok (.getfield 21, 3) := by decide +kernel
theorem dX1_fromBorder_55 : decode cX1_fromBorder 55 = .ok (.iload_n 2, 1) := by decide +kernel
theorem dX1_fromBorder_56 : decode cX1_fromBorder 56 = .ok (.invokestatic 69, 3) := by decide +kernel
theorem dX1_fromBorder_59 : decode cX1_fromBorder 59 = .ok (.aload_n 0, 1) := by decide +kernel
theorem dX1_fromBorder_60 : decode cX1_fromBorder 60 = .ok (.getfield 25, 3) := by decide +kernel
theorem dX1_fromBorder_63 : decode cX1_fromBorder 63 = .ok (.iload_n 3, 1) := by decide +kernel
theorem dX1_fromBorder_64 : decode cX1_fromBorder 64 = .ok (.invokestatic 69, 3) := by decide +kernel
theorem dX1_fromBorder_67 : decode cX1_fromBorder 67 = .ok (.iadd, 1) := by decide +kernel
theorem dX1_fromBorder_68 : decode cX1_fromBorder 68 = .ok (.aload_n 0, 1) := by decide +kernel
theorem dX1_fromBorder_69 : decode cX1_fromBorder 69 = .ok (.getfield 28, 3) := by decide +kernel
theorem dX1_fromBorder_72 : decode cX1_fromBorder 72 = .ok (.isub, 1) := by decide +kernel
theorem dX1_fromBorder_73 : decode cX1_fromBorder 73 = .ok (.invokestatic 88, 3) := by decide +kernel
theorem dX1_fromBorder_76 : decode cX1_fromBorder 76 = .ok (.ireturn, 1) := by decide +kernel
theorem dX1_fromKept_0 : decode cX1_fromKept 0 = .ok (.aload_n 1, 1) := by decide +kernel
theorem dX1_fromKept_1 : decode cX1_fromKept 1 = .ok (.invokevirtual 92, 3) := by decide +kernel
theorem dX1_fromKept_4 : decode cX1_fromKept 4 = .ok (.ifCond .ne 17, 3) := by decide +kernel
theorem dX1_fromKept_7 : decode cX1_fromKept 7 = .ok (.aload_n 0, 1) := by decide +kernel
theorem dX1_fromKept_8 : decode cX1_fromKept 8 = .ok (.getfield 12, 3) := by decide +kernel
theorem dX1_fromKept_11 : decode cX1_fromKept 11 = .ok (.aload_n 1, 1) := by decide +kernel
theorem dX1_fromKept_12 : decode cX1_fromKept 12 = .ok (.getfield 95, 3) := by decide +kernel
theorem dX1_fromKept_15 : decode cX1_fromKept 15 = .ok (.iload_n 2, 1) := by decide +kernel
theorem dX1_fromKept_16 : decode cX1_fromKept 16 = .ok (.iload_n 3, 1) := by decide +kernel
theorem dX1_fromKept_17 : decode cX1_fromKept 17 = .ok (.invokevirtual 98, 3) := by decide +kernel
theorem dX1_fromKept_20 : decode cX1_fromKept 20 = .ok (.ireturn, 1) := by decide +kernel
theorem dX1_fromKept_21 : decode cX1_fromKept 21 = .ok (.aload_n 1, 1) := by decide +kernel
theorem dX1_fromKept_22 : decode cX1_fromKept 22 = .ok (.invokevirtual 101, 3) := by decide +kernel
theorem dX1_fromKept_25 : decode cX1_fromKept 25 = .ok (.ifCond .ne 17, 3) := by decide +kernel
theorem dX1_fromKept_28 : decode cX1_fromKept 28 = .ok (.aload_n 0, 1) := by decide +kernel
theorem dX1_fromKept_29 : decode cX1_fromKept 29 = .ok (.getfield 18, 3) := by decide +kernel
theorem dX1_fromKept_32 : decode cX1_fromKept 32 = .ok (.aload_n 1, 1) := by decide +kernel
theorem dX1_fromKept_33 : decode cX1_fromKept 33 = .ok (.getfield 104, 3) := by decide +kernel
theorem dX1_fromKept_36 : decode cX1_fromKept 36 = .ok (.iload_n 2, 1) := by decide +kernel
theorem dX1_fromKept_37 : decode cX1_fromKept 37 = .ok (.iload_n 3, 1) := by decide +kernel
theorem dX1_fromKept_38 : decode cX1_fromKept 38 = .ok (.invokevirtual 98, 3) := by decide +kernel
theorem dX1_fromKept_41 : decode cX1_fromKept 41 = .ok (.ireturn, 1) := by decide +kernel
theorem dX1_fromKept_42 : decode cX1_fromKept 42 = .ok (.aload_n 0, 1) := by decide +kernel
theorem dX1_fromKept_43 : decode cX1_fromKept 43 = .ok (.getfield 12, 3) := by decide +kernel
theorem dX1_fromKept_46 : decode cX1_fromKept 46 = .ok (.aload_n 1, 1) := by decide +kernel
theorem dX1_fromKept_47 : decode cX1_fromKept 47 = .ok (.getfield 95, 3) := by decide +kernel
theorem dX1_fromKept_50 : decode cX1_fromKept 50 = .ok (.iload_n 2, 1) := by decide +kernel
theorem dX1_fromKept_51 : decode cX1_fromKept 51 = .ok (.iload_n 3, 1) := by decide +kernel
theorem dX1_fromKept_52 : decode cX1_fromKept 52 = .ok (.invokevirtual 98, 3) := by decide +kernel
theorem dX1_fromKept_55 : decode cX1_fromKept 55 = .ok (.aload_n 0, 1) := by decide +kernel
theorem dX1_fromKept_56 : decode cX1_fromKept 56 = .ok (.getfield 18, 3) := by decide +kernel
theorem dX1_fromKept_59 : decode cX1_fromKept 59 = .ok (.aload_n 1, 1) := by decide +kernel
theorem dX1_fromKept_60 : decode cX1_fromKept 60 = .ok (.getfield 104, 3) := by decide +kernel
theorem dX1_fromKept_63 : decode cX1_fromKept 63 = .ok (.iload_n 2, 1) := by decide +kernel
theorem dX1_fromKept_64 : decode cX1_fromKept 64 = .ok (.iload_n 3, 1) := by decide +kernel
theorem dX1_fromKept_65 : decode cX1_fromKept 65 = .ok (.invokevirtual 98, 3) := by decide +kernel
theorem dX1_fromKept_68 : decode cX1_fromKept 68 = .ok (.iadd, 1) := by decide +kernel
theorem dX1_fromKept_69 : decode cX1_fromKept 69 = .ok (.istore 4, 2) := by decide +kernel
theorem dX1_fromKept_71 : decode cX1_fromKept 71 = .ok (.iload 4, 2) := by decide +kernel
theorem dX1_fromKept_73 : decode cX1_fromKept 73 = .ok (.iconst 1, 1) := by decide +kernel
theorem dX1_fromKept_74 : decode cX1_fromKept 74 = .ok (.iadd, 1) := by decide +kernel
theorem dX1_fromKept_75 : decode cX1_fromKept 75 = .ok (.iconst 1, 1) := by decide +kernel
theorem dX1_fromKept_76 : decode cX1_fromKept 76 = .ok (.ishr, 1) := by decide +kernel
theorem dX1_fromKept_77 : decode cX1_fromKept 77 = .ok (.ireturn, 1) := by decide +kernel
theorem dX1_guessError_0 : decode cX1_guessError 0 = .ok (.iconst 0, 1) := by decide +kernel
theorem dX1_guessError_1 : decode cX1_guessError 1 = .ok (.istore_n 3, 1) := by decide +kernel
theorem dX1_guessError_2 : decode cX1_guessError 2 = .ok (.aload_n 2, 1) := by decide +kernel
theorem dX1_guessError_3 : decode cX1_guessError 3 = .ok (.getfield 49, 3) := by decide +kernel
theorem dX1_guessError_6 : decode cX1_guessError 6 = .ok (.istore 4, 2) := by decide +kernel
theorem dX1_guessError_8 : decode cX1_guessError 8 = .ok (.iload 4, 2) := by decide +kernel
theorem dX1_guessError_10 : decode cX1_guessError 10 = .ok (.aload_n 2, 1) := by decide +kernel
theorem dX1_guessError_11 : decode cX1_guessError 11 = .ok (.getfield 49, 3) := by decide +kernel
theorem dX1_guessError_14 : decode cX1_guessError 14 = .ok (.aload_n 2, 1) := by decide +kernel
theorem dX1_guessError_15 : decode cX1_guessError 15 = .ok (.getfield 41, 3) := by decide +kernel
theorem dX1_guessError_18 : decode cX1_guessError 18 = .ok (.iadd, 1) := by decide +kernel
theorem dX1_guessError_19 : decode cX1_guessError 19 = .ok (.if_icmp .ge 66, 3) := by decide +kernel
theorem dX1_guessError_22 : decode cX1_guessError 22 = .ok (.aload_n 2, 1) := by decide +kernel
theorem dX1_guessError_23 : decode cX1_guessError 23 = .ok (.getfield 46, 3) := by decide +kernel
theorem dX1_guessError_26 : decode cX1_guessError 26 = .ok (.istore 5, 2) := by decide +kernel
theorem dX1_guessError_28 : decode cX1_guessError 28 = .ok (.iload 5, 2) := by decide +kernel
theorem dX1_guessError_30 : decode cX1_guessError 30 = .ok (.aload_n 2, 1) := by decide +kernel
theorem dX1_guessError_31 : decode cX1_guessError 31 = .ok (.getfield 46, 3) := by decide +kernel
theorem dX1_guessError_34 : decode cX1_guessError 34 = .ok (.aload_n 2, 1) := by decide +kernel
theorem dX1_guessError_35 : decode cX1_guessError 35 = .ok (.getfield 41, 3) := by decide +kernel
theorem dX1_guessError_38 : decode cX1_guessError 38 = .ok (.iadd, 1) := by decide +kernel
theorem dX1_guessError_39 : decode cX1_guessError 39 = .ok (.if_icmp .ge 40, 3) := by decide +kernel
theorem dX1_guessError_42 : decode cX1_guessError 42 = .ok (.iload 5, 2) := by decide +kernel
theorem dX1_guessError_44 : decode cX1_guessError 44 = .ok (.iload 4, 2) := by decide +kernel
theorem dX1_guessError_46 : decode cX1_guessError 46 = .ok (.invokestatic 65, 3) := by decide +kernel
theorem dX1_guessError_49 : decode cX1_guessError 49 = .ok (.istore 6, 2) := by decide +kernel
theorem dX1_guessError_51 : decode cX1_guessError 51 = .ok (.iload_n 3, 1) := by decide +kernel
theorem dX1_guessError_52 : decode cX1_guessError 52 = .ok (.aload_n 1, 1) := by decide +kernel
theorem dX1_guessError_53 : decode cX1_guessError 53 = .ok (.iload 6, 2) := by decide +kernel
theorem dX1_guessError_55 : decode cX1_guessError 55 = .ok (.invokestatic 69, 3) := by decide +kernel
theorem dX1_guessError_58 : decode cX1_guessError 58 = .ok (.aload_n 0, 1) := by decide +kernel
theorem dX1_guessError_59 : decode cX1_guessError 59 = .ok (.getfield 35, 3) := by decide +kernel
theorem dX1_guessError_62 : decode cX1_guessError 62 = .ok (.iload 6, 2) := by decide +kernel
theorem dX1_guessError_64 : decode cX1_guessError 64 = .ok (.invokestatic 69, 3) := by decide +kernel
theorem dX1_guessError_67 : decode cX1_guessError 67 = .ok (.isub, 1) := by decide +kernel
theorem dX1_guessError_68 : decode cX1_guessError 68 = .ok (.invokestatic 107, 3) := by decide +kernel
theorem dX1_guessError_71 : decode cX1_guessError 71 = .ok (.iadd, 1) := by decide +kernel
theorem dX1_guessError_72 : decode cX1_guessError 72 = .ok (.istore_n 3, 1) := by decide +kernel
theorem dX1_guessError_73 : decode cX1_guessError 73 = .ok (.iinc 5 1, 3) := by decide +kernel
theorem dX1_guessError_76 : decode cX1_guessError 76 = .ok (.goto (-48), 3) := by decide +kernel
theorem dX1_guessError_79 : decode cX1_guessError 79 = .ok (.iinc 4 1, 3) := by decide +kernel
theorem dX1_guessError_82 : decode cX1_guessError 82 = .ok (.goto (-74), 3) := by decide +kernel
theorem dX1_guessError_85 : decode cX1_guessError 85 = .ok (.iload_n 3, 1) := by decide +kernel
theorem dX1_guessError_86 : decode cX1_guessError 86 = .ok (.ireturn, 1) := by decide +kernel
theorem dX1_levelSquare_0 : decode cX1_levelSquare 0 = .ok (.iconst 0, 1) := by decide +kernel
theorem dX1_levelSquare_1 : decode cX1_levelSquare 1 = .ok (.istore 4, 2) := by decide +kernel
theorem dX1_levelSquare_3 : decode cX1_levelSquare 3 = .ok (.iload 4, 2) := by decide +kernel
theorem dX1_levelSquare_5 : decode cX1_levelSquare 5 = .ok (.aload_n 0, 1) := by decide +kernel
theorem dX1_levelSquare_6 : decode cX1_levelSquare 6 = .ok (.getfield 38, 3) := by decide +kernel
theorem dX1_levelSquare_9 : decode cX1_levelSquare 9 = .ok (.arraylength, 1) := by decide +kernel
theorem dX1_levelSquare_10 : decode cX1_levelSquare 10 = .ok (.if_icmp .ge 41, 3) := by decide +kernel
theorem dX1_levelSquare_13 : decode cX1_levelSquare 13 = .ok (.iload_n 3, 1) := by decide +kernel
theorem dX1_levelSquare_14 : decode cX1_levelSquare 14 = .ok (.iload 4, 2) := by decide +kernel
theorem dX1_levelSquare_16 : decode cX1_levelSquare 16 = .ok (.invokestatic 112, 3) := by decide +kernel
theorem dX1_levelSquare_19 : decode cX1_levelSquare 19 = .ok (.iadd, 1) := by decide +kernel
theorem dX1_levelSquare_20 : decode cX1_levelSquare 20 = .ok (.istore 5, 2) := by decide +kernel
theorem dX1_levelSquare_22 : decode cX1_levelSquare 22 = .ok (.aload_n 0, 1) := by decide +kernel
theorem dX1_levelSquare_23 : decode cX1_levelSquare 23 = .ok (.getfield 38, 3) := by decide +kernel
theorem dX1_levelSquare_26 : decode cX1_levelSquare 26 = .ok (.iload 4, 2) := by decide +kernel
theorem dX1_levelSquare_28 : decode cX1_levelSquare 28 = .ok (.aload_n 2, 1) := by decide +kernel
theorem dX1_levelSquare_29 : decode cX1_levelSquare 29 = .ok (.iload 5, 2) := by decide +kernel
theorem dX1_levelSquare_31 : decode cX1_levelSquare 31 = .ok (.invokestatic 69, 3) := by decide +kernel
theorem dX1_levelSquare_34 : decode cX1_levelSquare 34 = .ok (.aload_n 0, 1) := by decide +kernel
theorem dX1_levelSquare_35 : decode cX1_levelSquare 35 = .ok (.getfield 35, 3) := by decide +kernel
theorem dX1_levelSquare_38 : decode cX1_levelSquare 38 = .ok (.iload 5, 2) := by decide +kernel
theorem dX1_levelSquare_40 : decode cX1_levelSquare 40 = .ok (.invokestatic 69, 3) := by decide +kernel
theorem dX1_levelSquare_43 : decode cX1_levelSquare 43 = .ok (.isub, 1) := by decide +kernel
theorem dX1_levelSquare_44 : decode cX1_levelSquare 44 = .ok (.iastore, 1) := by decide +kernel
theorem dX1_levelSquare_45 : decode cX1_levelSquare 45 = .ok (.iinc 4 1, 3) := by decide +kernel
theorem dX1_levelSquare_48 : decode cX1_levelSquare 48 = .ok (.goto (-45), 3) := by decide +kernel
theorem dX1_levelSquare_51 : decode cX1_levelSquare 51 = .ok (.aload_n 0, 1) := by decide +kernel
theorem dX1_levelSquare_52 : decode cX1_levelSquare 52 = .ok (.invokevirtual 115, 3) := by decide +kernel
theorem dX1_levelSquare_55 : decode cX1_levelSquare 55 = .ok (.iconst 0, 1) := by decide +kernel
theorem dX1_levelSquare_56 : decode cX1_levelSquare 56 = .ok (.istore 4, 2) := by decide +kernel
theorem dX1_levelSquare_58 : decode cX1_levelSquare 58 = .ok (.iload 4, 2) := by decide +kernel
theorem dX1_levelSquare_60 : decode cX1_levelSquare 60 = .ok (.aload_n 0, 1) := by decide +kernel
theorem dX1_levelSquare_61 : decode cX1_levelSquare 61 = .ok (.getfield 38, 3) := by decide +kernel
theorem dX1_levelSquare_64 : decode cX1_levelSquare 64 = .ok (.arraylength, 1) := by decide +kernel
theorem dX1_levelSquare_65 : decode cX1_levelSquare 65 = .ok (.if_icmp .ge 37, 3) := by decide +kernel
theorem dX1_levelSquare_68 : decode cX1_levelSquare 68 = .ok (.aload_n 1, 1) := by decide +kernel
theorem dX1_levelSquare_69 : decode cX1_levelSquare 69 = .ok (.getfield 118, 3) := by decide +kernel
theorem dX1_levelSquare_72 : decode cX1_levelSquare 72 = .ok (.iload_n 3, 1) := by decide +kernel
theorem dX1_levelSquare_73 : decode cX1_levelSquare 73 = .ok (.iload 4, 2) := by decide +kernel
theorem dX1_levelSquare_75 : decode cX1_levelSquare 75 = .ok (.invokestatic 112, 3) := by decide +kernel
theorem dX1_levelSquare_78 : decode cX1_levelSquare 78 = .ok (.iadd, 1) := by decide +kernel
theorem dX1_levelSquare_79 : decode cX1_levelSquare 79 = .ok (.aload_n 0, 1) := by decide +kernel
theorem dX1_levelSquare_80 : decode cX1_levelSquare 80 = .ok (.getfield 38, 3) := by decide +kernel
theorem dX1_levelSquare_83 : decode cX1_levelSquare 83 = .ok (.iload 4, 2) := by decide +kernel
theorem dX1_levelSquare_85 : decode cX1_levelSquare 85 = .ok (.iaload, 1) := by decide +kernel
theorem dX1_levelSquare_86 : decode cX1_levelSquare 86 = .ok (.aload_n 1, 1) := by decide +kernel
theorem dX1_levelSquare_87 : decode cX1_levelSquare 87 = .ok (.getfield 123, 3) := by decide +kernel
theorem dX1_levelSquare_90 : decode cX1_levelSquare 90 = .ok (.invokestatic 126, 3) := by decide +kernel
theorem dX1_levelSquare_93 : decode cX1_levelSquare 93 = .ok (.invokestatic 59, 3) := by decide +kernel
theorem dX1_levelSquare_96 : decode cX1_levelSquare 96 = .ok (.iinc 4 1, 3) := by decide +kernel
theorem dX1_levelSquare_99 : decode cX1_levelSquare 99 = .ok (.goto (-41), 3) := by decide +kernel
theorem dX1_levelSquare_102 : decode cX1_levelSquare 102 = .ok (.return_, 1) := by decide +kernel
theorem dX1_levelOf_0 : decode cX1_levelOf 0 = .ok (.iload_n 1, 1) := by decide +kernel
theorem dX1_levelOf_1 : decode cX1_levelOf 1 = .ok (.iconst 1, 1) := by decide +kernel
theorem dX1_levelOf_2 : decode cX1_levelOf 2 = .ok (.if_icmp .ge 5, 3) := by decide +kernel
theorem dX1_levelOf_5 : decode cX1_levelOf 5 = .ok (.iconst 0, 1) := by decide +kernel
theorem dX1_levelOf_6 : decode cX1_levelOf 6 = .ok (.ireturn, 1) := by decide +kernel
theorem dX1_levelOf_7 : decode cX1_levelOf 7 = .ok (.iload_n 0, 1) := by decide +kernel
theorem dX1_levelOf_8 : decode cX1_levelOf 8 = .ok (.invokestatic 107, 3) := by decide +kernel
theorem dX1_levelOf_11 : decode cX1_levelOf 11 = .ok (.iload_n 1, 1) := by decide +kernel
theorem dX1_levelOf_12 : decode cX1_levelOf 12 = .ok (.iadd, 1) := by decide +kernel
theorem dX1_levelOf_13 : decode cX1_levelOf 13 = .ok (.iconst 4, 1) := by decide +kernel
theorem dX1_levelOf_14 : decode cX1_levelOf 14 = .ok (.iload_n 1, 1) := by decide +kernel
theorem dX1_levelOf_15 : decode cX1_levelOf 15 = .ok (.imul, 1) := by decide +kernel
theorem dX1_levelOf_16 : decode cX1_levelOf 16 = .ok (.idiv, 1) := by decide +kernel
theorem dX1_levelOf_17 : decode cX1_levelOf 17 = .ok (.istore_n 2, 1) := by decide +kernel
theorem dX1_levelOf_18 : decode cX1_levelOf 18 = .ok (.iload_n 0, 1) := by decide +kernel
theorem dX1_levelOf_19 : decode cX1_levelOf 19 = .ok (.ifCond .ge 8, 3) := by decide +kernel
theorem dX1_levelOf_22 : decode cX1_levelOf 22 = .ok (.iload_n 2, 1) := by decide +kernel
theorem dX1_levelOf_23 : decode cX1_levelOf 23 = .ok (.ineg, 1) := by decide +kernel
theorem dX1_levelOf_24 : decode cX1_levelOf 24 = .ok (.goto 4, 3) := by decide +kernel
theorem dX1_levelOf_27 : decode cX1_levelOf 27 = .ok (.iload_n 2, 1) := by decide +kernel
theorem dX1_levelOf_28 : decode cX1_levelOf 28 = .ok (.ireturn, 1) := by decide +kernel
theorem dX1_buildSquare_0 : decode cX1_buildSquare 0 = .ok (.iconst 0, 1) := by decide +kernel
theorem dX1_buildSquare_1 : decode cX1_buildSquare 1 = .ok (.istore 4, 2) := by decide +kernel
theorem dX1_buildSquare_3 : decode cX1_buildSquare 3 = .ok (.iload 4, 2) := by decide +kernel
theorem dX1_buildSquare_5 : decode cX1_buildSquare 5 = .ok (.aload_n 0, 1) := by decide +kernel
theorem dX1_buildSquare_6 : decode cX1_buildSquare 6 = .ok (.getfield 38, 3) := by decide +kernel
theorem dX1_buildSquare_9 : decode cX1_buildSquare 9 = .ok (.arraylength, 1) := by decide +kernel
theorem dX1_buildSquare_10 : decode cX1_buildSquare 10 = .ok (.if_icmp .ge 37, 3) := by decide +kernel
theorem dX1_buildSquare_13 : decode cX1_buildSquare 13 = .ok (.aload_n 0, 1) := by decide +kernel
theorem dX1_buildSquare_14 : decode cX1_buildSquare 14 = .ok (.getfield 38, 3) := by decide +kernel
theorem dX1_buildSquare_17 : decode cX1_buildSquare 17 = .ok (.iload 4, 2) := by decide +kernel
theorem dX1_buildSquare_19 : decode cX1_buildSquare 19 = .ok (.iconst 4, 1) := by decide +kernel
theorem dX1_buildSquare_20 : decode cX1_buildSquare 20 = .ok (.aload_n 1, 1) := by decide +kernel
theorem dX1_buildSquare_21 : decode cX1_buildSquare 21 = .ok (.getfield 123, 3) := by decide +kernel
theorem dX1_buildSquare_24 : decode cX1_buildSquare 24 = .ok (.imul, 1) := by decide +kernel
theorem dX1_buildSquare_25 : decode cX1_buildSquare 25 = .ok (.aload_n 1, 1) := by decide +kernel
theorem dX1_buildSquare_26 : decode cX1_buildSquare 26 = .ok (.getfield 118, 3) := by decide +kernel
theorem dX1_buildSquare_29 : decode cX1_buildSquare 29 = .ok (.iload_n 3, 1) := by decide +kernel
theorem dX1_buildSquare_30 : decode cX1_buildSquare 30 = .ok (.iload 4, 2) := by decide +kernel
theorem dX1_buildSquare_32 : decode cX1_buildSquare 32 = .ok (.invokestatic 112, 3) := by decide +kernel
theorem dX1_buildSquare_35 : decode cX1_buildSquare 35 = .ok (.iadd, 1) := by decide +kernel
theorem dX1_buildSquare_36 : decode cX1_buildSquare 36 = .ok (.invokestatic 69, 3) := by decide +kernel
theorem dX1_buildSquare_39 : decode cX1_buildSquare 39 = .ok (.imul, 1) := by decide +kernel
theorem dX1_buildSquare_40 : decode cX1_buildSquare 40 = .ok (.iastore, 1) := by decide +kernel
theorem dX1_buildSquare_41 : decode cX1_buildSquare 41 = .ok (.iinc 4 1, 3) := by decide +kernel
theorem dX1_buildSquare_44 : decode cX1_buildSquare 44 = .ok (.goto (-41), 3) := by decide +kernel
theorem dX1_buildSquare_47 : decode cX1_buildSquare 47 = .ok (.aload_n 0, 1) := by decide +kernel
theorem dX1_buildSquare_48 : decode cX1_buildSquare 48 = .ok (.invokevirtual 115, 3) := by decide +kernel
theorem dX1_buildSquare_51 : decode cX1_buildSquare 51 = .ok (.iconst 0, 1) := by decide +kernel
theorem dX1_buildSquare_52 : decode cX1_buildSquare 52 = .ok (.istore 4, 2) := by decide +kernel
theorem dX1_buildSquare_54 : decode cX1_buildSquare 54 = .ok (.iload 4, 2) := by decide +kernel
theorem dX1_buildSquare_56 : decode cX1_buildSquare 56 = .ok (.aload_n 0, 1) := by decide +kernel
theorem dX1_buildSquare_57 : decode cX1_buildSquare 57 = .ok (.getfield 38, 3) := by decide +kernel
theorem dX1_buildSquare_60 : decode cX1_buildSquare 60 = .ok (.arraylength, 1) := by decide +kernel
theorem dX1_buildSquare_61 : decode cX1_buildSquare 61 = .ok (.if_icmp .ge 53, 3) := by decide +kernel
theorem dX1_buildSquare_64 : decode cX1_buildSquare 64 = .ok (.iload_n 3, 1) := by decide +kernel
theorem dX1_buildSquare_65 : decode cX1_buildSquare 65 = .ok (.iload 4, 2) := by decide +kernel
theorem dX1_buildSquare_67 : decode cX1_buildSquare 67 = .ok (.invokestatic 112, 3) := by decide +kernel
theorem dX1_buildSquare_70 : decode cX1_buildSquare 70 = .ok (.iadd, 1) := by decide +kernel
theorem dX1_buildSquare_71 : decode cX1_buildSquare 71 = .ok (.istore 5, 2) := by decide +kernel
theorem dX1_buildSquare_73 : decode cX1_buildSquare 73 = .ok (.aload_n 0, 1) := by decide +kernel
theorem dX1_buildSquare_74 : decode cX1_buildSquare 74 = .ok (.getfield 38, 3) := by decide +kernel
theorem dX1_buildSquare_77 : decode cX1_buildSquare 77 = .ok (.iload 4, 2) := by decide +kernel
theorem dX1_buildSquare_79 : decode cX1_buildSquare 79 = .ok (.iaload, 1) := by decide +kernel
theorem dX1_buildSquare_80 : decode cX1_buildSquare 80 = .ok (.bipush 8, 2) := by decide +kernel
theorem dX1_buildSquare_82 : decode cX1_buildSquare 82 = .ok (.iadd, 1) := by decide +kernel
theorem dX1_buildSquare_83 : decode cX1_buildSquare 83 = .ok (.iconst 4, 1) := by decide +kernel
theorem dX1_buildSquare_84 : decode cX1_buildSquare 84 = .ok (.ishr, 1) := by decide +kernel
theorem dX1_buildSquare_85 : decode cX1_buildSquare 85 = .ok (.istore 6, 2) := by decide +kernel
theorem dX1_buildSquare_87 : decode cX1_buildSquare 87 = .ok (.aload_n 2, 1) := by decide +kernel
theorem dX1_buildSquare_88 : decode cX1_buildSquare 88 = .ok (.iload 5, 2) := by decide +kernel
theorem dX1_buildSquare_90 : decode cX1_buildSquare 90 = .ok (.aload_n 0, 1) := by decide +kernel
theorem dX1_buildSquare_91 : decode cX1_buildSquare 91 = .ok (.getfield 35, 3) := by decide +kernel
theorem dX1_buildSquare_94 : decode cX1_buildSquare 94 = .ok (.iload 5, 2) := by decide +kernel
theorem dX1_buildSquare_96 : decode cX1_buildSquare 96 = .ok (.invokestatic 69, 3) := by decide +kernel
theorem dX1_buildSquare_99 : decode cX1_buildSquare 99 = .ok (.iload 6, 2) := by decide +kernel
theorem dX1_buildSquare_101 : decode cX1_buildSquare 101 = .ok (.iadd, 1) := by decide +kernel
theorem dX1_buildSquare_102 : decode cX1_buildSquare 102 = .ok (.invokestatic 88, 3) := by decide +kernel
theorem dX1_buildSquare_105 : decode cX1_buildSquare 105 = .ok (.invokestatic 59, 3) := by decide +kernel
theorem dX1_buildSquare_108 : decode cX1_buildSquare 108 = .ok (.iinc 4 1, 3) := by decide +kernel
theorem dX1_buildSquare_111 : decode cX1_buildSquare 111 = .ok (.goto (-57), 3) := by decide +kernel
theorem dX1_buildSquare_114 : decode cX1_buildSquare 114 = .ok (.return_, 1) := by decide +kernel
theorem dX1_transform_0 : decode cX1_transform 0 = .ok (.iconst 0, 1) := by decide +kernel
theorem dX1_transform_1 : decode cX1_transform 1 = .ok (.istore_n 1, 1) := by decide +kernel
theorem dX1_transform_2 : decode cX1_transform 2 = .ok (.iload_n 1, 1) := by decide +kernel
theorem dX1_transform_3 : decode cX1_transform 3 = .ok (.iconst 4, 1) := by decide +kernel
theorem dX1_transform_4 : decode cX1_transform 4 = .ok (.if_icmp .ge 17, 3) := by decide +kernel
theorem dX1_transform_7 : decode cX1_transform 7 = .ok (.aload_n 0, 1) := by decide +kernel
theorem dX1_transform_8 : decode cX1_transform 8 = .ok (.iconst 4, 1) := by decide +kernel
theorem dX1_transform_9 : decode cX1_transform 9 = .ok (.iload_n 1, 1) := by decide +kernel
theorem dX1_transform_10 : decode cX1_transform 10 = .ok (.imul, 1) := by decide +kernel
theorem dX1_transform_11 : decode cX1_transform 11 = .ok (.iconst 1, 1) := by decide +kernel
theorem dX1_transform_12 : decode cX1_transform 12 = .ok (.invokevirtual 129, 3) := by decide +kernel
theorem dX1_transform_15 : decode cX1_transform 15 = .ok (.iinc 1 1, 3) := by decide +kernel
theorem dX1_transform_18 : decode cX1_transform 18 = .ok (.goto (-16), 3) := by decide +kernel
theorem dX1_transform_21 : decode cX1_transform 21 = .ok (.iconst 0, 1) := by decide +kernel
theorem dX1_transform_22 : decode cX1_transform 22 = .ok (.istore_n 1, 1) := by decide +kernel
theorem dX1_transform_23 : decode cX1_transform 23 = .ok (.iload_n 1, 1) := by decide +kernel
theorem dX1_transform_24 : decode cX1_transform 24 = .ok (.iconst 4, 1) := by decide +kernel
theorem dX1_transform_25 : decode cX1_transform 25 = .ok (.if_icmp .ge 15, 3) := by decide +kernel
theorem dX1_transform_28 : decode cX1_transform 28 = .ok (.aload_n 0, 1) := by decide +kernel
theorem dX1_transform_29 : decode cX1_transform 29 = .ok (.iload_n 1, 1) := by decide +kernel
theorem dX1_transform_30 : decode cX1_transform 30 = .ok (.iconst 4, 1) := by decide +kernel
theorem dX1_transform_31 : decode cX1_transform 31 = .ok (.invokevirtual 129, 3) := by decide +kernel
theorem dX1_transform_34 : decode cX1_transform 34 = .ok (.iinc 1 1, 3) := by decide +kernel
theorem dX1_transform_37 : decode cX1_transform 37 = .ok (.goto (-14), 3) := by decide +kernel
theorem dX1_transform_40 : decode cX1_transform 40 = .ok (.return_, 1) := by decide +kernel
theorem dX1_transformLine_0 : decode cX1_transformLine 0 = .ok (.aload_n 0, 1) := by decide +kernel
theorem dX1_transformLine_1 : decode cX1_transformLine 1 = .ok (.getfield 38, 3) := by decide +kernel
theorem dX1_transformLine_4 : decode cX1_transformLine 4 = .ok (.iload_n 1, 1) := by decide +kernel
theorem dX1_transformLine_5 : decode cX1_transformLine 5 = .ok (.invokestatic 69, 3) := by decide +kernel
theorem dX1_transformLine_8 : decode cX1_transformLine 8 = .ok (.istore_n 3, 1) := by decide +kernel
theorem dX1_transformLine_9 : decode cX1_transformLine 9 = .ok (.aload_n 0, 1) := by decide +kernel
theorem dX1_transformLine_10 : decode cX1_transformLine 10 = .ok (.getfield 38, 3) := by decide +kernel
theorem dX1_transformLine_13 : decode cX1_transformLine 13 = .ok (.iload_n 1, 1) := by decide +kernel
theorem dX1_transformLine_14 : decode cX1_transformLine 14 = .ok (.iload_n 2, 1) := by decide +kernel
theorem dX1_transformLine_15 : decode cX1_transformLine 15 = .ok (.iadd, 1) := by decide +kernel
theorem dX1_transformLine_16 : decode cX1_transformLine 16 = .ok (.invokestatic 69, 3) := by decide +kernel
theorem dX1_transformLine_19 : decode cX1_transformLine 19 = .ok (.istore 4, 2) := by decide +kernel
theorem dX1_transformLine_21 : decode cX1_transformLine 21 = .ok (.aload_n 0, 1) := by decide +kernel
theorem dX1_transformLine_22 : decode cX1_transformLine 22 = .ok (.getfield 38, 3) := by decide +kernel
theorem dX1_transformLine_25 : decode cX1_transformLine 25 = .ok (.iload_n 1, 1) := by decide +kernel
theorem dX1_transformLine_26 : decode cX1_transformLine 26 = .ok (.iconst 2, 1) := by decide +kernel
theorem dX1_transformLine_27 : decode cX1_transformLine 27 = .ok (.iload_n 2, 1) := by decide +kernel
theorem dX1_transformLine_28 : decode cX1_transformLine 28 = .ok (.imul, 1) := by decide +kernel
theorem dX1_transformLine_29 : decode cX1_transformLine 29 = .ok (.iadd, 1) := by decide +kernel
theorem dX1_transformLine_30 : decode cX1_transformLine 30 = .ok (.invokestatic 69, 3) := by decide +kernel
theorem dX1_transformLine_33 : decode cX1_transformLine 33 = .ok (.istore 5, 2) := by decide +kernel
theorem dX1_transformLine_35 : decode cX1_transformLine 35 = .ok (.aload_n 0, 1) := by decide +kernel
theorem dX1_transformLine_36 : decode cX1_transformLine 36 = .ok (.getfield 38, 3) := by decide +kernel
theorem dX1_transformLine_39 : decode cX1_transformLine 39 = .ok (.iload_n 1, 1) := by decide +kernel
theorem dX1_transformLine_40 : decode cX1_transformLine 40 = .ok (.iconst 3, 1) := by decide +kernel
theorem dX1_transformLine_41 : decode cX1_transformLine 41 = .ok (.iload_n 2, 1) := by decide +kernel
theorem dX1_transformLine_42 : decode cX1_transformLine 42 = .ok (.imul, 1) := by decide +kernel
theorem dX1_transformLine_43 : decode cX1_transformLine 43 = .ok (.iadd, 1) := by decide +kernel
theorem dX1_transformLine_44 : decode cX1_transformLine 44 = .ok (.invokestatic 69, 3) := by decide +kernel
theorem dX1_transformLine_47 : decode cX1_transformLine 47 = .ok (.istore 6, 2) := by decide +kernel
theorem dX1_transformLine_49 : decode cX1_transformLine 49 = .ok (.aload_n 0, 1) := by decide +kernel
theorem dX1_transformLine_50 : decode cX1_transformLine 50 = .ok (.getfield 38, 3) := by decide +kernel
theorem dX1_transformLine_53 : decode cX1_transformLine 53 = .ok (.iload_n 1, 1) := by decide +kernel
theorem dX1_transformLine_54 : decode cX1_transformLine 54 = .ok (.iload_n 3, 1) := by decide +kernel
theorem dX1_transformLine_55 : decode cX1_transformLine 55 = .ok (.iload 4, 2) := by decide +kernel
theorem dX1_transformLine_57 : decode cX1_transformLine 57 = .ok (.iadd, 1) := by decide +kernel
theorem dX1_transformLine_58 : decode cX1_transformLine 58 = .ok (.iload 5, 2) := by decide +kernel
theorem dX1_transformLine_60 : decode cX1_transformLine 60 = .ok (.iadd, 1) := by decide +kernel
theorem dX1_transformLine_61 : decode cX1_transformLine 61 = .ok (.iload 6, 2) := by decide +kernel
theorem dX1_transformLine_63 : decode cX1_transformLine 63 = .ok (.iadd, 1) := by decide +kernel
theorem dX1_transformLine_64 : decode cX1_transformLine 64 = .ok (.invokestatic 59, 3) := by decide +kernel
theorem dX1_transformLine_67 : decode cX1_transformLine 67 = .ok (.aload_n 0, 1) := by decide +kernel
theorem dX1_transformLine_68 : decode cX1_transformLine 68 = .ok (.getfield 38, 3) := by decide +kernel
theorem dX1_transformLine_71 : decode cX1_transformLine 71 = .ok (.iload_n 1, 1) := by decide +kernel
theorem dX1_transformLine_72 : decode cX1_transformLine 72 = .ok (.iload_n 2, 1) := by decide +kernel
theorem dX1_transformLine_73 : decode cX1_transformLine 73 = .ok (.iadd, 1) := by decide +kernel
theorem dX1_transformLine_74 : decode cX1_transformLine 74 = .ok (.iload_n 3, 1) := by decide +kernel
theorem dX1_transformLine_75 : decode cX1_transformLine 75 = .ok (.iload 4, 2) := by decide +kernel
theorem dX1_transformLine_77 : decode cX1_transformLine 77 = .ok (.iadd, 1) := by decide +kernel
theorem dX1_transformLine_78 : decode cX1_transformLine 78 = .ok (.iload 5, 2) := by decide +kernel
theorem dX1_transformLine_80 : decode cX1_transformLine 80 = .ok (.isub, 1) := by decide +kernel
theorem dX1_transformLine_81 : decode cX1_transformLine 81 = .ok (.iload 6, 2) := by decide +kernel
theorem dX1_transformLine_83 : decode cX1_transformLine 83 = .ok (.isub, 1) := by decide +kernel
theorem dX1_transformLine_84 : decode cX1_transformLine 84 = .ok (.invokestatic 59, 3) := by decide +kernel
theorem dX1_transformLine_87 : decode cX1_transformLine 87 = .ok (.aload_n 0, 1) := by decide +kernel
theorem dX1_transformLine_88 : decode cX1_transformLine 88 = .ok (.getfield 38, 3) := by decide +kernel
theorem dX1_transformLine_91 : decode cX1_transformLine 91 = .ok (.iload_n 1, 1) := by decide +kernel
theorem dX1_transformLine_92 : decode cX1_transformLine 92 = .ok (.iconst 2, 1) := by decide +kernel
theorem dX1_transformLine_93 : decode cX1_transformLine 93 = .ok (.iload_n 2, 1) := by decide +kernel
theorem dX1_transformLine_94 : decode cX1_transformLine 94 = .ok (.imul, 1) := by decide +kernel
theorem dX1_transformLine_95 : decode cX1_transformLine 95 = .ok (.iadd, 1) := by decide +kernel
theorem dX1_transformLine_96 : decode cX1_transformLine 96 = .ok (.iload_n 3, 1) := by decide +kernel
theorem dX1_transformLine_97 : decode cX1_transformLine 97 = .ok (.iload 4, 2) := by decide +kernel
theorem dX1_transformLine_99 : decode cX1_transformLine 99 = .ok (.isub, 1) := by decide +kernel
theorem dX1_transformLine_100 : decode cX1_transformLine 100 = .ok (.iload 5, 2) := by decide +kernel
theorem dX1_transformLine_102 : decode cX1_transformLine 102 = .ok (.isub, 1) := by decide +kernel
theorem dX1_transformLine_103 : decode cX1_transformLine 103 = .ok (.iload 6, 2) := by decide +kernel
theorem dX1_transformLine_105 : decode cX1_transformLine 105 = .ok (.iadd, 1) := by decide +kernel
theorem dX1_transformLine_106 : decode cX1_transformLine 106 = .ok (.invokestatic 59, 3) := by decide +kernel
theorem dX1_transformLine_109 : decode cX1_transformLine 109 = .ok (.aload_n 0, 1) := by decide +kernel
theorem dX1_transformLine_110 : decode cX1_transformLine 110 = .ok (.getfield 38, 3) := by decide +kernel
theorem dX1_transformLine_113 : decode cX1_transformLine 113 = .ok (.iload_n 1, 1) := by decide +kernel
theorem dX1_transformLine_114 : decode cX1_transformLine 114 = .ok (.iconst 3, 1) := by decide +kernel
theorem dX1_transformLine_115 : decode cX1_transformLine 115 = .ok (.iload_n 2, 1) := by decide +kernel
theorem dX1_transformLine_116 : decode cX1_transformLine 116 = .ok (.imul, 1) := by decide +kernel
theorem dX1_transformLine_117 : decode cX1_transformLine 117 = .ok (.iadd, 1) := by decide +kernel
theorem dX1_transformLine_118 : decode cX1_transformLine 118 = .ok (.iload_n 3, 1) := by decide +kernel
theorem dX1_transformLine_119 : decode cX1_transformLine 119 = .ok (.iload 4, 2) := by decide +kernel
theorem dX1_transformLine_121 : decode cX1_transformLine 121 = .ok (.isub, 1) := by decide +kernel
theorem dX1_transformLine_122 : decode cX1_transformLine 122 = .ok (.iload 5, 2) := by decide +kernel
theorem dX1_transformLine_124 : decode cX1_transformLine 124 = .ok (.iadd, 1) := by decide +kernel
theorem dX1_transformLine_125 : decode cX1_transformLine 125 = .ok (.iload 6, 2) := by decide +kernel
theorem dX1_transformLine_127 : decode cX1_transformLine 127 = .ok (.isub, 1) := by decide +kernel
theorem dX1_transformLine_128 : decode cX1_transformLine 128 = .ok (.invokestatic 59, 3) := by decide +kernel
theorem dX1_transformLine_131 : decode cX1_transformLine 131 = .ok (.return_, 1) := by decide +kernel
theorem dX1_smooth_0 : decode cX1_smooth 0 = .ok (.aload_n 1, 1) := by decide +kernel
theorem dX1_smooth_1 : decode cX1_smooth 1 = .ok (.iconst 2, 1) := by decide +kernel
theorem dX1_smooth_2 : decode cX1_smooth 2 = .ok (.invokevirtual 133, 3) := by decide +kernel
theorem dX1_smooth_5 : decode cX1_smooth 5 = .ok (.ifCond .ne 4, 3) := by decide +kernel
theorem dX1_smooth_8 : decode cX1_smooth 8 = .ok (.return_, 1) := by decide +kernel
theorem dX1_smooth_9 : decode cX1_smooth 9 = .ok (.iconst 4, 1) := by decide +kernel
theorem dX1_smooth_10 : decode cX1_smooth 10 = .ok (.istore_n 3, 1) := by decide +kernel
theorem dX1_smooth_11 : decode cX1_smooth 11 = .ok (.iload_n 3, 1) := by decide +kernel
theorem dX1_smooth_12 : decode cX1_smooth 12 = .ok (.bipush 16, 2) := by decide +kernel
theorem dX1_smooth_14 : decode cX1_smooth 14 = .ok (.if_icmp .ge 47, 3) := by decide +kernel
theorem dX1_smooth_17 : decode cX1_smooth 17 = .ok (.iconst 0, 1) := by decide +kernel
theorem dX1_smooth_18 : decode cX1_smooth 18 = .ok (.istore 4, 2) := by decide +kernel
theorem dX1_smooth_20 : decode cX1_smooth 20 = .ok (.iload 4, 2) := by decide +kernel
theorem dX1_smooth_22 : decode cX1_smooth 22 = .ok (.bipush 16, 2) := by decide +kernel
theorem dX1_smooth_24 : decode cX1_smooth 24 = .ok (.if_icmp .ge 31, 3) := by decide +kernel
theorem dX1_smooth_27 : decode cX1_smooth 27 = .ok (.aload_n 2, 1) := by decide +kernel
theorem dX1_smooth_28 : decode cX1_smooth 28 = .ok (.iload_n 3, 1) := by decide +kernel
theorem dX1_smooth_29 : decode cX1_smooth 29 = .ok (.iconst 1, 1) := by decide +kernel
theorem dX1_smooth_30 : decode cX1_smooth 30 = .ok (.isub, 1) := by decide +kernel
theorem dX1_smooth_31 : decode cX1_smooth 31 = .ok (.iload 4, 2) := by decide +kernel
theorem dX1_smooth_33 : decode cX1_smooth 33 = .ok (.invokestatic 65, 3) := by decide +kernel
theorem dX1_smooth_36 : decode cX1_smooth 36 = .ok (.iload_n 3, 1) := by decide +kernel
theorem dX1_smooth_37 : decode cX1_smooth 37 = .ok (.iload 4, 2) := by decide +kernel
theorem dX1_smooth_39 : decode cX1_smooth 39 = .ok (.invokestatic 65, 3) := by decide +kernel
theorem dX1_smooth_42 : decode cX1_smooth 42 = .ok (.aload_n 1, 1) := by decide +kernel
theorem dX1_smooth_43 : decode cX1_smooth 43 = .ok (.getfield 123, 3) := by decide +kernel
theorem dX1_smooth_46 : decode cX1_smooth 46 = .ok (.invokestatic 137, 3) := by decide +kernel
theorem dX1_smooth_49 : decode cX1_smooth 49 = .ok (.iinc 4 1, 3) := by decide +kernel
theorem dX1_smooth_52 : decode cX1_smooth 52 = .ok (.goto (-32), 3) := by decide +kernel
theorem dX1_smooth_55 : decode cX1_smooth 55 = .ok (.iinc 3 4, 3) := by decide +kernel
theorem dX1_smooth_58 : decode cX1_smooth 58 = .ok (.goto (-47), 3) := by decide +kernel
theorem dX1_smooth_61 : decode cX1_smooth 61 = .ok (.iconst 4, 1) := by decide +kernel
theorem dX1_smooth_62 : decode cX1_smooth 62 = .ok (.istore_n 3, 1) := by decide +kernel
theorem dX1_smooth_63 : decode cX1_smooth 63 = .ok (.iload_n 3, 1) := by decide +kernel
theorem dX1_smooth_64 : decode cX1_smooth 64 = .ok (.bipush 16, 2) := by decide +kernel
theorem dX1_smooth_66 : decode cX1_smooth 66 = .ok (.if_icmp .ge 74, 3) := by decide +kernel
theorem dX1_smooth_69 : decode cX1_smooth 69 = .ok (.aload_n 1, 1) := by decide +kernel
theorem dX1_smooth_70 : decode cX1_smooth 70 = .ok (.iload_n 3, 1) := by decide +kernel
theorem dX1_smooth_71 : decode cX1_smooth 71 = .ok (.iconst 1, 1) := by decide +kernel
theorem dX1_smooth_72 : decode cX1_smooth 72 = .ok (.isub, 1) := by decide +kernel
theorem dX1_smooth_73 : decode cX1_smooth 73 = .ok (.invokevirtual 141, 3) := by decide +kernel
theorem dX1_smooth_76 : decode cX1_smooth 76 = .ok (.aload_n 1, 1) := by decide +kernel
theorem dX1_smooth_77 : decode cX1_smooth 77 = .ok (.iload_n 3, 1) := by decide +kernel
theorem dX1_smooth_78 : decode cX1_smooth 78 = .ok (.invokevirtual 141, 3) := by decide +kernel
theorem dX1_smooth_81 : decode cX1_smooth 81 = .ok (.if_icmp .ne 7, 3) := by decide +kernel
theorem dX1_smooth_84 : decode cX1_smooth 84 = .ok (.iconst 1, 1) := by decide +kernel
theorem dX1_smooth_85 : decode cX1_smooth 85 = .ok (.goto 4, 3) := by decide +kernel
theorem dX1_smooth_88 : decode cX1_smooth 88 = .ok (.iconst 0, 1) := by decide +kernel
theorem dX1_smooth_89 : decode cX1_smooth 89 = .ok (.istore 4, 2) := by decide +kernel
theorem dX1_smooth_91 : decode cX1_smooth 91 = .ok (.iconst 0, 1) := by decide +kernel
theorem dX1_smooth_92 : decode cX1_smooth 92 = .ok (.istore 5, 2) := by decide +kernel
theorem dX1_smooth_94 : decode cX1_smooth 94 = .ok (.iload 5, 2) := by decide +kernel
theorem dX1_smooth_96 : decode cX1_smooth 96 = .ok (.bipush 16, 2) := by decide +kernel
theorem dX1_smooth_98 : decode cX1_smooth 98 = .ok (.if_icmp .ge 36, 3) := by decide +kernel
theorem dX1_smooth_101 : decode cX1_smooth 101 = .ok (.iload 4, 2) := by decide +kernel
theorem dX1_smooth_103 : decode cX1_smooth 103 = .ok (.ifCond .eq 31, 3) := by decide +kernel
theorem dX1_smooth_106 : decode cX1_smooth 106 = .ok (.aload_n 2, 1) := by decide +kernel
theorem dX1_smooth_107 : decode cX1_smooth 107 = .ok (.iload 5, 2) := by decide +kernel
theorem dX1_smooth_109 : decode cX1_smooth 109 = .ok (.iload_n 3, 1) := by decide +kernel
theorem dX1_smooth_110 : decode cX1_smooth 110 = .ok (.iconst 1, 1) := by decide +kernel
theorem dX1_smooth_111 : decode cX1_smooth 111 = .ok (.isub, 1) := by decide +kernel
theorem dX1_smooth_112 : decode cX1_smooth 112 = .ok (.invokestatic 65, 3) := by decide +kernel
theorem dX1_smooth_115 : decode cX1_smooth 115 = .ok (.iload 5, 2) := by decide +kernel
theorem dX1_smooth_117 : decode cX1_smooth 117 = .ok (.iload_n 3, 1) := by decide +kernel
theorem dX1_smooth_118 : decode cX1_smooth 118 = .ok (.invokestatic 65, 3) := by decide +kernel
theorem dX1_smooth_121 : decode cX1_smooth 121 = .ok (.aload_n 1, 1) := by decide +kernel
theorem dX1_smooth_122 : decode cX1_smooth 122 = .ok (.getfield 123, 3) := by decide +kernel
theorem dX1_smooth_125 : decode cX1_smooth 125 = .ok (.invokestatic 137, 3) := by decide +kernel
theorem dX1_smooth_128 : decode cX1_smooth 128 = .ok (.iinc 5 1, 3) := by decide +kernel
theorem dX1_smooth_131 : decode cX1_smooth 131 = .ok (.goto (-37), 3) := by decide +kernel
theorem dX1_smooth_134 : decode cX1_smooth 134 = .ok (.iinc 3 4, 3) := by decide +kernel
theorem dX1_smooth_137 : decode cX1_smooth 137 = .ok (.goto (-74), 3) := by decide +kernel
theorem dX1_smooth_140 : decode cX1_smooth 140 = .ok (.return_, 1) := by decide +kernel
theorem dX1_smoothPair_0 : decode cX1_smoothPair 0 = .ok (.aload_n 0, 1) := by decide +kernel
theorem dX1_smoothPair_1 : decode cX1_smoothPair 1 = .ok (.iload_n 1, 1) := by decide +kernel
theorem dX1_smoothPair_2 : decode cX1_smoothPair 2 = .ok (.invokestatic 69, 3) := by decide +kernel
theorem dX1_smoothPair_5 : decode cX1_smoothPair 5 = .ok (.istore 4, 2) := by decide +kernel
theorem dX1_smoothPair_7 : decode cX1_smoothPair 7 = .ok (.aload_n 0, 1) := by decide +kernel
theorem dX1_smoothPair_8 : decode cX1_smoothPair 8 = .ok (.iload_n 2, 1) := by decide +kernel
theorem dX1_smoothPair_9 : decode cX1_smoothPair 9 = .ok (.invokestatic 69, 3) := by decide +kernel
theorem dX1_smoothPair_12 : decode cX1_smoothPair 12 = .ok (.istore 5, 2) := by decide +kernel
theorem dX1_smoothPair_14 : decode cX1_smoothPair 14 = .ok (.iload 4, 2) := by decide +kernel
theorem dX1_smoothPair_16 : decode cX1_smoothPair 16 = .ok (.iload 5, 2) := by decide +kernel
theorem dX1_smoothPair_18 : decode cX1_smoothPair 18 = .ok (.isub, 1) := by decide +kernel
theorem dX1_smoothPair_19 : decode cX1_smoothPair 19 = .ok (.invokestatic 107, 3) := by decide +kernel
theorem dX1_smoothPair_22 : decode cX1_smoothPair 22 = .ok (.iload_n 3, 1) := by decide +kernel
theorem dX1_smoothPair_23 : decode cX1_smoothPair 23 = .ok (.iconst 2, 1) := by decide +kernel
theorem dX1_smoothPair_24 : decode cX1_smoothPair 24 = .ok (.iadd, 1) := by decide +kernel
theorem dX1_smoothPair_25 : decode cX1_smoothPair 25 = .ok (.if_icmp .ge 32, 3) := by decide +kernel
theorem dX1_smoothPair_28 : decode cX1_smoothPair 28 = .ok (.iload 5, 2) := by decide +kernel
theorem dX1_smoothPair_30 : decode cX1_smoothPair 30 = .ok (.iload 4, 2) := by decide +kernel
theorem dX1_smoothPair_32 : decode cX1_smoothPair 32 = .ok (.isub, 1) := by decide +kernel
theorem dX1_smoothPair_33 : decode cX1_smoothPair 33 = .ok (.iconst 4, 1) := by decide +kernel
theorem dX1_smoothPair_34 : decode cX1_smoothPair 34 = .ok (.idiv, 1) := by decide +kernel
theorem dX1_smoothPair_35 : decode cX1_smoothPair 35 = .ok (.istore 6, 2) := by decide +kernel
theorem dX1_smoothPair_37 : decode cX1_smoothPair 37 = .ok (.aload_n 0, 1) := by decide +kernel
theorem dX1_smoothPair_38 : decode cX1_smoothPair 38 = .ok (.iload_n 1, 1) := by decide +kernel
theorem dX1_smoothPair_39 : decode cX1_smoothPair 39 = .ok (.iload 4, 2) := by decide +kernel
theorem dX1_smoothPair_41 : decode cX1_smoothPair 41 = .ok (.iload 6, 2) := by decide +kernel
theorem dX1_smoothPair_43 : decode cX1_smoothPair 43 = .ok (.iadd, 1) := by decide +kernel
theorem dX1_smoothPair_44 : decode cX1_smoothPair 44 = .ok (.invokestatic 59, 3) := by decide +kernel
theorem dX1_smoothPair_47 : decode cX1_smoothPair 47 = .ok (.aload_n 0, 1) := by decide +kernel
theorem dX1_smoothPair_48 : decode cX1_smoothPair 48 = .ok (.iload_n 2, 1) := by decide +kernel
theorem dX1_smoothPair_49 : decode cX1_smoothPair 49 = .ok (.iload 5, 2) := by decide +kernel
theorem dX1_smoothPair_51 : decode cX1_smoothPair 51 = .ok (.iload 6, 2) := by decide +kernel
theorem dX1_smoothPair_53 : decode cX1_smoothPair 53 = .ok (.isub, 1) := by decide +kernel
theorem dX1_smoothPair_54 : decode cX1_smoothPair 54 = .ok (.invokestatic 59, 3) := by decide +kernel
theorem dX1_smoothPair_57 : decode cX1_smoothPair 57 = .ok (.return_, 1) := by decide +kernel
theorem dX2_init_0 : decode cX2_init 0 = .ok (.aload_n 0, 1) := by decide +kernel
theorem dX2_init_1 : decode cX2_init 1 = .ok (.invokespecial 3, 3) := by decide +kernel
theorem dX2_init_4 : decode cX2_init 4 = .ok (.aload_n 0, 1) := by decide +kernel
theorem dX2_init_5 : decode cX2_init 5 = .ok (.new 9, 3) := by decide +kernel
theorem dX2_init_8 : decode cX2_init 8 = .ok (.dup, 1) := by decide +kernel
theorem dX2_init_9 : decode cX2_init 9 = .ok (.invokespecial 11, 3) := by decide +kernel
theorem dX2_init_12 : decode cX2_init 12 = .ok (.putfield 12, 3) := by decide +kernel
theorem dX2_init_15 : decode cX2_init 15 = .ok (.aload_n 0, 1) := by decide +kernel
theorem dX2_init_16 : decode cX2_init 16 = .ok (.new 18, 3) := by decide +kernel
theorem dX2_init_19 : decode cX2_init 19 = .ok (.dup, 1) := by decide +kernel
theorem dX2_init_20 : decode cX2_init 20 = .ok (.invokespecial 20, 3) := by decide +kernel
theorem dX2_init_23 : decode cX2_init 23 = .ok (.putfield 21, 3) := by decide +kernel
theorem dX2_init_26 : decode cX2_init 26 = .ok (.return_, 1) := by decide +kernel
theorem dX2_lean_0 : decode cX2_lean 0 = .ok (.aload_n 1, 1) := by decide +kernel
theorem dX2_lean_1 : decode cX2_lean 1 = .ok (.invokevirtual 25, 3) := by decide +kernel
theorem dX2_lean_4 : decode cX2_lean 4 = .ok (.ifCond .eq 15, 3) := by decide +kernel
theorem dX2_lean_7 : decode cX2_lean 7 = .ok (.aload_n 0, 1) := by decide +kernel
theorem dX2_lean_8 : decode cX2_lean 8 = .ok (.getfield 12, 3) := by decide +kernel
theorem dX2_lean_11 : decode cX2_lean 11 = .ok (.getfield 31, 3) := by decide +kernel
theorem dX2_lean_14 : decode cX2_lean 14 = .ok (.aload_n 2, 1) := by decide +kernel
theorem dX2_lean_15 : decode cX2_lean 15 = .ok (.iconst 0, 1) := by decide +kernel
theorem dX2_lean_16 : decode cX2_lean 16 = .ok (.invokevirtual 35, 3) := by decide +kernel
theorem dX2_lean_19 : decode cX2_lean 19 = .ok (.aload_n 1, 1) := by decide +kernel
theorem dX2_lean_20 : decode cX2_lean 20 = .ok (.invokevirtual 41, 3) := by decide +kernel
theorem dX2_lean_23 : decode cX2_lean 23 = .ok (.ifCond .eq 15, 3) := by decide +kernel
theorem dX2_lean_26 : decode cX2_lean 26 = .ok (.aload_n 0, 1) := by decide +kernel
theorem dX2_lean_27 : decode cX2_lean 27 = .ok (.getfield 12, 3) := by decide +kernel
theorem dX2_lean_30 : decode cX2_lean 30 = .ok (.getfield 44, 3) := by decide +kernel
theorem dX2_lean_33 : decode cX2_lean 33 = .ok (.aload_n 3, 1) := by decide +kernel
theorem dX2_lean_34 : decode cX2_lean 34 = .ok (.iconst 0, 1) := by decide +kernel
theorem dX2_lean_35 : decode cX2_lean 35 = .ok (.invokevirtual 35, 3) := by decide +kernel
theorem dX2_lean_38 : decode cX2_lean 38 = .ok (.return_, 1) := by decide +kernel
theorem dX2_choose_0 : decode cX2_choose 0 = .ok (.bipush 8, 2) := by decide +kernel
theorem dX2_choose_2 : decode cX2_choose 2 = .ok (.istore_n 3, 1) := by decide +kernel
theorem dX2_choose_3 : decode cX2_choose 3 = .ok (.iconst 0, 1) := by decide +kernel
theorem dX2_choose_4 : decode cX2_choose 4 = .ok (.istore 4, 2) := by decide +kernel
theorem dX2_choose_6 : decode cX2_choose 6 = .ok (.iload 4, 2) := by decide +kernel
theorem dX2_choose_8 : decode cX2_choose 8 = .ok (.bipush 16, 2) := by decide +kernel
theorem dX2_choose_10 : decode cX2_choose 10 = .ok (.if_icmp .ge 122, 3) := by decide +kernel
theorem dX2_choose_13 : decode cX2_choose 13 = .ok (.iload 4, 2) := by decide +kernel
theorem dX2_choose_15 : decode cX2_choose 15 = .ok (.invokestatic 47, 3) := by decide +kernel
theorem dX2_choose_18 : decode cX2_choose 18 = .ok (.istore 5, 2) := by decide +kernel
theorem dX2_choose_20 : decode cX2_choose 20 = .ok (.iload 4, 2) := by decide +kernel
theorem dX2_choose_22 : decode cX2_choose 22 = .ok (.invokestatic 51, 3) := by decide +kernel
theorem dX2_choose_25 : decode cX2_choose 25 = .ok (.istore 6, 2) := by decide +kernel
theorem dX2_choose_27 : decode cX2_choose 27 = .ok (.iload 4, 2) := by decide +kernel
theorem dX2_choose_29 : decode cX2_choose 29 = .ok (.invokestatic 54, 3) := by decide +kernel
theorem dX2_choose_32 : decode cX2_choose 32 = .ok (.ifCond .eq 22, 3) := by decide +kernel
theorem dX2_choose_35 : decode cX2_choose 35 = .ok (.aload_n 1, 1) := by decide +kernel
theorem dX2_choose_36 : decode cX2_choose 36 = .ok (.aload_n 2, 1) := by decide +kernel
theorem dX2_choose_37 : decode cX2_choose 37 = .ok (.iload 5, 2) := by decide +kernel
theorem dX2_choose_39 : decode cX2_choose 39 = .ok (.iload 6, 2) := by decide +kernel
theorem dX2_choose_41 : decode cX2_choose 41 = .ok (.invokestatic 58, 3) := by decide +kernel
theorem dX2_choose_44 : decode cX2_choose 44 = .ok (.ifCond .eq 7, 3) := by decide +kernel
theorem dX2_choose_47 : decode cX2_choose 47 = .ok (.iconst 4, 1) := by decide +kernel
theorem dX2_choose_48 : decode cX2_choose 48 = .ok (.goto 5, 3) := by decide +kernel
theorem dX2_choose_51 : decode cX2_choose 51 = .ok (.bipush 8, 2) := by decide +kernel
theorem dX2_choose_53 : decode cX2_choose 53 = .ok (.istore_n 3, 1) := by decide +kernel
theorem dX2_choose_54 : decode cX2_choose 54 = .ok (.iload 4, 2) := by decide +kernel
theorem dX2_choose_56 : decode cX2_choose 56 = .ok (.invokestatic 54, 3) := by decide +kernel
theorem dX2_choose_59 : decode cX2_choose 59 = .ok (.ifCond .ne 8, 3) := by decide +kernel
theorem dX2_choose_62 : decode cX2_choose 62 = .ok (.iload_n 3, 1) := by decide +kernel
theorem dX2_choose_63 : decode cX2_choose 63 = .ok (.iconst 4, 1) := by decide +kernel
theorem dX2_choose_64 : decode cX2_choose 64 = .ok (.if_icmp .ne 27, 3) := by decide +kernel
theorem dX2_choose_67 : decode cX2_choose 67 = .ok (.aload_n 0, 1) := by decide +kernel
theorem dX2_choose_68 : decode cX2_choose 68 = .ok (.getfield 21, 3) := by decide +kernel
theorem dX2_choose_71 : decode cX2_choose 71 = .ok (.iload 5, 2) := by decide +kernel
theorem dX2_choose_73 : decode cX2_choose 73 = .ok (.iload 6, 2) := by decide +kernel
theorem dX2_choose_75 : decode cX2_choose 75 = .ok (.iload_n 3, 1) := by decide +kernel
theorem dX2_choose_76 : decode cX2_choose 76 = .ok (.aload_n 1, 1) := by decide +kernel
theorem dX2_choose_77 : decode cX2_choose 77 = .ok (.iload 6, 2) := by decide +kernel
theorem dX2_choose_79 : decode cX2_choose 79 = .ok (.invokevirtual 62, 3) := by decide +kernel
theorem dX2_choose_82 : decode cX2_choose 82 = .ok (.invokevirtual 65, 3) := by decide +kernel
theorem dX2_choose_85 : decode cX2_choose 85 = .ok (.aload_n 0, 1) := by decide +kernel
theorem dX2_choose_86 : decode cX2_choose 86 = .ok (.aload_n 1, 1) := by decide +kernel
theorem dX2_choose_87 : decode cX2_choose 87 = .ok (.aload_n 2, 1) := by decide +kernel
theorem dX2_choose_88 : decode cX2_choose 88 = .ok (.invokevirtual 69, 3) := by decide +kernel
theorem dX2_choose_91 : decode cX2_choose 91 = .ok (.aload_n 0, 1) := by decide +kernel
theorem dX2_choose_92 : decode cX2_choose 92 = .ok (.getfield 12, 3) := by decide +kernel
theorem dX2_choose_95 : decode cX2_choose 95 = .ok (.aload_n 1, 1) := by decide +kernel
theorem dX2_choose_96 : decode cX2_choose 96 = .ok (.aload_n 2, 1) := by decide +kernel
theorem dX2_choose_97 : decode cX2_choose 97 = .ok (.iload 5, 2) := by decide +kernel
theorem dX2_choose_99 : decode cX2_choose 99 = .ok (.iload 6, 2) := by decide +kernel
theorem dX2_choose_101 : decode cX2_choose 101 = .ok (.invokestatic 73, 3) := by decide +kernel
theorem dX2_choose_104 : decode cX2_choose 104 = .ok (.invokevirtual 77, 3) := by decide +kernel
theorem dX2_choose_107 : decode cX2_choose 107 = .ok (.aload_n 0, 1) := by decide +kernel
theorem dX2_choose_108 : decode cX2_choose 108 = .ok (.getfield 12, 3) := by decide +kernel
theorem dX2_choose_111 : decode cX2_choose 111 = .ok (.aload_n 1, 1) := by decide +kernel
theorem dX2_choose_112 : decode cX2_choose 112 = .ok (.aload_n 1, 1) := by decide +kernel
theorem dX2_choose_113 : decode cX2_choose 113 = .ok (.getfield 81, 3) := by decide +kernel
theorem dX2_choose_116 : decode cX2_choose 116 = .ok (.iload 5, 2) := by decide +kernel
theorem dX2_choose_118 : decode cX2_choose 118 = .ok (.iload 6, 2) := by decide +kernel
theorem dX2_choose_120 : decode cX2_choose 120 = .ok (.invokestatic 73, 3) := by decide +kernel
theorem dX2_choose_123 : decode cX2_choose 123 = .ok (.invokevirtual 85, 3) := by decide +kernel
theorem dX2_choose_126 : decode cX2_choose 126 = .ok (.iinc 4 1, 3) := by decide +kernel
theorem dX2_choose_129 : decode cX2_choose 129 = .ok (.goto (-123), 3) := by decide +kernel
theorem dX2_choose_132 : decode cX2_choose 132 = .ok (.aload_n 0, 1) := by decide +kernel
theorem dX2_choose_133 : decode cX2_choose 133 = .ok (.getfield 12, 3) := by decide +kernel
theorem dX2_choose_136 : decode cX2_choose 136 = .ok (.aload_n 1, 1) := by decide +kernel
theorem dX2_choose_137 : decode cX2_choose 137 = .ok (.aload_n 1, 1) := by decide +kernel
theorem dX2_choose_138 : decode cX2_choose 138 = .ok (.getfield 81, 3) := by decide +kernel
theorem dX2_choose_141 : decode cX2_choose 141 = .ok (.invokevirtual 88, 3) := by decide +kernel
theorem dX2_choose_144 : decode cX2_choose 144 = .ok (.return_, 1) := by decide +kernel
theorem dX2_isToSplit_0 : decode cX2_isToSplit 0 = .ok (.sipush 255, 3) := by decide +kernel
theorem dX2_isToSplit_3 : decode cX2_isToSplit 3 = .ok (.istore 4, 2) := by decide +kernel
theorem dX2_isToSplit_5 : decode cX2_isToSplit 5 = .ok (.iconst 0, 1) := by decide +kernel
theorem dX2_isToSplit_6 : decode cX2_isToSplit 6 = .ok (.istore 5, 2) := by decide +kernel
theorem dX2_isToSplit_8 : decode cX2_isToSplit 8 = .ok (.iload_n 3, 1) := by decide +kernel
theorem dX2_isToSplit_9 : decode cX2_isToSplit 9 = .ok (.istore 6, 2) := by decide +kernel
theorem dX2_isToSplit_11 : decode cX2_isToSplit 11 = .ok (.iload 6, 2) := by decide +kernel
theorem dX2_isToSplit_13 : decode cX2_isToSplit 13 = .ok (.iload_n 3, 1) := by decide +kernel
theorem dX2_isToSplit_14 : decode cX2_isToSplit 14 = .ok (.bipush 8, 2) := by decide +kernel
theorem dX2_isToSplit_16 : decode cX2_isToSplit 16 = .ok (.iadd, 1) := by decide +kernel
theorem dX2_isToSplit_17 : decode cX2_isToSplit 17 = .ok (.if_icmp .ge 58, 3) := by decide +kernel
theorem dX2_isToSplit_20 : decode cX2_isToSplit 20 = .ok (.iload_n 2, 1) := by decide +kernel
theorem dX2_isToSplit_21 : decode cX2_isToSplit 21 = .ok (.istore 7, 2) := by decide +kernel
theorem dX2_isToSplit_23 : decode cX2_isToSplit 23 = .ok (.iload 7, 2) := by decide +kernel
theorem dX2_isToSplit_25 : decode cX2_isToSplit 25 = .ok (.iload_n 2, 1) := by decide +kernel
theorem dX2_isToSplit_26 : decode cX2_isToSplit 26 = .ok (.bipush 8, 2) := by decide +kernel
theorem dX2_isToSplit_28 : decode cX2_isToSplit 28 = .ok (.iadd, 1) := by decide +kernel
theorem dX2_isToSplit_29 : decode cX2_isToSplit 29 = .ok (.if_icmp .ge 40, 3) := by decide +kernel
theorem dX2_isToSplit_32 : decode cX2_isToSplit 32 = .ok (.aload_n 1, 1) := by decide +kernel
theorem dX2_isToSplit_33 : decode cX2_isToSplit 33 = .ok (.iload 7, 2) := by decide +kernel
theorem dX2_isToSplit_35 : decode cX2_isToSplit 35 = .ok (.iload 6, 2) := by decide +kernel
theorem dX2_isToSplit_37 : decode cX2_isToSplit 37 = .ok (.invokestatic 73, 3) := by decide +kernel
theorem dX2_isToSplit_40 : decode cX2_isToSplit 40 = .ok (.invokestatic 91, 3) := by decide +kernel
theorem dX2_isToSplit_43 : decode cX2_isToSplit 43 = .ok (.istore 8, 2) := by decide +kernel
theorem dX2_isToSplit_45 : decode cX2_isToSplit 45 = .ok (.iload 4, 2) := by decide +kernel
theorem dX2_isToSplit_47 : decode cX2_isToSplit 47 = .ok (.iload 8, 2) := by decide +kernel
theorem dX2_isToSplit_49 : decode cX2_isToSplit 49 = .ok (.invokestatic 97, 3) := by decide +kernel
theorem dX2_isToSplit_52 : decode cX2_isToSplit 52 = .ok (.istore 4, 2) := by decide +kernel
theorem dX2_isToSplit_54 : decode cX2_isToSplit 54 = .ok (.iload 5, 2) := by decide +kernel
theorem dX2_isToSplit_56 : decode cX2_isToSplit 56 = .ok (.iload 8, 2) := by decide +kernel
theorem dX2_isToSplit_58 : decode cX2_isToSplit 58 = .ok (.invokestatic 102, 3) := by decide +kernel
theorem dX2_isToSplit_61 : decode cX2_isToSplit 61 = .ok (.istore 5, 2) := by decide +kernel
theorem dX2_isToSplit_63 : decode cX2_isToSplit 63 = .ok (.iinc 7 1, 3) := by decide +kernel
theorem dX2_isToSplit_66 : decode cX2_isToSplit 66 = .ok (.goto (-43), 3) := by decide +kernel
theorem dX2_isToSplit_69 : decode cX2_isToSplit 69 = .ok (.iinc 6 1, 3) := by decide +kernel
theorem dX2_isToSplit_72 : decode cX2_isToSplit 72 = .ok (.goto (-61), 3) := by decide +kernel
theorem dX2_isToSplit_75 : decode cX2_isToSplit 75 = .ok (.aload_n 0, 1) := by decide +kernel
theorem dX2_isToSplit_76 : decode cX2_isToSplit 76 = .ok (.iconst 1, 1) := by decide +kernel
theorem dX2_isToSplit_77 : decode cX2_isToSplit 77 = .ok (.invokevirtual 105, 3) := by decide +kernel
theorem dX2_isToSplit_80 : decode cX2_isToSplit 80 = .ok (.ifCond .eq 24, 3) := by decide +kernel
theorem dX2_isToSplit_83 : decode cX2_isToSplit 83 = .ok (.iload 5, 2) := by decide +kernel
theorem dX2_isToSplit_85 : decode cX2_isToSplit 85 = .ok (.iload 4, 2) := by decide +kernel
theorem dX2_isToSplit_87 : decode cX2_isToSplit 87 = .ok (.isub, 1) := by decide +kernel
theorem dX2_isToSplit_88 : decode cX2_isToSplit 88 = .ok (.bipush 24, 2) := by decide +kernel
theorem dX2_isToSplit_90 : decode cX2_isToSplit 90 = .ok (.iconst 3, 1) := by decide +kernel
theorem dX2_isToSplit_91 : decode cX2_isToSplit 91 = .ok (.aload_n 0, 1) := by decide +kernel
theorem dX2_isToSplit_92 : decode cX2_isToSplit 92 = .ok (.getfield 108, 3) := by decide +kernel
theorem dX2_isToSplit_95 : decode cX2_isToSplit 95 = .ok (.imul, 1) := by decide +kernel
theorem dX2_isToSplit_96 : decode cX2_isToSplit 96 = .ok (.iadd, 1) := by decide +kernel
theorem dX2_isToSplit_97 : decode cX2_isToSplit 97 = .ok (.if_icmp .le 7, 3) := by decide +kernel
theorem dX2_isToSplit_100 : decode cX2_isToSplit 100 = .ok (.iconst 1, 1) := by decide +kernel
theorem dX2_isToSplit_101 : decode cX2_isToSplit 101 = .ok (.goto 4, 3) := by decide +kernel
theorem dX2_isToSplit_104 : decode cX2_isToSplit 104 = .ok (.iconst 0, 1) := by decide +kernel
theorem dX2_isToSplit_105 : decode cX2_isToSplit 105 = .ok (.ireturn, 1) := by decide +kernel
theorem dX2_choosePart_0 : decode cX2_choosePart 0 = .ok (.aload_n 1, 1) := by decide +kernel
theorem dX2_choosePart_1 : decode cX2_choosePart 1 = .ok (.iconst 4, 1) := by decide +kernel
theorem dX2_choosePart_2 : decode cX2_choosePart 2 = .ok (.invokevirtual 105, 3) := by decide +kernel
theorem dX2_choosePart_5 : decode cX2_choosePart 5 = .ok (.ifCond .eq 7, 3) := by decide +kernel
theorem dX2_choosePart_8 : decode cX2_choosePart 8 = .ok (.iconst 1, 1) := by decide +kernel
theorem dX2_choosePart_9 : decode cX2_choosePart 9 = .ok (.goto 4, 3) := by decide +kernel
theorem dX2_choosePart_12 : decode cX2_choosePart 12 = .ok (.iconst 2, 1) := by decide +kernel
theorem dX2_choosePart_13 : decode cX2_choosePart 13 = .ok (.istore_n 3, 1) := by decide +kernel
theorem dX2_choosePart_14 : decode cX2_choosePart 14 = .ok (.aload_n 0, 1) := by decide +kernel
theorem dX2_choosePart_15 : decode cX2_choosePart 15 = .ok (.getfield 21, 3) := by decide +kernel
theorem dX2_choosePart_18 : decode cX2_choosePart 18 = .ok (.aload_n 1, 1) := by decide +kernel
theorem dX2_choosePart_19 : decode cX2_choosePart 19 = .ok (.invokevirtual 25, 3) := by decide +kernel
theorem dX2_choosePart_22 : decode cX2_choosePart 22 = .ok (.ifCond .eq 19, 3) := by decide +kernel
theorem dX2_choosePart_25 : decode cX2_choosePart 25 = .ok (.aload_n 0, 1) := by decide +kernel
theorem dX2_choosePart_26 : decode cX2_choosePart 26 = .ok (.aload_n 0, 1) := by decide +kernel
theorem dX2_choosePart_27 : decode cX2_choosePart 27 = .ok (.getfield 12, 3) := by decide +kernel
theorem dX2_choosePart_30 : decode cX2_choosePart 30 = .ok (.getfield 31, 3) := by decide +kernel
theorem dX2_choosePart_33 : decode cX2_choosePart 33 = .ok (.aload_n 2, 1) := by decide +kernel
theorem dX2_choosePart_34 : decode cX2_choosePart 34 = .ok (.iload_n 3, 1) := by decide +kernel
theorem dX2_choosePart_35 : decode cX2_choosePart 35 = .ok (.invokevirtual 112, 3) := by decide +kernel
theorem dX2_choosePart_38 : decode cX2_choosePart 38 = .ok (.goto 4, 3) := by decide +kernel
theorem dX2_choosePart_41 : decode cX2_choosePart 41 = .ok (.iconst (-1), 1) := by decide +kernel
theorem dX2_choosePart_42 : decode cX2_choosePart 42 = .ok (.putfield 116, 3) := by decide +kernel
theorem dX2_choosePart_45 : decode cX2_choosePart 45 = .ok (.aload_n 0, 1) := by decide +kernel
theorem dX2_choosePart_46 : decode cX2_choosePart 46 = .ok (.getfield 21, 3) := by decide +kernel
theorem dX2_choosePart_49 : decode cX2_choosePart 49 = .ok (.aload_n 1, 1) := by decide +kernel
theorem dX2_choosePart_50 : decode cX2_choosePart 50 = .ok (.invokevirtual 41, 3) := by decide +kernel
theorem dX2_choosePart_53 : decode cX2_choosePart 53 = .ok (.ifCond .eq 19, 3) := by decide +kernel
theorem dX2_choosePart_56 : decode cX2_choosePart 56 = .ok (.aload_n 0, 1) := by decide +kernel
theorem dX2_choosePart_57 : decode cX2_choosePart 57 = .ok (.aload_n 0, 1) := by decide +kernel
theorem dX2_choosePart_58 : decode cX2_choosePart 58 = .ok (.getfield 12, 3) := by decide +kernel
theorem dX2_choosePart_61 : decode cX2_choosePart 61 = .ok (.getfield 44, 3) := by decide +kernel
theorem dX2_choosePart_64 : decode cX2_choosePart 64 = .ok (.aload_n 2, 1) := by decide +kernel
theorem dX2_choosePart_65 : decode cX2_choosePart 65 = .ok (.iload_n 3, 1) := by decide +kernel
theorem dX2_choosePart_66 : decode cX2_choosePart 66 = .ok (.invokevirtual 112, 3) := by decide +kernel
theorem dX2_choosePart_69 : decode cX2_choosePart 69 = .ok (.goto 4, 3) := by decide +kernel
theorem dX2_choosePart_72 : decode cX2_choosePart 72 = .ok (.iconst (-1), 1) := by decide +kernel
theorem dX2_choosePart_73 : decode cX2_choosePart 73 = .ok (.putfield 119, 3) := by decide +kernel
theorem dX2_choosePart_76 : decode cX2_choosePart 76 = .ok (.aload_n 0, 1) := by decide +kernel
theorem dX2_choosePart_77 : decode cX2_choosePart 77 = .ok (.getfield 12, 3) := by decide +kernel
theorem dX2_choosePart_80 : decode cX2_choosePart 80 = .ok (.aload_n 1, 1) := by decide +kernel
theorem dX2_choosePart_81 : decode cX2_choosePart 81 = .ok (.getfield 81, 3) := by decide +kernel
theorem dX2_choosePart_84 : decode cX2_choosePart 84 = .ok (.aload_n 0, 1) := by decide +kernel
theorem dX2_choosePart_85 : decode cX2_choosePart 85 = .ok (.getfield 21, 3) := by decide +kernel
theorem dX2_choosePart_88 : decode cX2_choosePart 88 = .ok (.invokevirtual 122, 3) := by decide +kernel
theorem dX2_choosePart_91 : decode cX2_choosePart 91 = .ok (.iconst 0, 1) := by decide +kernel
theorem dX2_choosePart_92 : decode cX2_choosePart 92 = .ok (.istore 4, 2) := by decide +kernel
theorem dX2_choosePart_94 : decode cX2_choosePart 94 = .ok (.ldc 126, 2) := by decide +kernel
theorem dX2_choosePart_96 : decode cX2_choosePart 96 = .ok (.istore 5, 2) := by decide +kernel
theorem dX2_choosePart_98 : decode cX2_choosePart 98 = .ok (.iconst 0, 1) := by decide +kernel
theorem dX2_choosePart_99 : decode cX2_choosePart 99 = .ok (.istore 6, 2) := by decide +kernel
theorem dX2_choosePart_101 : decode cX2_choosePart 101 = .ok (.iload 6, 2) := by decide +kernel
theorem dX2_choosePart_103 : decode cX2_choosePart 103 = .ok (.aload_n 1, 1) := by decide +kernel
theorem dX2_choosePart_104 : decode cX2_choosePart 104 = .ok (.invokevirtual 127, 3) := by decide +kernel
theorem dX2_choosePart_107 : decode cX2_choosePart 107 = .ok (.if_icmp .ge 66, 3) := by decide +kernel
theorem dX2_choosePart_110 : decode cX2_choosePart 110 = .ok (.aload_n 0, 1) := by decide +kernel
theorem dX2_choosePart_111 : decode cX2_choosePart 111 = .ok (.getfield 21, 3) := by decide +kernel
theorem dX2_choosePart_114 : decode cX2_choosePart 114 = .ok (.iload 6, 2) := by decide +kernel
theorem dX2_choosePart_116 : decode cX2_choosePart 116 = .ok (.putfield 131, 3) := by decide +kernel
theorem dX2_choosePart_119 : decode cX2_choosePart 119 = .ok (.aload_n 0, 1) := by decide +kernel
theorem dX2_choosePart_120 : decode cX2_choosePart 120 = .ok (.getfield 12, 3) := by decide +kernel
theorem dX2_choosePart_123 : decode cX2_choosePart 123 = .ok (.aload_n 0, 1) := by decide +kernel
theorem dX2_choosePart_124 : decode cX2_choosePart 124 = .ok (.getfield 21, 3) := by decide +kernel
theorem dX2_choosePart_127 : decode cX2_choosePart 127 = .ok (.invokevirtual 134, 3) := by decide +kernel
theorem dX2_choosePart_130 : decode cX2_choosePart 130 = .ok (.aload_n 0, 1) := by decide +kernel
theorem dX2_choosePart_131 : decode cX2_choosePart 131 = .ok (.getfield 12, 3) := by decide +kernel
theorem dX2_choosePart_134 : decode cX2_choosePart 134 = .ok (.aload_n 2, 1) := by decide +kernel
theorem dX2_choosePart_135 : decode cX2_choosePart 135 = .ok (.aload_n 0, 1) := by decide +kernel
theorem dX2_choosePart_136 : decode cX2_choosePart 136 = .ok (.getfield 21, 3) := by decide +kernel
theorem dX2_choosePart_139 : decode cX2_choosePart 139 = .ok (.invokevirtual 138, 3) := by decide +kernel
theorem dX2_choosePart_142 : decode cX2_choosePart 142 = .ok (.aload_n 0, 1) := by decide +kernel
theorem dX2_choosePart_143 : decode cX2_choosePart 143 = .ok (.getfield 21, 3) := by decide +kernel
theorem dX2_choosePart_146 : decode cX2_choosePart 146 = .ok (.invokevirtual 142, 3) := by decide +kernel
theorem dX2_choosePart_149 : decode cX2_choosePart 149 = .ok (.iadd, 1) := by decide +kernel
theorem dX2_choosePart_150 : decode cX2_choosePart 150 = .ok (.istore 7, 2) := by decide +kernel
theorem dX2_choosePart_152 : decode cX2_choosePart 152 = .ok (.iload 7, 2) := by decide +kernel
theorem dX2_choosePart_154 : decode cX2_choosePart 154 = .ok (.iload 5, 2) := by decide +kernel
theorem dX2_choosePart_156 : decode cX2_choosePart 156 = .ok (.if_icmp .ge 11, 3) := by decide +kernel
theorem dX2_choosePart_159 : decode cX2_choosePart 159 = .ok (.iload 7, 2) := by decide +kernel
theorem dX2_choosePart_161 : decode cX2_choosePart 161 = .ok (.istore 5, 2) := by decide +kernel
theorem dX2_choosePart_163 : decode cX2_choosePart 163 = .ok (.iload 6, 2) := by decide +kernel
theorem dX2_choosePart_165 : decode cX2_choosePart 165 = .ok (.istore 4, 2) := by decide +kernel
theorem dX2_choosePart_167 : decode cX2_choosePart 167 = .ok (.iinc 6 1, 3) := by decide +kernel
theorem dX2_choosePart_170 : decode cX2_choosePart 170 = .ok (.goto (-69), 3) := by decide +kernel
theorem dX2_choosePart_173 : decode cX2_choosePart 173 = .ok (.aload_n 0, 1) := by decide +kernel
theorem dX2_choosePart_174 : decode cX2_choosePart 174 = .ok (.getfield 21, 3) := by decide +kernel
theorem dX2_choosePart_177 : decode cX2_choosePart 177 = .ok (.iload 4, 2) := by decide +kernel
theorem dX2_choosePart_179 : decode cX2_choosePart 179 = .ok (.putfield 131, 3) := by decide +kernel
theorem dX2_choosePart_182 : decode cX2_choosePart 182 = .ok (.aload_n 0, 1) := by decide +kernel
theorem dX2_choosePart_183 : decode cX2_choosePart 183 = .ok (.getfield 12, 3) := by decide +kernel
theorem dX2_choosePart_186 : decode cX2_choosePart 186 = .ok (.aload_n 0, 1) := by decide +kernel
theorem dX2_choosePart_187 : decode cX2_choosePart 187 = .ok (.getfield 21, 3) := by decide +kernel
theorem dX2_choosePart_190 : decode cX2_choosePart 190 = .ok (.invokevirtual 134, 3) := by decide +kernel
theorem dX2_choosePart_193 : decode cX2_choosePart 193 = .ok (.aload_n 1, 1) := by decide +kernel
theorem dX2_choosePart_194 : decode cX2_choosePart 194 = .ok (.aload_n 0, 1) := by decide +kernel
theorem dX2_choosePart_195 : decode cX2_choosePart 195 = .ok (.getfield 21, 3) := by decide +kernel
theorem dX2_choosePart_198 : decode cX2_choosePart 198 = .ok (.invokevirtual 145, 3) := by decide +kernel
theorem dX2_choosePart_201 : decode cX2_choosePart 201 = .ok (.return_, 1) := by decide +kernel
theorem dX2_search_0 : decode cX2_search 0 = .ok (.iconst 0, 1) := by decide +kernel
theorem dX2_search_1 : decode cX2_search 1 = .ok (.iconst 0, 1) := by decide +kernel
theorem dX2_search_2 : decode cX2_search 2 = .ok (.invokestatic 148, 3) := by decide +kernel
theorem dX2_search_5 : decode cX2_search 5 = .ok (.istore 4, 2) := by decide +kernel
theorem dX2_search_7 : decode cX2_search 7 = .ok (.ldc 126, 2) := by decide +kernel
theorem dX2_search_9 : decode cX2_search 9 = .ok (.istore 5, 2) := by decide +kernel
theorem dX2_search_11 : decode cX2_search 11 = .ok (.iload_n 3, 1) := by decide +kernel
theorem dX2_search_12 : decode cX2_search 12 = .ok (.iconst 1, 1) := by decide +kernel
theorem dX2_search_13 : decode cX2_search 13 = .ok (.if_icmp .le 7, 3) := by decide +kernel
theorem dX2_search_16 : decode cX2_search 16 = .ok (.iload_n 3, 1) := by decide +kernel
theorem dX2_search_17 : decode cX2_search 17 = .ok (.goto 4, 3) := by decide +kernel
theorem dX2_search_20 : decode cX2_search 20 = .ok (.iconst 1, 1) := by decide +kernel
theorem dX2_search_21 : decode cX2_search 21 = .ok (.istore 6, 2) := by decide +kernel
theorem dX2_search_23 : decode cX2_search 23 = .ok (.bipush (-8), 2) := by decide +kernel
theorem dX2_search_25 : decode cX2_search 25 = .ok (.istore 7, 2) := by decide +kernel
theorem dX2_search_27 : decode cX2_search 27 = .ok (.iload 7, 2) := by decide +kernel
theorem dX2_search_29 : decode cX2_search 29 = .ok (.bipush 8, 2) := by decide +kernel
theorem dX2_search_31 : decode cX2_search 31 = .ok (.if_icmp .gt 73, 3) := by decide +kernel
theorem dX2_search_34 : decode cX2_search 34 = .ok (.bipush (-8), 2) := by decide +kernel
theorem dX2_search_36 : decode cX2_search 36 = .ok (.istore 8, 2) := by decide +kernel
theorem dX2_search_38 : decode cX2_search 38 = .ok (.iload 8, 2) := by decide +kernel
theorem dX2_search_40 : decode cX2_search 40 = .ok (.bipush 8, 2) := by decide +kernel
theorem dX2_search_42 : decode cX2_search 42 = .ok (.if_icmp .gt 52, 3) := by decide +kernel
theorem dX2_search_45 : decode cX2_search 45 = .ok (.iload 8, 2) := by decide +kernel
theorem dX2_search_47 : decode cX2_search 47 = .ok (.iload 7, 2) := by decide +kernel
theorem dX2_search_49 : decode cX2_search 49 = .ok (.invokestatic 148, 3) := by decide +kernel
theorem dX2_search_52 : decode cX2_search 52 = .ok (.istore 9, 2) := by decide +kernel
theorem dX2_search_54 : decode cX2_search 54 = .ok (.aload_n 1, 1) := by decide +kernel
theorem dX2_search_55 : decode cX2_search 55 = .ok (.iload 9, 2) := by decide +kernel
theorem dX2_search_57 : decode cX2_search 57 = .ok (.aload_n 2, 1) := by decide +kernel
theorem dX2_search_58 : decode cX2_search 58 = .ok (.aload_n 0, 1) := by decide +kernel
theorem dX2_search_59 : decode cX2_search 59 = .ok (.getfield 21, 3) := by decide +kernel
theorem dX2_search_62 : decode cX2_search 62 = .ok (.iload 5, 2) := by decide +kernel
theorem dX2_search_64 : decode cX2_search 64 = .ok (.invokevirtual 153, 3) := by decide +kernel
theorem dX2_search_67 : decode cX2_search 67 = .ok (.istore 10, 2) := by decide +kernel
theorem dX2_search_69 : decode cX2_search 69 = .ok (.iload 10, 2) := by decide +kernel
theorem dX2_search_71 : decode cX2_search 71 = .ok (.iload 5, 2) := by decide +kernel
theorem dX2_search_73 : decode cX2_search 73 = .ok (.if_icmp .ge 11, 3) := by decide +kernel
theorem dX2_search_76 : decode cX2_search 76 = .ok (.iload 10, 2) := by decide +kernel
theorem dX2_search_78 : decode cX2_search 78 = .ok (.istore 5, 2) := by decide +kernel
theorem dX2_search_80 : decode cX2_search 80 = .ok (.iload 9, 2) := by decide +kernel
theorem dX2_search_82 : decode cX2_search 82 = .ok (.istore 4, 2) := by decide +kernel
theorem dX2_search_84 : decode cX2_search 84 = .ok (.iload 8, 2) := by decide +kernel
theorem dX2_search_86 : decode cX2_search 86 = .ok (.iload 6, 2) := by decide +kernel
theorem dX2_search_88 : decode cX2_search 88 = .ok (.iadd, 1) := by decide +kernel
theorem dX2_search_89 : decode cX2_search 89 = .ok (.istore 8, 2) := by decide +kernel
theorem dX2_search_91 : decode cX2_search 91 = .ok (.goto (-53), 3) := by decide +kernel
theorem dX2_search_94 : decode cX2_search 94 = .ok (.iload 7, 2) := by decide +kernel
theorem dX2_search_96 : decode cX2_search 96 = .ok (.iload 6, 2) := by decide +kernel
theorem dX2_search_98 : decode cX2_search 98 = .ok (.iadd, 1) := by decide +kernel
theorem dX2_search_99 : decode cX2_search 99 = .ok (.istore 7, 2) := by decide +kernel
theorem dX2_search_101 : decode cX2_search 101 = .ok (.goto (-74), 3) := by decide +kernel
theorem dX2_search_104 : decode cX2_search 104 = .ok (.iload 4, 2) := by decide +kernel
theorem dX2_search_106 : decode cX2_search 106 = .ok (.ireturn, 1) := by decide +kernel
theorem dX3_init_0 : decode cX3_init 0 = .ok (.aload_n 0, 1) := by decide +kernel
theorem dX3_init_1 : decode cX3_init 1 = .ok (.invokespecial 3, 3) := by decide +kernel
theorem dX3_init_4 : decode cX3_init 4 = .ok (.aload_n 0, 1) := by decide +kernel
theorem dX3_init_5 : decode cX3_init 5 = .ok (.new 9, 3) := by decide +kernel
theorem dX3_init_8 : decode cX3_init 8 = .ok (.dup, 1) := by decide +kernel
theorem dX3_init_9 : decode cX3_init 9 = .ok (.invokespecial 11, 3) := by decide +kernel
theorem dX3_init_12 : decode cX3_init 12 = .ok (.putfield 12, 3) := by decide +kernel
theorem dX3_init_15 : decode cX3_init 15 = .ok (.aload_n 0, 1) := by decide +kernel
theorem dX3_init_16 : decode cX3_init 16 = .ok (.new 18, 3) := by decide +kernel
theorem dX3_init_19 : decode cX3_init 19 = .ok (.dup, 1) := by decide +kernel
theorem dX3_init_20 : decode cX3_init 20 = .ok (.invokespecial 20, 3) := by decide +kernel
theorem dX3_init_23 : decode cX3_init 23 = .ok (.putfield 21, 3) := by decide +kernel
theorem dX3_init_26 : decode cX3_init 26 = .ok (.aload_n 0, 1) := by decide +kernel
theorem dX3_init_27 : decode cX3_init 27 = .ok (.sipush 256, 3) := by decide +kernel
theorem dX3_init_30 : decode cX3_init 30 = .ok (.newarray .int, 2) := by decide +kernel
theorem dX3_init_32 : decode cX3_init 32 = .ok (.putfield 25, 3) := by decide +kernel
theorem dX3_init_35 : decode cX3_init 35 = .ok (.aload_n 0, 1) := by decide +kernel
theorem dX3_init_36 : decode cX3_init 36 = .ok (.iconst 0, 1) := by decide +kernel
theorem dX3_init_37 : decode cX3_init 37 = .ok (.putfield 29, 3) := by decide +kernel
theorem dX3_init_40 : decode cX3_init 40 = .ok (.aload_n 0, 1) := by decide +kernel
theorem dX3_init_41 : decode cX3_init 41 = .ok (.iconst (-1), 1) := by decide +kernel
theorem dX3_init_42 : decode cX3_init 42 = .ok (.putfield 33, 3) := by decide +kernel
theorem dX3_init_45 : decode cX3_init 45 = .ok (.aload_n 0, 1) := by decide +kernel
theorem dX3_init_46 : decode cX3_init 46 = .ok (.iconst 0, 1) := by decide +kernel
theorem dX3_init_47 : decode cX3_init 47 = .ok (.putfield 36, 3) := by decide +kernel
theorem dX3_init_50 : decode cX3_init 50 = .ok (.aload_n 0, 1) := by decide +kernel
theorem dX3_init_51 : decode cX3_init 51 = .ok (.sipush 256, 3) := by decide +kernel
theorem dX3_init_54 : decode cX3_init 54 = .ok (.newarray .int, 2) := by decide +kernel
theorem dX3_init_56 : decode cX3_init 56 = .ok (.putfield 40, 3) := by decide +kernel
theorem dX3_init_59 : decode cX3_init 59 = .ok (.aload_n 0, 1) := by decide +kernel
theorem dX3_init_60 : decode cX3_init 60 = .ok (.iconst 0, 1) := by decide +kernel
theorem dX3_init_61 : decode cX3_init 61 = .ok (.putfield 43, 3) := by decide +kernel
theorem dX3_init_64 : decode cX3_init 64 = .ok (.aload_n 0, 1) := by decide +kernel
theorem dX3_init_65 : decode cX3_init 65 = .ok (.sipush 768, 3) := by decide +kernel
theorem dX3_init_68 : decode cX3_init 68 = .ok (.newarray .int, 2) := by decide +kernel
theorem dX3_init_70 : decode cX3_init 70 = .ok (.putfield 46, 3) := by decide +kernel
theorem dX3_init_73 : decode cX3_init 73 = .ok (.aload_n 0, 1) := by decide +kernel
theorem dX3_init_74 : decode cX3_init 74 = .ok (.iconst 3, 1) := by decide +kernel
theorem dX3_init_75 : decode cX3_init 75 = .ok (.newarray .int, 2) := by decide +kernel
theorem dX3_init_77 : decode cX3_init 77 = .ok (.putfield 49, 3) := by decide +kernel
theorem dX3_init_80 : decode cX3_init 80 = .ok (.aload_n 0, 1) := by decide +kernel
theorem dX3_init_81 : decode cX3_init 81 = .ok (.iconst 0, 1) := by decide +kernel
theorem dX3_init_82 : decode cX3_init 82 = .ok (.putfield 52, 3) := by decide +kernel
theorem dX3_init_85 : decode cX3_init 85 = .ok (.aload_n 0, 1) := by decide +kernel
theorem dX3_init_86 : decode cX3_init 86 = .ok (.iconst 0, 1) := by decide +kernel
theorem dX3_init_87 : decode cX3_init 87 = .ok (.putfield 55, 3) := by decide +kernel
theorem dX3_init_90 : decode cX3_init 90 = .ok (.return_, 1) := by decide +kernel
theorem dX3_startAt_0 : decode cX3_startAt 0 = .ok (.aload_n 0, 1) := by decide +kernel
theorem dX3_startAt_1 : decode cX3_startAt 1 = .ok (.iload_n 1, 1) := by decide +kernel
theorem dX3_startAt_2 : decode cX3_startAt 2 = .ok (.putfield 29, 3) := by decide +kernel
theorem dX3_startAt_5 : decode cX3_startAt 5 = .ok (.aload_n 0, 1) := by decide +kernel
theorem dX3_startAt_6 : decode cX3_startAt 6 = .ok (.iconst (-1), 1) := by decide +kernel
theorem dX3_startAt_7 : decode cX3_startAt 7 = .ok (.putfield 33, 3) := by decide +kernel
theorem dX3_startAt_10 : decode cX3_startAt 10 = .ok (.aload_n 0, 1) := by decide +kernel
theorem dX3_startAt_11 : decode cX3_startAt 11 = .ok (.iconst 0, 1) := by decide +kernel
theorem dX3_startAt_12 : decode cX3_startAt 12 = .ok (.putfield 36, 3) := by decide +kernel
theorem dX3_startAt_15 : decode cX3_startAt 15 = .ok (.aload_n 0, 1) := by decide +kernel
theorem dX3_startAt_16 : decode cX3_startAt 16 = .ok (.getfield 40, 3) := by decide +kernel
theorem dX3_startAt_19 : decode cX3_startAt 19 = .ok (.sipush 128, 3) := by decide +kernel
theorem dX3_startAt_22 : decode cX3_startAt 22 = .ok (.invokestatic 58, 3) := by decide +kernel
theorem dX3_startAt_25 : decode cX3_startAt 25 = .ok (.aload_n 0, 1) := by decide +kernel
theorem dX3_startAt_26 : decode cX3_startAt 26 = .ok (.iconst 0, 1) := by decide +kernel
theorem dX3_startAt_27 : decode cX3_startAt 27 = .ok (.putfield 43, 3) := by decide +kernel
theorem dX3_startAt_30 : decode cX3_startAt 30 = .ok (.aload_n 0, 1) := by decide +kernel
theorem dX3_startAt_31 : decode cX3_startAt 31 = .ok (.getfield 46, 3) := by decide +kernel
theorem dX3_startAt_34 : decode cX3_startAt 34 = .ok (.sipush 128, 3) := by decide +kernel
theorem dX3_startAt_37 : decode cX3_startAt 37 = .ok (.invokestatic 58, 3) := by decide +kernel
theorem dX3_startAt_40 : decode cX3_startAt 40 = .ok (.aload_n 0, 1) := by decide +kernel
theorem dX3_startAt_41 : decode cX3_startAt 41 = .ok (.getfield 49, 3) := by decide +kernel
theorem dX3_startAt_44 : decode cX3_startAt 44 = .ok (.iconst 0, 1) := by decide +kernel
theorem dX3_startAt_45 : decode cX3_startAt 45 = .ok (.invokestatic 58, 3) := by decide +kernel
theorem dX3_startAt_48 : decode cX3_startAt 48 = .ok (.return_, 1) := by decide +kernel
theorem dX3_receive_0 : decode cX3_receive 0 = .ok (.aload_n 0, 1) := by decide +kernel
theorem dX3_receive_1 : decode cX3_receive 1 = .ok (.aload_n 1, 1) := by decide +kernel
theorem dX3_receive_2 : decode cX3_receive 2 = .ok (.iload_n 2, 1) := by decide +kernel
theorem dX3_receive_3 : decode cX3_receive 3 = .ok (.invokevirtual 64, 3) := by decide +kernel
theorem dX3_receive_6 : decode cX3_receive 6 = .ok (.aload_n 0, 1) := by decide +kernel
theorem dX3_receive_7 : decode cX3_receive 7 = .ok (.iload_n 2, 1) := by decide +kernel
theorem dX3_receive_8 : decode cX3_receive 8 = .ok (.ifCond .ne 15, 3) := by decide +kernel
theorem dX3_receive_11 : decode cX3_receive 11 = .ok (.aload_n 0, 1) := by decide +kernel
theorem dX3_receive_12 : decode cX3_receive 12 = .ok (.aload_n 1, 1) := by decide +kernel
theorem dX3_receive_13 : decode cX3_receive 13 = .ok (.invokevirtual 68, 3) := by decide +kernel
theorem dX3_receive_16 : decode cX3_receive 16 = .ok (.ifCond .eq 7, 3) := by decide +kernel
theorem dX3_receive_19 : decode cX3_receive 19 = .ok (.iconst 1, 1) := by decide +kernel
theorem dX3_receive_20 : decode cX3_receive 20 = .ok (.goto 4, 3) := by decide +kernel
theorem dX3_receive_23 : decode cX3_receive 23 = .ok (.iconst 0, 1) := by decide +kernel
theorem dX3_receive_24 : decode cX3_receive 24 = .ok (.putfield 36, 3) := by decide +kernel
theorem dX3_receive_27 : decode cX3_receive 27 = .ok (.aload_n 0, 1) := by decide +kernel
theorem dX3_receive_28 : decode cX3_receive 28 = .ok (.getfield 25, 3) := by decide +kernel
theorem dX3_receive_31 : decode cX3_receive 31 = .ok (.aload_n 0, 1) := by decide +kernel
theorem dX3_receive_32 : decode cX3_receive 32 = .ok (.getfield 40, 3) := by decide +kernel
theorem dX3_receive_35 : decode cX3_receive 35 = .ok (.invokestatic 72, 3) := by decide +kernel
theorem dX3_receive_38 : decode cX3_receive 38 = .ok (.aload_n 0, 1) := by decide +kernel
theorem dX3_receive_39 : decode cX3_receive 39 = .ok (.aload_n 0, 1) := by decide +kernel
theorem dX3_receive_40 : decode cX3_receive 40 = .ok (.getfield 29, 3) := by decide +kernel
theorem dX3_receive_43 : decode cX3_receive 43 = .ok (.putfield 33, 3) := by decide +kernel
theorem dX3_receive_46 : decode cX3_receive 46 = .ok (.aload_n 0, 1) := by decide +kernel
theorem dX3_receive_47 : decode cX3_receive 47 = .ok (.dup, 1) := by decide +kernel
theorem dX3_receive_48 : decode cX3_receive 48 = .ok (.getfield 29, 3) := by decide +kernel
theorem dX3_receive_51 : decode cX3_receive 51 = .ok (.iconst 1, 1) := by decide +kernel
theorem dX3_receive_52 : decode cX3_receive 52 = .ok (.iadd, 1) := by decide +kernel
theorem dX3_receive_53 : decode cX3_receive 53 = .ok (.putfield 29, 3) := by decide +kernel
theorem dX3_receive_56 : decode cX3_receive 56 = .ok (.aload_n 0, 1) := by decide +kernel
theorem dX3_receive_57 : decode cX3_receive 57 = .ok (.dup, 1) := by decide +kernel
theorem dX3_receive_58 : decode cX3_receive 58 = .ok (.getfield 52, 3) := by decide +kernel
theorem dX3_receive_61 : decode cX3_receive 61 = .ok (.iconst 1, 1) := by decide +kernel
theorem dX3_receive_62 : decode cX3_receive 62 = .ok (.iadd, 1) := by decide +kernel
theorem dX3_receive_63 : decode cX3_receive 63 = .ok (.putfield 52, 3) := by decide +kernel
theorem dX3_receive_66 : decode cX3_receive 66 = .ok (.aload_n 0, 1) := by decide +kernel
theorem dX3_receive_67 : decode cX3_receive 67 = .ok (.dup, 1) := by decide +kernel
theorem dX3_receive_68 : decode cX3_receive 68 = .ok (.getfield 55, 3) := by decide +kernel
theorem dX3_receive_71 : decode cX3_receive 71 = .ok (.aload_n 0, 1) := by decide +kernel
theorem dX3_receive_72 : decode cX3_receive 72 = .ok (.getfield 36, 3) := by decide +kernel
theorem dX3_receive_75 : decode cX3_receive 75 = .ok (.ifCond .eq 7, 3) := by decide +kernel
theorem dX3_receive_78 : decode cX3_receive 78 = .ok (.iconst 1, 1) := by decide +kernel
theorem dX3_receive_79 : decode cX3_receive 79 = .ok (.goto 4, 3) := by decide +kernel
theorem dX3_receive_82 : decode cX3_receive 82 = .ok (.iconst 0, 1) := by decide +kernel
theorem dX3_receive_83 : decode cX3_receive 83 = .ok (.iadd, 1) := by decide +kernel
theorem dX3_receive_84 : decode cX3_receive 84 = .ok (.putfield 55, 3) := by decide +kernel
theorem dX3_receive_87 : decode cX3_receive 87 = .ok (.aload_n 1, 1) := by decide +kernel
theorem dX3_receive_88 : decode cX3_receive 88 = .ok (.getfield 76, 3) := by decide +kernel
theorem dX3_receive_91 : decode cX3_receive 91 = .ok (.ifCond .eq 7, 3) := by decide +kernel
theorem dX3_receive_94 : decode cX3_receive 94 = .ok (.aload_n 0, 1) := by decide +kernel
theorem dX3_receive_95 : decode cX3_receive 95 = .ok (.invokevirtual 81, 3) := by decide +kernel
theorem dX3_receive_98 : decode cX3_receive 98 = .ok (.return_, 1) := by decide +kernel
theorem dX3_leansOnClean_0 : decode cX3_leansOnClean 0 = .ok (.aload_n 1, 1) := by decide +kernel
theorem dX3_leansOnClean_1 : decode cX3_leansOnClean 1 = .ok (.invokevirtual 84, 3) := by decide +kernel
theorem dX3_leansOnClean_4 : decode cX3_leansOnClean 4 = .ok (.ifCond .eq 18, 3) := by decide +kernel
theorem dX3_leansOnClean_7 : decode cX3_leansOnClean 7 = .ok (.aload_n 0, 1) := by decide +kernel
theorem dX3_leansOnClean_8 : decode cX3_leansOnClean 8 = .ok (.getfield 49, 3) := by decide +kernel
theorem dX3_leansOnClean_11 : decode cX3_leansOnClean 11 = .ok (.aload_n 1, 1) := by decide +kernel
theorem dX3_leansOnClean_12 : decode cX3_leansOnClean 12 = .ok (.getfield 88, 3) := by decide +kernel
theorem dX3_leansOnClean_15 : decode cX3_leansOnClean 15 = .ok (.invokestatic 91, 3) := by decide +kernel
theorem dX3_leansOnClean_18 : decode cX3_leansOnClean 18 = .ok (.iconst 1, 1) := by decide +kernel
theorem dX3_leansOnClean_19 : decode cX3_leansOnClean 19 = .ok (.if_icmp .ne 29, 3) := by decide +kernel
theorem dX3_leansOnClean_22 : decode cX3_leansOnClean 22 = .ok (.aload_n 1, 1) := by decide +kernel
theorem dX3_leansOnClean_23 : decode cX3_leansOnClean 23 = .ok (.invokevirtual 95, 3) := by decide +kernel
theorem dX3_leansOnClean_26 : decode cX3_leansOnClean 26 = .ok (.ifCond .eq 18, 3) := by decide +kernel
theorem dX3_leansOnClean_29 : decode cX3_leansOnClean 29 = .ok (.aload_n 0, 1) := by decide +kernel
theorem dX3_leansOnClean_30 : decode cX3_leansOnClean 30 = .ok (.getfield 49, 3) := by decide +kernel
theorem dX3_leansOnClean_33 : decode cX3_leansOnClean 33 = .ok (.aload_n 1, 1) := by decide +kernel
theorem dX3_leansOnClean_34 : decode cX3_leansOnClean 34 = .ok (.getfield 98, 3) := by decide +kernel
theorem dX3_leansOnClean_37 : decode cX3_leansOnClean 37 = .ok (.invokestatic 91, 3) := by decide +kernel
theorem dX3_leansOnClean_40 : decode cX3_leansOnClean 40 = .ok (.iconst 1, 1) := by decide +kernel
theorem dX3_leansOnClean_41 : decode cX3_leansOnClean 41 = .ok (.if_icmp .ne 7, 3) := by decide +kernel
theorem dX3_leansOnClean_44 : decode cX3_leansOnClean 44 = .ok (.iconst 1, 1) := by decide +kernel
theorem dX3_leansOnClean_45 : decode cX3_leansOnClean 45 = .ok (.goto 4, 3) := by decide +kernel
theorem dX3_leansOnClean_48 : decode cX3_leansOnClean 48 = .ok (.iconst 0, 1) := by decide +kernel
theorem dX3_leansOnClean_49 : decode cX3_leansOnClean 49 = .ok (.ireturn, 1) := by decide +kernel
theorem dX3_keep_0 : decode cX3_keep 0 = .ok (.aload_n 0, 1) := by decide +kernel
theorem dX3_keep_1 : decode cX3_keep 1 = .ok (.getfield 46, 3) := by decide +kernel
theorem dX3_keep_4 : decode cX3_keep 4 = .ok (.sipush 256, 3) := by decide +kernel
theorem dX3_keep_7 : decode cX3_keep 7 = .ok (.invokestatic 101, 3) := by decide +kernel
theorem dX3_keep_10 : decode cX3_keep 10 = .ok (.aload_n 0, 1) := by decide +kernel
theorem dX3_keep_11 : decode cX3_keep 11 = .ok (.getfield 25, 3) := by decide +kernel
theorem dX3_keep_14 : decode cX3_keep 14 = .ok (.aload_n 0, 1) := by decide +kernel
theorem dX3_keep_15 : decode cX3_keep 15 = .ok (.getfield 46, 3) := by decide +kernel
theorem dX3_keep_18 : decode cX3_keep 18 = .ok (.invokestatic 72, 3) := by decide +kernel
theorem dX3_keep_21 : decode cX3_keep 21 = .ok (.aload_n 0, 1) := by decide +kernel
theorem dX3_keep_22 : decode cX3_keep 22 = .ok (.getfield 49, 3) := by decide +kernel
theorem dX3_keep_25 : decode cX3_keep 25 = .ok (.iconst 1, 1) := by decide +kernel
theorem dX3_keep_26 : decode cX3_keep 26 = .ok (.invokestatic 101, 3) := by decide +kernel
theorem dX3_keep_29 : decode cX3_keep 29 = .ok (.aload_n 0, 1) := by decide +kernel
theorem dX3_keep_30 : decode cX3_keep 30 = .ok (.getfield 49, 3) := by decide +kernel
theorem dX3_keep_33 : decode cX3_keep 33 = .ok (.iconst 0, 1) := by decide +kernel
theorem dX3_keep_34 : decode cX3_keep 34 = .ok (.aload_n 0, 1) := by decide +kernel
theorem dX3_keep_35 : decode cX3_keep 35 = .ok (.getfield 36, 3) := by decide +kernel
theorem dX3_keep_38 : decode cX3_keep 38 = .ok (.ifCond .eq 7, 3) := by decide +kernel
theorem dX3_keep_41 : decode cX3_keep 41 = .ok (.iconst 1, 1) := by decide +kernel
theorem dX3_keep_42 : decode cX3_keep 42 = .ok (.goto 4, 3) := by decide +kernel
theorem dX3_keep_45 : decode cX3_keep 45 = .ok (.iconst 0, 1) := by decide +kernel
theorem dX3_keep_46 : decode cX3_keep 46 = .ok (.invokestatic 104, 3) := by decide +kernel
theorem dX3_keep_49 : decode cX3_keep 49 = .ok (.aload_n 0, 1) := by decide +kernel
theorem dX3_keep_50 : decode cX3_keep 50 = .ok (.aload_n 0, 1) := by decide +kernel
theorem dX3_keep_51 : decode cX3_keep 51 = .ok (.getfield 43, 3) := by decide +kernel
theorem dX3_keep_54 : decode cX3_keep 54 = .ok (.iconst 1, 1) := by decide +kernel
theorem dX3_keep_55 : decode cX3_keep 55 = .ok (.iadd, 1) := by decide +kernel
theorem dX3_keep_56 : decode cX3_keep 56 = .ok (.iconst 3, 1) := by decide +kernel
theorem dX3_keep_57 : decode cX3_keep 57 = .ok (.invokestatic 108, 3) := by decide +kernel
theorem dX3_keep_60 : decode cX3_keep 60 = .ok (.putfield 43, 3) := by decide +kernel
theorem dX3_keep_63 : decode cX3_keep 63 = .ok (.return_, 1) := by decide +kernel
theorem dX3_build_0 : decode cX3_build 0 = .ok (.aload_n 1, 1) := by decide +kernel
theorem dX3_build_1 : decode cX3_build 1 = .ok (.invokevirtual 84, 3) := by decide +kernel
theorem dX3_build_4 : decode cX3_build 4 = .ok (.ifCond .eq 25, 3) := by decide +kernel
theorem dX3_build_7 : decode cX3_build 7 = .ok (.aload_n 0, 1) := by decide +kernel
theorem dX3_build_8 : decode cX3_build 8 = .ok (.getfield 12, 3) := by decide +kernel
theorem dX3_build_11 : decode cX3_build 11 = .ok (.getfield 114, 3) := by decide +kernel
theorem dX3_build_14 : decode cX3_build 14 = .ok (.aload_n 0, 1) := by decide +kernel
theorem dX3_build_15 : decode cX3_build 15 = .ok (.getfield 46, 3) := by decide +kernel
theorem dX3_build_18 : decode cX3_build 18 = .ok (.sipush 256, 3) := by decide +kernel
theorem dX3_build_21 : decode cX3_build 21 = .ok (.aload_n 1, 1) := by decide +kernel
theorem dX3_build_22 : decode cX3_build 22 = .ok (.getfield 88, 3) := by decide +kernel
theorem dX3_build_25 : decode cX3_build 25 = .ok (.imul, 1) := by decide +kernel
theorem dX3_build_26 : decode cX3_build 26 = .ok (.invokevirtual 117, 3) := by decide +kernel
theorem dX3_build_29 : decode cX3_build 29 = .ok (.aload_n 1, 1) := by decide +kernel
theorem dX3_build_30 : decode cX3_build 30 = .ok (.invokevirtual 95, 3) := by decide +kernel
theorem dX3_build_33 : decode cX3_build 33 = .ok (.ifCond .eq 25, 3) := by decide +kernel
theorem dX3_build_36 : decode cX3_build 36 = .ok (.aload_n 0, 1) := by decide +kernel
theorem dX3_build_37 : decode cX3_build 37 = .ok (.getfield 12, 3) := by decide +kernel
theorem dX3_build_40 : decode cX3_build 40 = .ok (.getfield 122, 3) := by decide +kernel
theorem dX3_build_43 : decode cX3_build 43 = .ok (.aload_n 0, 1) := by decide +kernel
theorem dX3_build_44 : decode cX3_build 44 = .ok (.getfield 46, 3) := by decide +kernel
theorem dX3_build_47 : decode cX3_build 47 = .ok (.sipush 256, 3) := by decide +kernel
theorem dX3_build_50 : decode cX3_build 50 = .ok (.aload_n 1, 1) := by decide +kernel
theorem dX3_build_51 : decode cX3_build 51 = .ok (.getfield 98, 3) := by decide +kernel
theorem dX3_build_54 : decode cX3_build 54 = .ok (.imul, 1) := by decide +kernel
theorem dX3_build_55 : decode cX3_build 55 = .ok (.invokevirtual 117, 3) := by decide +kernel
theorem dX3_build_58 : decode cX3_build 58 = .ok (.iconst 0, 1) := by decide +kernel
theorem dX3_build_59 : decode cX3_build 59 = .ok (.istore_n 3, 1) := by decide +kernel
theorem dX3_build_60 : decode cX3_build 60 = .ok (.iload_n 3, 1) := by decide +kernel
theorem dX3_build_61 : decode cX3_build 61 = .ok (.bipush 16, 2) := by decide +kernel
theorem dX3_build_63 : decode cX3_build 63 = .ok (.if_icmp .ge 115, 3) := by decide +kernel
theorem dX3_build_66 : decode cX3_build 66 = .ok (.iload_n 3, 1) := by decide +kernel
theorem dX3_build_67 : decode cX3_build 67 = .ok (.invokestatic 124, 3) := by decide +kernel
theorem dX3_build_70 : decode cX3_build 70 = .ok (.iload_n 3, 1) := by decide +kernel
theorem dX3_build_71 : decode cX3_build 71 = .ok (.invokestatic 128, 3) := by decide +kernel
theorem dX3_build_74 : decode cX3_build 74 = .ok (.invokestatic 131, 3) := by decide +kernel
theorem dX3_build_77 : decode cX3_build 77 = .ok (.istore 4, 2) := by decide +kernel
theorem dX3_build_79 : decode cX3_build 79 = .ok (.iload_n 2, 1) := by decide +kernel
theorem dX3_build_80 : decode cX3_build 80 = .ok (.aload_n 1, 1) := by decide +kernel
theorem dX3_build_81 : decode cX3_build 81 = .ok (.iload_n 3, 1) := by decide +kernel
theorem dX3_build_82 : decode cX3_build 82 = .ok (.invokestatic 128, 3) := by decide +kernel
theorem dX3_build_85 : decode cX3_build 85 = .ok (.invokevirtual 134, 3) := by decide +kernel
theorem dX3_build_88 : decode cX3_build 88 = .ok (.ishr, 1) := by decide +kernel
theorem dX3_build_89 : decode cX3_build 89 = .ok (.iconst 1, 1) := by decide +kernel
theorem dX3_build_90 : decode cX3_build 90 = .ok (.iand, 1) := by decide +kernel
theorem dX3_build_91 : decode cX3_build 91 = .ok (.ifCond .eq 7, 3) := by decide +kernel
theorem dX3_build_94 : decode cX3_build 94 = .ok (.iconst 1, 1) := by decide +kernel
theorem dX3_build_95 : decode cX3_build 95 = .ok (.goto 4, 3) := by decide +kernel
theorem dX3_build_98 : decode cX3_build 98 = .ok (.iconst 0, 1) := by decide +kernel
theorem dX3_build_99 : decode cX3_build 99 = .ok (.istore 5, 2) := by decide +kernel
theorem dX3_build_101 : decode cX3_build 101 = .ok (.iload 5, 2) := by decide +kernel
theorem dX3_build_103 : decode cX3_build 103 = .ok (.ifCond .eq 12, 3) := by decide +kernel
