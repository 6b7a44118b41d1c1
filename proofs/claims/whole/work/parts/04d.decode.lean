theorem dX11_inPicture_3 : decode cX11_inPicture 3 = .ok (.iconst 4, 1) := by decide +kernel
theorem dX11_inPicture_4 : decode cX11_inPicture 4 = .ok (.idiv, 1) := by decide +kernel
theorem dX11_inPicture_5 : decode cX11_inPicture 5 = .ok (.imul, 1) := by decide +kernel
theorem dX11_inPicture_6 : decode cX11_inPicture 6 = .ok (.iload_n 0, 1) := by decide +kernel
theorem dX11_inPicture_7 : decode cX11_inPicture 7 = .ok (.iconst 4, 1) := by decide +kernel
theorem dX11_inPicture_8 : decode cX11_inPicture 8 = .ok (.irem, 1) := by decide +kernel
theorem dX11_inPicture_9 : decode cX11_inPicture 9 = .ok (.iadd, 1) := by decide +kernel
theorem dX11_inPicture_10 : decode cX11_inPicture 10 = .ok (.ireturn, 1) := by decide +kernel
theorem dX11_startsBlock_0 : decode cX11_startsBlock 0 = .ok (.iload_n 0, 1) := by decide +kernel
theorem dX11_startsBlock_1 : decode cX11_startsBlock 1 = .ok (.iconst 4, 1) := by decide +kernel
theorem dX11_startsBlock_2 : decode cX11_startsBlock 2 = .ok (.irem, 1) := by decide +kernel
theorem dX11_startsBlock_3 : decode cX11_startsBlock 3 = .ok (.ifCond .ne 7, 3) := by decide +kernel
theorem dX11_startsBlock_6 : decode cX11_startsBlock 6 = .ok (.iconst 1, 1) := by decide +kernel
theorem dX11_startsBlock_7 : decode cX11_startsBlock 7 = .ok (.goto 4, 3) := by decide +kernel
theorem dX11_startsBlock_10 : decode cX11_startsBlock 10 = .ok (.iconst 0, 1) := by decide +kernel
theorem dX11_startsBlock_11 : decode cX11_startsBlock 11 = .ok (.ireturn, 1) := by decide +kernel
theorem dX11_refuseNoPixel_0 : decode cX11_refuseNoPixel 0 = .ok (.iload_n 0, 1) := by decide +kernel
theorem dX11_refuseNoPixel_1 : decode cX11_refuseNoPixel 1 = .ok (.iload_n 1, 1) := by decide +kernel
theorem dX11_refuseNoPixel_2 : decode cX11_refuseNoPixel 2 = .ok (.invokestatic 82, 3) := by decide +kernel
theorem dX11_refuseNoPixel_5 : decode cX11_refuseNoPixel 5 = .ok (.ifCond .ne 14, 3) := by decide +kernel
theorem dX11_refuseNoPixel_8 : decode cX11_refuseNoPixel 8 = .ok (.new 155, 3) := by decide +kernel
theorem dX11_refuseNoPixel_11 : decode cX11_refuseNoPixel 11 = .ok (.dup, 1) := by decide +kernel
theorem dX11_refuseNoPixel_12 : decode cX11_refuseNoPixel 12 = .ok (.ldc_w 317, 3) := by decide +kernel
theorem dX11_refuseNoPixel_15 : decode cX11_refuseNoPixel 15 = .ok (.invokespecial 159, 3) := by decide +kernel
theorem dX11_refuseNoPixel_18 : decode cX11_refuseNoPixel 18 = .ok (.athrow, 1) := by decide +kernel
theorem dX11_refuseNoPixel_19 : decode cX11_refuseNoPixel 19 = .ok (.return_, 1) := by decide +kernel
theorem dX11_refuseNothingShown_0 : decode cX11_refuseNothingShown 0 = .ok (.aload_n 0, 1) := by decide +kernel
theorem dX11_refuseNothingShown_1 : decode cX11_refuseNothingShown 1 = .ok (.getfield 74, 3) := by decide +kernel
theorem dX11_refuseNothingShown_4 : decode cX11_refuseNothingShown 4 = .ok (.getfield 299, 3) := by decide +kernel
theorem dX11_refuseNothingShown_7 : decode cX11_refuseNothingShown 7 = .ok (.iconst (-1), 1) := by decide +kernel
theorem dX11_refuseNothingShown_8 : decode cX11_refuseNothingShown 8 = .ok (.if_icmp .ne 14, 3) := by decide +kernel
theorem dX11_refuseNothingShown_11 : decode cX11_refuseNothingShown 11 = .ok (.new 218, 3) := by decide +kernel
theorem dX11_refuseNothingShown_14 : decode cX11_refuseNothingShown 14 = .ok (.dup, 1) := by decide +kernel
theorem dX11_refuseNothingShown_15 : decode cX11_refuseNothingShown 15 = .ok (.ldc_w 319, 3) := by decide +kernel
theorem dX11_refuseNothingShown_18 : decode cX11_refuseNothingShown 18 = .ok (.invokespecial 222, 3) := by decide +kernel
theorem dX11_refuseNothingShown_21 : decode cX11_refuseNothingShown 21 = .ok (.athrow, 1) := by decide +kernel
theorem dX11_refuseNothingShown_22 : decode cX11_refuseNothingShown 22 = .ok (.return_, 1) := by decide +kernel
theorem dX11_pictureAt_0 : decode cX11_pictureAt 0 = .ok (.iload_n 1, 1) := by decide +kernel
theorem dX11_pictureAt_1 : decode cX11_pictureAt 1 = .ok (.ifCond .lt 20, 3) := by decide +kernel
theorem dX11_pictureAt_4 : decode cX11_pictureAt 4 = .ok (.iload_n 1, 1) := by decide +kernel
theorem dX11_pictureAt_5 : decode cX11_pictureAt 5 = .ok (.aload_n 0, 1) := by decide +kernel
theorem dX11_pictureAt_6 : decode cX11_pictureAt 6 = .ok (.getfield 43, 3) := by decide +kernel
theorem dX11_pictureAt_9 : decode cX11_pictureAt 9 = .ok (.if_icmp .ge 12, 3) := by decide +kernel
theorem dX11_pictureAt_12 : decode cX11_pictureAt 12 = .ok (.iload_n 1, 1) := by decide +kernel
theorem dX11_pictureAt_13 : decode cX11_pictureAt 13 = .ok (.aload_n 0, 1) := by decide +kernel
theorem dX11_pictureAt_14 : decode cX11_pictureAt 14 = .ok (.getfield 39, 3) := by decide +kernel
theorem dX11_pictureAt_17 : decode cX11_pictureAt 17 = .ok (.arraylength, 1) := by decide +kernel
theorem dX11_pictureAt_18 : decode cX11_pictureAt 18 = .ok (.if_icmp .lt 14, 3) := by decide +kernel
theorem dX11_pictureAt_21 : decode cX11_pictureAt 21 = .ok (.new 155, 3) := by decide +kernel
theorem dX11_pictureAt_24 : decode cX11_pictureAt 24 = .ok (.dup, 1) := by decide +kernel
theorem dX11_pictureAt_25 : decode cX11_pictureAt 25 = .ok (.ldc_w 293, 3) := by decide +kernel
theorem dX11_pictureAt_28 : decode cX11_pictureAt 28 = .ok (.invokespecial 159, 3) := by decide +kernel
theorem dX11_pictureAt_31 : decode cX11_pictureAt 31 = .ok (.athrow, 1) := by decide +kernel
theorem dX11_pictureAt_32 : decode cX11_pictureAt 32 = .ok (.aload_n 0, 1) := by decide +kernel
theorem dX11_pictureAt_33 : decode cX11_pictureAt 33 = .ok (.getfield 39, 3) := by decide +kernel
theorem dX11_pictureAt_36 : decode cX11_pictureAt 36 = .ok (.iload_n 1, 1) := by decide +kernel
theorem dX11_pictureAt_37 : decode cX11_pictureAt 37 = .ok (.aaload, 1) := by decide +kernel
theorem dX11_pictureAt_38 : decode cX11_pictureAt 38 = .ok (.astore_n 2, 1) := by decide +kernel
theorem dX11_pictureAt_39 : decode cX11_pictureAt 39 = .ok (.aload_n 2, 1) := by decide +kernel
theorem dX11_pictureAt_40 : decode cX11_pictureAt 40 = .ok (.ifnonnull 14, 3) := by decide +kernel
theorem dX11_pictureAt_43 : decode cX11_pictureAt 43 = .ok (.new 155, 3) := by decide +kernel
theorem dX11_pictureAt_46 : decode cX11_pictureAt 46 = .ok (.dup, 1) := by decide +kernel
theorem dX11_pictureAt_47 : decode cX11_pictureAt 47 = .ok (.ldc_w 293, 3) := by decide +kernel
theorem dX11_pictureAt_50 : decode cX11_pictureAt 50 = .ok (.invokespecial 159, 3) := by decide +kernel
theorem dX11_pictureAt_53 : decode cX11_pictureAt 53 = .ok (.athrow, 1) := by decide +kernel
theorem dX11_pictureAt_54 : decode cX11_pictureAt 54 = .ok (.aload_n 2, 1) := by decide +kernel
theorem dX11_pictureAt_55 : decode cX11_pictureAt 55 = .ok (.areturn, 1) := by decide +kernel
theorem dX11_sliceAt_0 : decode cX11_sliceAt 0 = .ok (.aload_n 0, 1) := by decide +kernel
theorem dX11_sliceAt_1 : decode cX11_sliceAt 1 = .ok (.iload_n 1, 1) := by decide +kernel
theorem dX11_sliceAt_2 : decode cX11_sliceAt 2 = .ok (.invokevirtual 223, 3) := by decide +kernel
theorem dX11_sliceAt_5 : decode cX11_sliceAt 5 = .ok (.astore_n 3, 1) := by decide +kernel
theorem dX11_sliceAt_6 : decode cX11_sliceAt 6 = .ok (.iload_n 2, 1) := by decide +kernel
theorem dX11_sliceAt_7 : decode cX11_sliceAt 7 = .ok (.ifCond .lt 11, 3) := by decide +kernel
theorem dX11_sliceAt_10 : decode cX11_sliceAt 10 = .ok (.iload_n 2, 1) := by decide +kernel
theorem dX11_sliceAt_11 : decode cX11_sliceAt 11 = .ok (.aload_n 3, 1) := by decide +kernel
theorem dX11_sliceAt_12 : decode cX11_sliceAt 12 = .ok (.getfield 282, 3) := by decide +kernel
theorem dX11_sliceAt_15 : decode cX11_sliceAt 15 = .ok (.if_icmp .lt 14, 3) := by decide +kernel
theorem dX11_sliceAt_18 : decode cX11_sliceAt 18 = .ok (.new 155, 3) := by decide +kernel
theorem dX11_sliceAt_21 : decode cX11_sliceAt 21 = .ok (.dup, 1) := by decide +kernel
theorem dX11_sliceAt_22 : decode cX11_sliceAt 22 = .ok (.ldc_w 321, 3) := by decide +kernel
theorem dX11_sliceAt_25 : decode cX11_sliceAt 25 = .ok (.invokespecial 159, 3) := by decide +kernel
theorem dX11_sliceAt_28 : decode cX11_sliceAt 28 = .ok (.athrow, 1) := by decide +kernel
theorem dX11_sliceAt_29 : decode cX11_sliceAt 29 = .ok (.iload_n 2, 1) := by decide +kernel
theorem dX11_sliceAt_30 : decode cX11_sliceAt 30 = .ok (.ifCond .ne 10, 3) := by decide +kernel
theorem dX11_sliceAt_33 : decode cX11_sliceAt 33 = .ok (.aload_n 3, 1) := by decide +kernel
theorem dX11_sliceAt_34 : decode cX11_sliceAt 34 = .ok (.getfield 323, 3) := by decide +kernel
theorem dX11_sliceAt_37 : decode cX11_sliceAt 37 = .ok (.goto 7, 3) := by decide +kernel
theorem dX11_sliceAt_40 : decode cX11_sliceAt 40 = .ok (.aload_n 3, 1) := by decide +kernel
theorem dX11_sliceAt_41 : decode cX11_sliceAt 41 = .ok (.getfield 326, 3) := by decide +kernel
theorem dX11_sliceAt_44 : decode cX11_sliceAt 44 = .ok (.areturn, 1) := by decide +kernel
theorem dX11_isKeptPlace_0 : decode cX11_isKeptPlace 0 = .ok (.iload_n 1, 1) := by decide +kernel
theorem dX11_isKeptPlace_1 : decode cX11_isKeptPlace 1 = .ok (.ifCond .lt 15, 3) := by decide +kernel
theorem dX11_isKeptPlace_4 : decode cX11_isKeptPlace 4 = .ok (.iload_n 1, 1) := by decide +kernel
theorem dX11_isKeptPlace_5 : decode cX11_isKeptPlace 5 = .ok (.aload_n 0, 1) := by decide +kernel
theorem dX11_isKeptPlace_6 : decode cX11_isKeptPlace 6 = .ok (.getfield 54, 3) := by decide +kernel
theorem dX11_isKeptPlace_9 : decode cX11_isKeptPlace 9 = .ok (.if_icmp .ge 7, 3) := by decide +kernel
theorem dX11_isKeptPlace_12 : decode cX11_isKeptPlace 12 = .ok (.iconst 1, 1) := by decide +kernel
theorem dX11_isKeptPlace_13 : decode cX11_isKeptPlace 13 = .ok (.goto 4, 3) := by decide +kernel
theorem dX11_isKeptPlace_16 : decode cX11_isKeptPlace 16 = .ok (.iconst 0, 1) := by decide +kernel
theorem dX11_isKeptPlace_17 : decode cX11_isKeptPlace 17 = .ok (.ireturn, 1) := by decide +kernel
theorem dX11_keptPixels_0 : decode cX11_keptPixels 0 = .ok (.aload_n 0, 1) := by decide +kernel
theorem dX11_keptPixels_1 : decode cX11_keptPixels 1 = .ok (.iload_n 1, 1) := by decide +kernel
theorem dX11_keptPixels_2 : decode cX11_keptPixels 2 = .ok (.invokevirtual 152, 3) := by decide +kernel
theorem dX11_keptPixels_5 : decode cX11_keptPixels 5 = .ok (.ifCond .eq 21, 3) := by decide +kernel
theorem dX11_keptPixels_8 : decode cX11_keptPixels 8 = .ok (.aload_n 0, 1) := by decide +kernel
theorem dX11_keptPixels_9 : decode cX11_keptPixels 9 = .ok (.aload_n 0, 1) := by decide +kernel
theorem dX11_keptPixels_10 : decode cX11_keptPixels 10 = .ok (.getfield 51, 3) := by decide +kernel
theorem dX11_keptPixels_13 : decode cX11_keptPixels 13 = .ok (.iload_n 1, 1) := by decide +kernel
theorem dX11_keptPixels_14 : decode cX11_keptPixels 14 = .ok (.invokestatic 103, 3) := by decide +kernel
theorem dX11_keptPixels_17 : decode cX11_keptPixels 17 = .ok (.invokevirtual 223, 3) := by decide +kernel
theorem dX11_keptPixels_20 : decode cX11_keptPixels 20 = .ok (.getfield 260, 3) := by decide +kernel
theorem dX11_keptPixels_23 : decode cX11_keptPixels 23 = .ok (.goto 4, 3) := by decide +kernel
theorem dX11_keptPixels_26 : decode cX11_keptPixels 26 = .ok (.aconst_null, 1) := by decide +kernel
theorem dX11_keptPixels_27 : decode cX11_keptPixels 27 = .ok (.areturn, 1) := by decide +kernel
theorem dX11_heavierThan_0 : decode cX11_heavierThan 0 = .ok (.aload_n 0, 1) := by decide +kernel
theorem dX11_heavierThan_1 : decode cX11_heavierThan 1 = .ok (.iload_n 1, 1) := by decide +kernel
theorem dX11_heavierThan_2 : decode cX11_heavierThan 2 = .ok (.invokevirtual 223, 3) := by decide +kernel
theorem dX11_heavierThan_5 : decode cX11_heavierThan 5 = .ok (.invokevirtual 308, 3) := by decide +kernel
theorem dX11_heavierThan_8 : decode cX11_heavierThan 8 = .ok (.istore_n 2, 1) := by decide +kernel
theorem dX11_heavierThan_9 : decode cX11_heavierThan 9 = .ok (.iconst 0, 1) := by decide +kernel
theorem dX11_heavierThan_10 : decode cX11_heavierThan 10 = .ok (.istore_n 3, 1) := by decide +kernel
theorem dX11_heavierThan_11 : decode cX11_heavierThan 11 = .ok (.iconst 0, 1) := by decide +kernel
theorem dX11_heavierThan_12 : decode cX11_heavierThan 12 = .ok (.istore 4, 2) := by decide +kernel
theorem dX11_heavierThan_14 : decode cX11_heavierThan 14 = .ok (.iload 4, 2) := by decide +kernel
theorem dX11_heavierThan_16 : decode cX11_heavierThan 16 = .ok (.aload_n 0, 1) := by decide +kernel
theorem dX11_heavierThan_17 : decode cX11_heavierThan 17 = .ok (.getfield 43, 3) := by decide +kernel
theorem dX11_heavierThan_20 : decode cX11_heavierThan 20 = .ok (.if_icmp .ge 41, 3) := by decide +kernel
theorem dX11_heavierThan_23 : decode cX11_heavierThan 23 = .ok (.aload_n 0, 1) := by decide +kernel
theorem dX11_heavierThan_24 : decode cX11_heavierThan 24 = .ok (.iload 4, 2) := by decide +kernel
theorem dX11_heavierThan_26 : decode cX11_heavierThan 26 = .ok (.invokevirtual 223, 3) := by decide +kernel
theorem dX11_heavierThan_29 : decode cX11_heavierThan 29 = .ok (.invokevirtual 308, 3) := by decide +kernel
theorem dX11_heavierThan_32 : decode cX11_heavierThan 32 = .ok (.istore 5, 2) := by decide +kernel
theorem dX11_heavierThan_34 : decode cX11_heavierThan 34 = .ok (.iload 5, 2) := by decide +kernel
theorem dX11_heavierThan_36 : decode cX11_heavierThan 36 = .ok (.iload_n 2, 1) := by decide +kernel
theorem dX11_heavierThan_37 : decode cX11_heavierThan 37 = .ok (.if_icmp .gt 15, 3) := by decide +kernel
theorem dX11_heavierThan_40 : decode cX11_heavierThan 40 = .ok (.iload 5, 2) := by decide +kernel
theorem dX11_heavierThan_42 : decode cX11_heavierThan 42 = .ok (.iload_n 2, 1) := by decide +kernel
theorem dX11_heavierThan_43 : decode cX11_heavierThan 43 = .ok (.if_icmp .ne 12, 3) := by decide +kernel
theorem dX11_heavierThan_46 : decode cX11_heavierThan 46 = .ok (.iload 4, 2) := by decide +kernel
theorem dX11_heavierThan_48 : decode cX11_heavierThan 48 = .ok (.iload_n 1, 1) := by decide +kernel
theorem dX11_heavierThan_49 : decode cX11_heavierThan 49 = .ok (.if_icmp .ge 6, 3) := by decide +kernel
theorem dX11_heavierThan_52 : decode cX11_heavierThan 52 = .ok (.iinc 3 1, 3) := by decide +kernel
theorem dX11_heavierThan_55 : decode cX11_heavierThan 55 = .ok (.iinc 4 1, 3) := by decide +kernel
theorem dX11_heavierThan_58 : decode cX11_heavierThan 58 = .ok (.goto (-44), 3) := by decide +kernel
theorem dX11_heavierThan_61 : decode cX11_heavierThan 61 = .ok (.iload_n 3, 1) := by decide +kernel
theorem dX11_heavierThan_62 : decode cX11_heavierThan 62 = .ok (.ireturn, 1) := by decide +kernel
theorem dX11_takeDraft_0 : decode cX11_takeDraft 0 = .ok (.aload_n 0, 1) := by decide +kernel
theorem dX11_takeDraft_1 : decode cX11_takeDraft 1 = .ok (.getfield 43, 3) := by decide +kernel
theorem dX11_takeDraft_4 : decode cX11_takeDraft 4 = .ok (.ifCond .lt 15, 3) := by decide +kernel
theorem dX11_takeDraft_7 : decode cX11_takeDraft 7 = .ok (.aload_n 0, 1) := by decide +kernel
theorem dX11_takeDraft_8 : decode cX11_takeDraft 8 = .ok (.getfield 43, 3) := by decide +kernel
theorem dX11_takeDraft_11 : decode cX11_takeDraft 11 = .ok (.aload_n 0, 1) := by decide +kernel
theorem dX11_takeDraft_12 : decode cX11_takeDraft 12 = .ok (.getfield 39, 3) := by decide +kernel
theorem dX11_takeDraft_15 : decode cX11_takeDraft 15 = .ok (.arraylength, 1) := by decide +kernel
theorem dX11_takeDraft_16 : decode cX11_takeDraft 16 = .ok (.if_icmp .lt 4, 3) := by decide +kernel
theorem dX11_takeDraft_19 : decode cX11_takeDraft 19 = .ok (.return_, 1) := by decide +kernel
theorem dX11_takeDraft_20 : decode cX11_takeDraft 20 = .ok (.aload_n 0, 1) := by decide +kernel
theorem dX11_takeDraft_21 : decode cX11_takeDraft 21 = .ok (.getfield 39, 3) := by decide +kernel
theorem dX11_takeDraft_24 : decode cX11_takeDraft 24 = .ok (.aload_n 0, 1) := by decide +kernel
theorem dX11_takeDraft_25 : decode cX11_takeDraft 25 = .ok (.getfield 43, 3) := by decide +kernel
theorem dX11_takeDraft_28 : decode cX11_takeDraft 28 = .ok (.aload_n 0, 1) := by decide +kernel
theorem dX11_takeDraft_29 : decode cX11_takeDraft 29 = .ok (.getfield 47, 3) := by decide +kernel
theorem dX11_takeDraft_32 : decode cX11_takeDraft 32 = .ok (.aastore, 1) := by decide +kernel
theorem dX11_takeDraft_33 : decode cX11_takeDraft 33 = .ok (.aload_n 0, 1) := by decide +kernel
theorem dX11_takeDraft_34 : decode cX11_takeDraft 34 = .ok (.getfield 47, 3) := by decide +kernel
theorem dX11_takeDraft_37 : decode cX11_takeDraft 37 = .ok (.getfield 329, 3) := by decide +kernel
theorem dX11_takeDraft_40 : decode cX11_takeDraft 40 = .ok (.ifCond .eq 37, 3) := by decide +kernel
theorem dX11_takeDraft_43 : decode cX11_takeDraft 43 = .ok (.aload_n 0, 1) := by decide +kernel
theorem dX11_takeDraft_44 : decode cX11_takeDraft 44 = .ok (.getfield 51, 3) := by decide +kernel
theorem dX11_takeDraft_47 : decode cX11_takeDraft 47 = .ok (.iconst 1, 1) := by decide +kernel
theorem dX11_takeDraft_48 : decode cX11_takeDraft 48 = .ok (.invokestatic 332, 3) := by decide +kernel
theorem dX11_takeDraft_51 : decode cX11_takeDraft 51 = .ok (.aload_n 0, 1) := by decide +kernel
theorem dX11_takeDraft_52 : decode cX11_takeDraft 52 = .ok (.getfield 51, 3) := by decide +kernel
theorem dX11_takeDraft_55 : decode cX11_takeDraft 55 = .ok (.iconst 0, 1) := by decide +kernel
theorem dX11_takeDraft_56 : decode cX11_takeDraft 56 = .ok (.aload_n 0, 1) := by decide +kernel
theorem dX11_takeDraft_57 : decode cX11_takeDraft 57 = .ok (.getfield 43, 3) := by decide +kernel
theorem dX11_takeDraft_60 : decode cX11_takeDraft 60 = .ok (.invokestatic 109, 3) := by decide +kernel
theorem dX11_takeDraft_63 : decode cX11_takeDraft 63 = .ok (.aload_n 0, 1) := by decide +kernel
theorem dX11_takeDraft_64 : decode cX11_takeDraft 64 = .ok (.aload_n 0, 1) := by decide +kernel
theorem dX11_takeDraft_65 : decode cX11_takeDraft 65 = .ok (.getfield 54, 3) := by decide +kernel
theorem dX11_takeDraft_68 : decode cX11_takeDraft 68 = .ok (.iconst 1, 1) := by decide +kernel
theorem dX11_takeDraft_69 : decode cX11_takeDraft 69 = .ok (.iadd, 1) := by decide +kernel
theorem dX11_takeDraft_70 : decode cX11_takeDraft 70 = .ok (.iconst 3, 1) := by decide +kernel
theorem dX11_takeDraft_71 : decode cX11_takeDraft 71 = .ok (.invokestatic 336, 3) := by decide +kernel
theorem dX11_takeDraft_74 : decode cX11_takeDraft 74 = .ok (.putfield 54, 3) := by decide +kernel
theorem dX11_takeDraft_77 : decode cX11_takeDraft 77 = .ok (.aload_n 0, 1) := by decide +kernel
theorem dX11_takeDraft_78 : decode cX11_takeDraft 78 = .ok (.dup, 1) := by decide +kernel
theorem dX11_takeDraft_79 : decode cX11_takeDraft 79 = .ok (.getfield 43, 3) := by decide +kernel
theorem dX11_takeDraft_82 : decode cX11_takeDraft 82 = .ok (.iconst 1, 1) := by decide +kernel
theorem dX11_takeDraft_83 : decode cX11_takeDraft 83 = .ok (.iadd, 1) := by decide +kernel
theorem dX11_takeDraft_84 : decode cX11_takeDraft 84 = .ok (.putfield 43, 3) := by decide +kernel
theorem dX11_takeDraft_87 : decode cX11_takeDraft 87 = .ok (.aload_n 0, 1) := by decide +kernel
theorem dX11_takeDraft_88 : decode cX11_takeDraft 88 = .ok (.new 37, 3) := by decide +kernel
theorem dX11_takeDraft_91 : decode cX11_takeDraft 91 = .ok (.dup, 1) := by decide +kernel
theorem dX11_takeDraft_92 : decode cX11_takeDraft 92 = .ok (.invokespecial 46, 3) := by decide +kernel
theorem dX11_takeDraft_95 : decode cX11_takeDraft 95 = .ok (.putfield 47, 3) := by decide +kernel
theorem dX11_takeDraft_98 : decode cX11_takeDraft 98 = .ok (.return_, 1) := by decide +kernel
theorem dX12_in_0 : decode cX12_in 0 = .ok (.iload_n 0, 1) := by decide +kernel
theorem dX12_in_1 : decode cX12_in 1 = .ok (.iload_n 1, 1) := by decide +kernel
theorem dX12_in_2 : decode cX12_in 2 = .ok (.if_icmp .lt 12, 3) := by decide +kernel
theorem dX12_in_5 : decode cX12_in 5 = .ok (.iload_n 0, 1) := by decide +kernel
theorem dX12_in_6 : decode cX12_in 6 = .ok (.iload_n 2, 1) := by decide +kernel
theorem dX12_in_7 : decode cX12_in 7 = .ok (.if_icmp .gt 7, 3) := by decide +kernel
theorem dX12_in_10 : decode cX12_in 10 = .ok (.iconst 1, 1) := by decide +kernel
theorem dX12_in_11 : decode cX12_in 11 = .ok (.goto 4, 3) := by decide +kernel
theorem dX12_in_14 : decode cX12_in 14 = .ok (.iconst 0, 1) := by decide +kernel
theorem dX12_in_15 : decode cX12_in 15 = .ok (.ireturn, 1) := by decide +kernel
theorem dX12_held_0 : decode cX12_held 0 = .ok (.iconst 0, 1) := by decide +kernel
theorem dX12_held_1 : decode cX12_held 1 = .ok (.sipush 255, 3) := by decide +kernel
theorem dX12_held_4 : decode cX12_held 4 = .ok (.iload_n 0, 1) := by decide +kernel
theorem dX12_held_5 : decode cX12_held 5 = .ok (.invokestatic 3, 3) := by decide +kernel
theorem dX12_held_8 : decode cX12_held 8 = .ok (.invokestatic 9, 3) := by decide +kernel
theorem dX12_held_11 : decode cX12_held 11 = .ok (.ireturn, 1) := by decide +kernel
theorem dX12_init_0 : decode cX12_init 0 = .ok (.aload_n 0, 1) := by decide +kernel
theorem dX12_init_1 : decode cX12_init 1 = .ok (.invokespecial 12, 3) := by decide +kernel
theorem dX12_init_4 : decode cX12_init 4 = .ok (.aload_n 0, 1) := by decide +kernel
theorem dX12_init_5 : decode cX12_init 5 = .ok (.sipush 256, 3) := by decide +kernel
theorem dX12_init_8 : decode cX12_init 8 = .ok (.newarray .int, 2) := by decide +kernel
theorem dX12_init_10 : decode cX12_init 10 = .ok (.putfield 18, 3) := by decide +kernel
theorem dX12_init_13 : decode cX12_init 13 = .ok (.aload_n 0, 1) := by decide +kernel
theorem dX12_init_14 : decode cX12_init 14 = .ok (.bipush 8, 2) := by decide +kernel
theorem dX12_init_16 : decode cX12_init 16 = .ok (.putfield 22, 3) := by decide +kernel
theorem dX12_init_19 : decode cX12_init 19 = .ok (.aload_n 0, 1) := by decide +kernel
theorem dX12_init_20 : decode cX12_init 20 = .ok (.bipush 7, 2) := by decide +kernel
theorem dX12_init_22 : decode cX12_init 22 = .ok (.putfield 26, 3) := by decide +kernel
theorem dX12_init_25 : decode cX12_init 25 = .ok (.aload_n 0, 1) := by decide +kernel
theorem dX12_init_26 : decode cX12_init 26 = .ok (.iconst 1, 1) := by decide +kernel
theorem dX12_init_27 : decode cX12_init 27 = .ok (.putfield 29, 3) := by decide +kernel
theorem dX12_init_30 : decode cX12_init 30 = .ok (.aload_n 0, 1) := by decide +kernel
theorem dX12_init_31 : decode cX12_init 31 = .ok (.iconst 1, 1) := by decide +kernel
theorem dX12_init_32 : decode cX12_init 32 = .ok (.putfield 32, 3) := by decide +kernel
theorem dX12_init_35 : decode cX12_init 35 = .ok (.aload_n 0, 1) := by decide +kernel
theorem dX12_init_36 : decode cX12_init 36 = .ok (.iconst (-1), 1) := by decide +kernel
theorem dX12_init_37 : decode cX12_init 37 = .ok (.putfield 36, 3) := by decide +kernel
theorem dX12_init_40 : decode cX12_init 40 = .ok (.aload_n 0, 1) := by decide +kernel
theorem dX12_init_41 : decode cX12_init 41 = .ok (.bipush 12, 2) := by decide +kernel
theorem dX12_init_43 : decode cX12_init 43 = .ok (.newarray .char, 2) := by decide +kernel
theorem dX12_init_45 : decode cX12_init 45 = .ok (.putfield 39, 3) := by decide +kernel
theorem dX12_init_48 : decode cX12_init 48 = .ok (.aload_n 0, 1) := by decide +kernel
theorem dX12_init_49 : decode cX12_init 49 = .ok (.bipush 12, 2) := by decide +kernel
theorem dX12_init_51 : decode cX12_init 51 = .ok (.newarray .int, 2) := by decide +kernel
theorem dX12_init_53 : decode cX12_init 53 = .ok (.putfield 43, 3) := by decide +kernel
theorem dX12_init_56 : decode cX12_init 56 = .ok (.aload_n 0, 1) := by decide +kernel
theorem dX12_init_57 : decode cX12_init 57 = .ok (.bipush 12, 2) := by decide +kernel
theorem dX12_init_59 : decode cX12_init 59 = .ok (.newarray .int, 2) := by decide +kernel
theorem dX12_init_61 : decode cX12_init 61 = .ok (.putfield 46, 3) := by decide +kernel
theorem dX12_init_64 : decode cX12_init 64 = .ok (.aload_n 0, 1) := by decide +kernel
theorem dX12_init_65 : decode cX12_init 65 = .ok (.bipush 12, 2) := by decide +kernel
theorem dX12_init_67 : decode cX12_init 67 = .ok (.newarray .int, 2) := by decide +kernel
theorem dX12_init_69 : decode cX12_init 69 = .ok (.putfield 49, 3) := by decide +kernel
theorem dX12_init_72 : decode cX12_init 72 = .ok (.aload_n 0, 1) := by decide +kernel
theorem dX12_init_73 : decode cX12_init 73 = .ok (.bipush 12, 2) := by decide +kernel
theorem dX12_init_75 : decode cX12_init 75 = .ok (.newarray .boolean, 2) := by decide +kernel
theorem dX12_init_77 : decode cX12_init 77 = .ok (.putfield 52, 3) := by decide +kernel
theorem dX12_init_80 : decode cX12_init 80 = .ok (.aload_n 0, 1) := by decide +kernel
theorem dX12_init_81 : decode cX12_init 81 = .ok (.bipush 12, 2) := by decide +kernel
theorem dX12_init_83 : decode cX12_init 83 = .ok (.newarray .int, 2) := by decide +kernel
theorem dX12_init_85 : decode cX12_init 85 = .ok (.putfield 56, 3) := by decide +kernel
theorem dX12_init_88 : decode cX12_init 88 = .ok (.aload_n 0, 1) := by decide +kernel
theorem dX12_init_89 : decode cX12_init 89 = .ok (.bipush 12, 2) := by decide +kernel
theorem dX12_init_91 : decode cX12_init 91 = .ok (.newarray .int, 2) := by decide +kernel
theorem dX12_init_93 : decode cX12_init 93 = .ok (.putfield 59, 3) := by decide +kernel
theorem dX12_init_96 : decode cX12_init 96 = .ok (.aload_n 0, 1) := by decide +kernel
theorem dX12_init_97 : decode cX12_init 97 = .ok (.bipush 12, 2) := by decide +kernel
theorem dX12_init_99 : decode cX12_init 99 = .ok (.newarray .int, 2) := by decide +kernel
theorem dX12_init_101 : decode cX12_init 101 = .ok (.putfield 62, 3) := by decide +kernel
theorem dX12_init_104 : decode cX12_init 104 = .ok (.aload_n 0, 1) := by decide +kernel
theorem dX12_init_105 : decode cX12_init 105 = .ok (.bipush 12, 2) := by decide +kernel
theorem dX12_init_107 : decode cX12_init 107 = .ok (.newarray .long, 2) := by decide +kernel
theorem dX12_init_109 : decode cX12_init 109 = .ok (.putfield 65, 3) := by decide +kernel
theorem dX12_init_112 : decode cX12_init 112 = .ok (.aload_n 0, 1) := by decide +kernel
theorem dX12_init_113 : decode cX12_init 113 = .ok (.bipush 12, 2) := by decide +kernel
theorem dX12_init_115 : decode cX12_init 115 = .ok (.anewarray 69, 3) := by decide +kernel
theorem dX12_init_118 : decode cX12_init 118 = .ok (.putfield 70, 3) := by decide +kernel
theorem dX12_init_121 : decode cX12_init 121 = .ok (.aload_n 0, 1) := by decide +kernel
theorem dX12_init_122 : decode cX12_init 122 = .ok (.bipush 12, 2) := by decide +kernel
theorem dX12_init_124 : decode cX12_init 124 = .ok (.anewarray 69, 3) := by decide +kernel
theorem dX12_init_127 : decode cX12_init 127 = .ok (.putfield 74, 3) := by decide +kernel
theorem dX12_init_130 : decode cX12_init 130 = .ok (.aload_n 0, 1) := by decide +kernel
theorem dX12_init_131 : decode cX12_init 131 = .ok (.bipush 24, 2) := by decide +kernel
theorem dX12_init_133 : decode cX12_init 133 = .ok (.anewarray 69, 3) := by decide +kernel
theorem dX12_init_136 : decode cX12_init 136 = .ok (.putfield 77, 3) := by decide +kernel
theorem dX12_init_139 : decode cX12_init 139 = .ok (.aload_n 0, 1) := by decide +kernel
theorem dX12_init_140 : decode cX12_init 140 = .ok (.bipush 12, 2) := by decide +kernel
theorem dX12_init_142 : decode cX12_init 142 = .ok (.anewarray 69, 3) := by decide +kernel
theorem dX12_init_145 : decode cX12_init 145 = .ok (.putfield 80, 3) := by decide +kernel
theorem dX12_init_148 : decode cX12_init 148 = .ok (.aload_n 0, 1) := by decide +kernel
theorem dX12_init_149 : decode cX12_init 149 = .ok (.bipush 12, 2) := by decide +kernel
theorem dX12_init_151 : decode cX12_init 151 = .ok (.anewarray 69, 3) := by decide +kernel
theorem dX12_init_154 : decode cX12_init 154 = .ok (.putfield 83, 3) := by decide +kernel
theorem dX12_init_157 : decode cX12_init 157 = .ok (.aload_n 0, 1) := by decide +kernel
theorem dX12_init_158 : decode cX12_init 158 = .ok (.bipush 12, 2) := by decide +kernel
theorem dX12_init_160 : decode cX12_init 160 = .ok (.anewarray 69, 3) := by decide +kernel
theorem dX12_init_163 : decode cX12_init 163 = .ok (.putfield 86, 3) := by decide +kernel
theorem dX12_init_166 : decode cX12_init 166 = .ok (.aload_n 0, 1) := by decide +kernel
theorem dX12_init_167 : decode cX12_init 167 = .ok (.iconst 3, 1) := by decide +kernel
theorem dX12_init_168 : decode cX12_init 168 = .ok (.newarray .int, 2) := by decide +kernel
theorem dX12_init_170 : decode cX12_init 170 = .ok (.putfield 89, 3) := by decide +kernel
theorem dX12_init_173 : decode cX12_init 173 = .ok (.aload_n 0, 1) := by decide +kernel
theorem dX12_init_174 : decode cX12_init 174 = .ok (.sipush 8192, 3) := by decide +kernel
theorem dX12_init_177 : decode cX12_init 177 = .ok (.newarray .int, 2) := by decide +kernel
theorem dX12_init_179 : decode cX12_init 179 = .ok (.putfield 92, 3) := by decide +kernel
theorem dX12_init_182 : decode cX12_init 182 = .ok (.aload_n 0, 1) := by decide +kernel
theorem dX12_init_183 : decode cX12_init 183 = .ok (.bipush 80, 2) := by decide +kernel
theorem dX12_init_185 : decode cX12_init 185 = .ok (.newarray .int, 2) := by decide +kernel
theorem dX12_init_187 : decode cX12_init 187 = .ok (.putfield 95, 3) := by decide +kernel
theorem dX12_init_190 : decode cX12_init 190 = .ok (.aload_n 0, 1) := by decide +kernel
theorem dX12_init_191 : decode cX12_init 191 = .ok (.iconst 4, 1) := by decide +kernel
theorem dX12_init_192 : decode cX12_init 192 = .ok (.newarray .int, 2) := by decide +kernel
theorem dX12_init_194 : decode cX12_init 194 = .ok (.putfield 98, 3) := by decide +kernel
theorem dX12_init_197 : decode cX12_init 197 = .ok (.aload_n 0, 1) := by decide +kernel
theorem dX12_init_198 : decode cX12_init 198 = .ok (.iconst (-1), 1) := by decide +kernel
theorem dX12_init_199 : decode cX12_init 199 = .ok (.putfield 101, 3) := by decide +kernel
theorem dX12_init_202 : decode cX12_init 202 = .ok (.aload_n 0, 1) := by decide +kernel
theorem dX12_init_203 : decode cX12_init 203 = .ok (.iconst 3, 1) := by decide +kernel
theorem dX12_init_204 : decode cX12_init 204 = .ok (.anewarray 69, 3) := by decide +kernel
theorem dX12_init_207 : decode cX12_init 207 = .ok (.putfield 104, 3) := by decide +kernel
theorem dX12_init_210 : decode cX12_init 210 = .ok (.aload_n 0, 1) := by decide +kernel
theorem dX12_init_211 : decode cX12_init 211 = .ok (.iconst 3, 1) := by decide +kernel
theorem dX12_init_212 : decode cX12_init 212 = .ok (.newarray .boolean, 2) := by decide +kernel
theorem dX12_init_214 : decode cX12_init 214 = .ok (.putfield 107, 3) := by decide +kernel
theorem dX12_init_217 : decode cX12_init 217 = .ok (.return_, 1) := by decide +kernel
theorem dX12_thrown_0 : decode cX12_thrown 0 = .ok (.aload_n 0, 1) := by decide +kernel
theorem dX12_thrown_1 : decode cX12_thrown 1 = .ok (.getfield 110, 3) := by decide +kernel
theorem dX12_thrown_4 : decode cX12_thrown 4 = .ok (.ireturn, 1) := by decide +kernel
theorem dX12_raises_0 : decode cX12_raises 0 = .ok (.aload_n 0, 1) := by decide +kernel
theorem dX12_raises_1 : decode cX12_raises 1 = .ok (.iload_n 1, 1) := by decide +kernel
theorem dX12_raises_2 : decode cX12_raises 2 = .ok (.putfield 110, 3) := by decide +kernel
theorem dX12_raises_5 : decode cX12_raises 5 = .ok (.iconst 0, 1) := by decide +kernel
theorem dX12_raises_6 : decode cX12_raises 6 = .ok (.ireturn, 1) := by decide +kernel
theorem dX12_fill_0 : decode cX12_fill 0 = .ok (.iload_n 1, 1) := by decide +kernel
theorem dX12_fill_1 : decode cX12_fill 1 = .ok (.iconst 0, 1) := by decide +kernel
theorem dX12_fill_2 : decode cX12_fill 2 = .ok (.bipush 15, 2) := by decide +kernel
theorem dX12_fill_4 : decode cX12_fill 4 = .ok (.invokestatic 113, 3) := by decide +kernel
theorem dX12_fill_7 : decode cX12_fill 7 = .ok (.ifCond .eq 54, 3) := by decide +kernel
theorem dX12_fill_10 : decode cX12_fill 10 = .ok (.iload_n 2, 1) := by decide +kernel
theorem dX12_fill_11 : decode cX12_fill 11 = .ok (.iconst 0, 1) := by decide +kernel
theorem dX12_fill_12 : decode cX12_fill 12 = .ok (.bipush 15, 2) := by decide +kernel
theorem dX12_fill_14 : decode cX12_fill 14 = .ok (.invokestatic 113, 3) := by decide +kernel
theorem dX12_fill_17 : decode cX12_fill 17 = .ok (.ifCond .eq 44, 3) := by decide +kernel
theorem dX12_fill_20 : decode cX12_fill 20 = .ok (.iload_n 3, 1) := by decide +kernel
theorem dX12_fill_21 : decode cX12_fill 21 = .ok (.iconst 1, 1) := by decide +kernel
theorem dX12_fill_22 : decode cX12_fill 22 = .ok (.bipush 16, 2) := by decide +kernel
theorem dX12_fill_24 : decode cX12_fill 24 = .ok (.iload_n 1, 1) := by decide +kernel
theorem dX12_fill_25 : decode cX12_fill 25 = .ok (.isub, 1) := by decide +kernel
theorem dX12_fill_26 : decode cX12_fill 26 = .ok (.invokestatic 113, 3) := by decide +kernel
theorem dX12_fill_29 : decode cX12_fill 29 = .ok (.ifCond .eq 32, 3) := by decide +kernel
theorem dX12_fill_32 : decode cX12_fill 32 = .ok (.iload 4, 2) := by decide +kernel
theorem dX12_fill_34 : decode cX12_fill 34 = .ok (.iconst 1, 1) := by decide +kernel
theorem dX12_fill_35 : decode cX12_fill 35 = .ok (.bipush 16, 2) := by decide +kernel
theorem dX12_fill_37 : decode cX12_fill 37 = .ok (.iload_n 2, 1) := by decide +kernel
theorem dX12_fill_38 : decode cX12_fill 38 = .ok (.isub, 1) := by decide +kernel
theorem dX12_fill_39 : decode cX12_fill 39 = .ok (.invokestatic 113, 3) := by decide +kernel
theorem dX12_fill_42 : decode cX12_fill 42 = .ok (.ifCond .eq 19, 3) := by decide +kernel
theorem dX12_fill_45 : decode cX12_fill 45 = .ok (.iload 5, 2) := by decide +kernel
theorem dX12_fill_47 : decode cX12_fill 47 = .ok (.iconst 0, 1) := by decide +kernel
theorem dX12_fill_48 : decode cX12_fill 48 = .ok (.sipush 255, 3) := by decide +kernel
theorem dX12_fill_51 : decode cX12_fill 51 = .ok (.invokestatic 113, 3) := by decide +kernel
theorem dX12_fill_54 : decode cX12_fill 54 = .ok (.ifCond .eq 7, 3) := by decide +kernel
theorem dX12_fill_57 : decode cX12_fill 57 = .ok (.iconst 1, 1) := by decide +kernel
theorem dX12_fill_58 : decode cX12_fill 58 = .ok (.goto 4, 3) := by decide +kernel
theorem dX12_fill_61 : decode cX12_fill 61 = .ok (.iconst 0, 1) := by decide +kernel
theorem dX12_fill_62 : decode cX12_fill 62 = .ok (.istore 6, 2) := by decide +kernel
theorem dX12_fill_64 : decode cX12_fill 64 = .ok (.aload_n 0, 1) := by decide +kernel
theorem dX12_fill_65 : decode cX12_fill 65 = .ok (.iload 6, 2) := by decide +kernel
theorem dX12_fill_67 : decode cX12_fill 67 = .ok (.ifCond .eq 7, 3) := by decide +kernel
theorem dX12_fill_70 : decode cX12_fill 70 = .ok (.iconst 0, 1) := by decide +kernel
theorem dX12_fill_71 : decode cX12_fill 71 = .ok (.goto 4, 3) := by decide +kernel
theorem dX12_fill_74 : decode cX12_fill 74 = .ok (.iconst 1, 1) := by decide +kernel
theorem dX12_fill_75 : decode cX12_fill 75 = .ok (.putfield 110, 3) := by decide +kernel
theorem dX12_fill_78 : decode cX12_fill 78 = .ok (.iconst 0, 1) := by decide +kernel
theorem dX12_fill_79 : decode cX12_fill 79 = .ok (.istore 7, 2) := by decide +kernel
theorem dX12_fill_81 : decode cX12_fill 81 = .ok (.iconst 0, 1) := by decide +kernel
theorem dX12_fill_82 : decode cX12_fill 82 = .ok (.istore 8, 2) := by decide +kernel
theorem dX12_fill_84 : decode cX12_fill 84 = .ok (.iload 8, 2) := by decide +kernel
theorem dX12_fill_86 : decode cX12_fill 86 = .ok (.sipush 256, 3) := by decide +kernel
theorem dX12_fill_89 : decode cX12_fill 89 = .ok (.if_icmp .ge 107, 3) := by decide +kernel
theorem dX12_fill_92 : decode cX12_fill 92 = .ok (.iload 6, 2) := by decide +kernel
theorem dX12_fill_94 : decode cX12_fill 94 = .ok (.ifCond .eq 102, 3) := by decide +kernel
theorem dX12_fill_97 : decode cX12_fill 97 = .ok (.iload 8, 2) := by decide +kernel
theorem dX12_fill_99 : decode cX12_fill 99 = .ok (.bipush 16, 2) := by decide +kernel
theorem dX12_fill_101 : decode cX12_fill 101 = .ok (.irem, 1) := by decide +kernel
theorem dX12_fill_102 : decode cX12_fill 102 = .ok (.iload_n 1, 1) := by decide +kernel
theorem dX12_fill_103 : decode cX12_fill 103 = .ok (.iload_n 1, 1) := by decide +kernel
theorem dX12_fill_104 : decode cX12_fill 104 = .ok (.iload_n 3, 1) := by decide +kernel
theorem dX12_fill_105 : decode cX12_fill 105 = .ok (.iadd, 1) := by decide +kernel
theorem dX12_fill_106 : decode cX12_fill 106 = .ok (.iconst 1, 1) := by decide +kernel
theorem dX12_fill_107 : decode cX12_fill 107 = .ok (.isub, 1) := by decide +kernel
theorem dX12_fill_108 : decode cX12_fill 108 = .ok (.invokestatic 113, 3) := by decide +kernel
theorem dX12_fill_111 : decode cX12_fill 111 = .ok (.ifCond .eq 25, 3) := by decide +kernel
theorem dX12_fill_114 : decode cX12_fill 114 = .ok (.iload 8, 2) := by decide +kernel
theorem dX12_fill_116 : decode cX12_fill 116 = .ok (.bipush 16, 2) := by decide +kernel
theorem dX12_fill_118 : decode cX12_fill 118 = .ok (.idiv, 1) := by decide +kernel
theorem dX12_fill_119 : decode cX12_fill 119 = .ok (.iload_n 2, 1) := by decide +kernel
theorem dX12_fill_120 : decode cX12_fill 120 = .ok (.iload_n 2, 1) := by decide +kernel
theorem dX12_fill_121 : decode cX12_fill 121 = .ok (.iload 4, 2) := by decide +kernel
theorem dX12_fill_123 : decode cX12_fill 123 = .ok (.iadd, 1) := by decide +kernel
theorem dX12_fill_124 : decode cX12_fill 124 = .ok (.iconst 1, 1) := by decide +kernel
theorem dX12_fill_125 : decode cX12_fill 125 = .ok (.isub, 1) := by decide +kernel
theorem dX12_fill_126 : decode cX12_fill 126 = .ok (.invokestatic 113, 3) := by decide +kernel
theorem dX12_fill_129 : decode cX12_fill 129 = .ok (.ifCond .eq 7, 3) := by decide +kernel
theorem dX12_fill_132 : decode cX12_fill 132 = .ok (.iconst 1, 1) := by decide +kernel
theorem dX12_fill_133 : decode cX12_fill 133 = .ok (.goto 4, 3) := by decide +kernel
theorem dX12_fill_136 : decode cX12_fill 136 = .ok (.iconst 0, 1) := by decide +kernel
theorem dX12_fill_137 : decode cX12_fill 137 = .ok (.istore 9, 2) := by decide +kernel
theorem dX12_fill_139 : decode cX12_fill 139 = .ok (.iload 7, 2) := by decide +kernel
theorem dX12_fill_141 : decode cX12_fill 141 = .ok (.iload 9, 2) := by decide +kernel
theorem dX12_fill_143 : decode cX12_fill 143 = .ok (.ifCond .eq 19, 3) := by decide +kernel
theorem dX12_fill_146 : decode cX12_fill 146 = .ok (.aload_n 0, 1) := by decide +kernel
theorem dX12_fill_147 : decode cX12_fill 147 = .ok (.getfield 18, 3) := by decide +kernel
theorem dX12_fill_150 : decode cX12_fill 150 = .ok (.iload 8, 2) := by decide +kernel
theorem dX12_fill_152 : decode cX12_fill 152 = .ok (.iaload, 1) := by decide +kernel
theorem dX12_fill_153 : decode cX12_fill 153 = .ok (.iload 5, 2) := by decide +kernel
theorem dX12_fill_155 : decode cX12_fill 155 = .ok (.if_icmp .eq 7, 3) := by decide +kernel
theorem dX12_fill_158 : decode cX12_fill 158 = .ok (.iconst 1, 1) := by decide +kernel
theorem dX12_fill_159 : decode cX12_fill 159 = .ok (.goto 4, 3) := by decide +kernel
theorem dX12_fill_162 : decode cX12_fill 162 = .ok (.iconst 0, 1) := by decide +kernel
theorem dX12_fill_163 : decode cX12_fill 163 = .ok (.iadd, 1) := by decide +kernel
theorem dX12_fill_164 : decode cX12_fill 164 = .ok (.istore 7, 2) := by decide +kernel
theorem dX12_fill_166 : decode cX12_fill 166 = .ok (.aload_n 0, 1) := by decide +kernel
theorem dX12_fill_167 : decode cX12_fill 167 = .ok (.getfield 18, 3) := by decide +kernel
theorem dX12_fill_170 : decode cX12_fill 170 = .ok (.iload 8, 2) := by decide +kernel
theorem dX12_fill_172 : decode cX12_fill 172 = .ok (.iload 9, 2) := by decide +kernel
theorem dX12_fill_174 : decode cX12_fill 174 = .ok (.ifCond .eq 8, 3) := by decide +kernel
theorem dX12_fill_177 : decode cX12_fill 177 = .ok (.iload 5, 2) := by decide +kernel
theorem dX12_fill_179 : decode cX12_fill 179 = .ok (.goto 10, 3) := by decide +kernel
theorem dX12_fill_182 : decode cX12_fill 182 = .ok (.aload_n 0, 1) := by decide +kernel
theorem dX12_fill_183 : decode cX12_fill 183 = .ok (.getfield 18, 3) := by decide +kernel
theorem dX12_fill_186 : decode cX12_fill 186 = .ok (.iload 8, 2) := by decide +kernel
theorem dX12_fill_188 : decode cX12_fill 188 = .ok (.iaload, 1) := by decide +kernel
theorem dX12_fill_189 : decode cX12_fill 189 = .ok (.iastore, 1) := by decide +kernel
theorem dX12_fill_190 : decode cX12_fill 190 = .ok (.iinc 8 1, 3) := by decide +kernel
theorem dX12_fill_193 : decode cX12_fill 193 = .ok (.goto (-109), 3) := by decide +kernel
theorem dX12_fill_196 : decode cX12_fill 196 = .ok (.iload 7, 2) := by decide +kernel
theorem dX12_fill_198 : decode cX12_fill 198 = .ok (.ireturn, 1) := by decide +kernel
theorem dX12_slope_0 : decode cX12_slope 0 = .ok (.iload_n 1, 1) := by decide +kernel
theorem dX12_slope_1 : decode cX12_slope 1 = .ok (.iconst 0, 1) := by decide +kernel
theorem dX12_slope_2 : decode cX12_slope 2 = .ok (.sipush 255, 3) := by decide +kernel
theorem dX12_slope_5 : decode cX12_slope 5 = .ok (.invokestatic 113, 3) := by decide +kernel
theorem dX12_slope_8 : decode cX12_slope 8 = .ok (.ifCond .eq 29, 3) := by decide +kernel
theorem dX12_slope_11 : decode cX12_slope 11 = .ok (.iload_n 2, 1) := by decide +kernel
theorem dX12_slope_12 : decode cX12_slope 12 = .ok (.bipush (-99), 2) := by decide +kernel
theorem dX12_slope_14 : decode cX12_slope 14 = .ok (.bipush 99, 2) := by decide +kernel
theorem dX12_slope_16 : decode cX12_slope 16 = .ok (.invokestatic 113, 3) := by decide +kernel
theorem dX12_slope_19 : decode cX12_slope 19 = .ok (.ifCond .eq 18, 3) := by decide +kernel
theorem dX12_slope_22 : decode cX12_slope 22 = .ok (.iload_n 3, 1) := by decide +kernel
theorem dX12_slope_23 : decode cX12_slope 23 = .ok (.bipush (-99), 2) := by decide +kernel
theorem dX12_slope_25 : decode cX12_slope 25 = .ok (.bipush 99, 2) := by decide +kernel
theorem dX12_slope_27 : decode cX12_slope 27 = .ok (.invokestatic 113, 3) := by decide +kernel
theorem dX12_slope_30 : decode cX12_slope 30 = .ok (.ifCond .eq 7, 3) := by decide +kernel
theorem dX12_slope_33 : decode cX12_slope 33 = .ok (.iconst 1, 1) := by decide +kernel
theorem dX12_slope_34 : decode cX12_slope 34 = .ok (.goto 4, 3) := by decide +kernel
theorem dX12_slope_37 : decode cX12_slope 37 = .ok (.iconst 0, 1) := by decide +kernel
theorem dX12_slope_38 : decode cX12_slope 38 = .ok (.istore 4, 2) := by decide +kernel
theorem dX12_slope_40 : decode cX12_slope 40 = .ok (.aload_n 0, 1) := by decide +kernel
theorem dX12_slope_41 : decode cX12_slope 41 = .ok (.iload 4, 2) := by decide +kernel
theorem dX12_slope_43 : decode cX12_slope 43 = .ok (.ifCond .eq 7, 3) := by decide +kernel
theorem dX12_slope_46 : decode cX12_slope 46 = .ok (.iconst 0, 1) := by decide +kernel
theorem dX12_slope_47 : decode cX12_slope 47 = .ok (.goto 4, 3) := by decide +kernel
theorem dX12_slope_50 : decode cX12_slope 50 = .ok (.iconst 1, 1) := by decide +kernel
theorem dX12_slope_51 : decode cX12_slope 51 = .ok (.putfield 110, 3) := by decide +kernel
theorem dX12_slope_54 : decode cX12_slope 54 = .ok (.iconst 0, 1) := by decide +kernel
theorem dX12_slope_55 : decode cX12_slope 55 = .ok (.istore 5, 2) := by decide +kernel
theorem dX12_slope_57 : decode cX12_slope 57 = .ok (.iload 5, 2) := by decide +kernel
theorem dX12_slope_59 : decode cX12_slope 59 = .ok (.sipush 256, 3) := by decide +kernel
theorem dX12_slope_62 : decode cX12_slope 62 = .ok (.if_icmp .ge 42, 3) := by decide +kernel
theorem dX12_slope_65 : decode cX12_slope 65 = .ok (.iload 4, 2) := by decide +kernel
theorem dX12_slope_67 : decode cX12_slope 67 = .ok (.ifCond .eq 37, 3) := by decide +kernel
theorem dX12_slope_70 : decode cX12_slope 70 = .ok (.aload_n 0, 1) := by decide +kernel
theorem dX12_slope_71 : decode cX12_slope 71 = .ok (.getfield 18, 3) := by decide +kernel
theorem dX12_slope_74 : decode cX12_slope 74 = .ok (.iload 5, 2) := by decide +kernel
theorem dX12_slope_76 : decode cX12_slope 76 = .ok (.iload_n 1, 1) := by decide +kernel
theorem dX12_slope_77 : decode cX12_slope 77 = .ok (.iload 5, 2) := by decide +kernel
theorem dX12_slope_79 : decode cX12_slope 79 = .ok (.bipush 16, 2) := by decide +kernel
theorem dX12_slope_81 : decode cX12_slope 81 = .ok (.irem, 1) := by decide +kernel
theorem dX12_slope_82 : decode cX12_slope 82 = .ok (.iload_n 2, 1) := by decide +kernel
theorem dX12_slope_83 : decode cX12_slope 83 = .ok (.imul, 1) := by decide +kernel
theorem dX12_slope_84 : decode cX12_slope 84 = .ok (.iadd, 1) := by decide +kernel
theorem dX12_slope_85 : decode cX12_slope 85 = .ok (.iload 5, 2) := by decide +kernel
theorem dX12_slope_87 : decode cX12_slope 87 = .ok (.bipush 16, 2) := by decide +kernel
theorem dX12_slope_89 : decode cX12_slope 89 = .ok (.idiv, 1) := by decide +kernel
theorem dX12_slope_90 : decode cX12_slope 90 = .ok (.iload_n 3, 1) := by decide +kernel
theorem dX12_slope_91 : decode cX12_slope 91 = .ok (.imul, 1) := by decide +kernel
theorem dX12_slope_92 : decode cX12_slope 92 = .ok (.iadd, 1) := by decide +kernel
theorem dX12_slope_93 : decode cX12_slope 93 = .ok (.sipush 255, 3) := by decide +kernel
theorem dX12_slope_96 : decode cX12_slope 96 = .ok (.iand, 1) := by decide +kernel
theorem dX12_slope_97 : decode cX12_slope 97 = .ok (.iastore, 1) := by decide +kernel
theorem dX12_slope_98 : decode cX12_slope 98 = .ok (.iinc 5 1, 3) := by decide +kernel
theorem dX12_slope_101 : decode cX12_slope 101 = .ok (.goto (-44), 3) := by decide +kernel
theorem dX12_slope_104 : decode cX12_slope 104 = .ok (.iload 4, 2) := by decide +kernel
theorem dX12_slope_106 : decode cX12_slope 106 = .ok (.ifCond .eq 14, 3) := by decide +kernel
theorem dX12_slope_109 : decode cX12_slope 109 = .ok (.aload_n 0, 1) := by decide +kernel
theorem dX12_slope_110 : decode cX12_slope 110 = .ok (.getfield 18, 3) := by decide +kernel
theorem dX12_slope_113 : decode cX12_slope 113 = .ok (.sipush 255, 3) := by decide +kernel
theorem dX12_slope_116 : decode cX12_slope 116 = .ok (.iaload, 1) := by decide +kernel
theorem dX12_slope_117 : decode cX12_slope 117 = .ok (.goto 4, 3) := by decide +kernel
theorem dX12_slope_120 : decode cX12_slope 120 = .ok (.iconst 0, 1) := by decide +kernel
theorem dX12_slope_121 : decode cX12_slope 121 = .ok (.ireturn, 1) := by decide +kernel
theorem dX12_grain_0 : decode cX12_grain 0 = .ok (.aload_n 0, 1) := by decide +kernel
theorem dX12_grain_1 : decode cX12_grain 1 = .ok (.iload_n 2, 1) := by decide +kernel
theorem dX12_grain_2 : decode cX12_grain 2 = .ok (.iconst 1, 1) := by decide +kernel
theorem dX12_grain_3 : decode cX12_grain 3 = .ok (.bipush 99, 2) := by decide +kernel
theorem dX12_grain_5 : decode cX12_grain 5 = .ok (.invokestatic 113, 3) := by decide +kernel
theorem dX12_grain_8 : decode cX12_grain 8 = .ok (.ifCond .eq 7, 3) := by decide +kernel
theorem dX12_grain_11 : decode cX12_grain 11 = .ok (.iconst 0, 1) := by decide +kernel
theorem dX12_grain_12 : decode cX12_grain 12 = .ok (.goto 4, 3) := by decide +kernel
theorem dX12_grain_15 : decode cX12_grain 15 = .ok (.iconst 1, 1) := by decide +kernel
theorem dX12_grain_16 : decode cX12_grain 16 = .ok (.putfield 110, 3) := by decide +kernel
theorem dX12_grain_19 : decode cX12_grain 19 = .ok (.iload_n 1, 1) := by decide +kernel
theorem dX12_grain_20 : decode cX12_grain 20 = .ok (.istore_n 3, 1) := by decide +kernel
theorem dX12_grain_21 : decode cX12_grain 21 = .ok (.iconst 0, 1) := by decide +kernel
theorem dX12_grain_22 : decode cX12_grain 22 = .ok (.istore 4, 2) := by decide +kernel
theorem dX12_grain_24 : decode cX12_grain 24 = .ok (.iload 4, 2) := by decide +kernel
theorem dX12_grain_26 : decode cX12_grain 26 = .ok (.sipush 256, 3) := by decide +kernel
theorem dX12_grain_29 : decode cX12_grain 29 = .ok (.if_icmp .ge 55, 3) := by decide +kernel
theorem dX12_grain_32 : decode cX12_grain 32 = .ok (.aload_n 0, 1) := by decide +kernel
theorem dX12_grain_33 : decode cX12_grain 33 = .ok (.getfield 110, 3) := by decide +kernel
theorem dX12_grain_36 : decode cX12_grain 36 = .ok (.ifCond .ne 48, 3) := by decide +kernel
theorem dX12_grain_39 : decode cX12_grain 39 = .ok (.ldc 117, 2) := by decide +kernel
theorem dX12_grain_41 : decode cX12_grain 41 = .ok (.iload_n 3, 1) := by decide +kernel
theorem dX12_grain_42 : decode cX12_grain 42 = .ok (.imul, 1) := by decide +kernel
theorem dX12_grain_43 : decode cX12_grain 43 = .ok (.sipush 12345, 3) := by decide +kernel
theorem dX12_grain_46 : decode cX12_grain 46 = .ok (.iadd, 1) := by decide +kernel
theorem dX12_grain_47 : decode cX12_grain 47 = .ok (.istore_n 3, 1) := by decide +kernel
theorem dX12_grain_48 : decode cX12_grain 48 = .ok (.aload_n 0, 1) := by decide +kernel
theorem dX12_grain_49 : decode cX12_grain 49 = .ok (.getfield 18, 3) := by decide +kernel
theorem dX12_grain_52 : decode cX12_grain 52 = .ok (.iload 4, 2) := by decide +kernel
theorem dX12_grain_54 : decode cX12_grain 54 = .ok (.aload_n 0, 1) := by decide +kernel
theorem dX12_grain_55 : decode cX12_grain 55 = .ok (.getfield 18, 3) := by decide +kernel
theorem dX12_grain_58 : decode cX12_grain 58 = .ok (.iload 4, 2) := by decide +kernel
theorem dX12_grain_60 : decode cX12_grain 60 = .ok (.iaload, 1) := by decide +kernel
theorem dX12_grain_61 : decode cX12_grain 61 = .ok (.iload_n 3, 1) := by decide +kernel
theorem dX12_grain_62 : decode cX12_grain 62 = .ok (.bipush 16, 2) := by decide +kernel
theorem dX12_grain_64 : decode cX12_grain 64 = .ok (.iushr, 1) := by decide +kernel
theorem dX12_grain_65 : decode cX12_grain 65 = .ok (.iconst 2, 1) := by decide +kernel
theorem dX12_grain_66 : decode cX12_grain 66 = .ok (.iload_n 2, 1) := by decide +kernel
theorem dX12_grain_67 : decode cX12_grain 67 = .ok (.imul, 1) := by decide +kernel
theorem dX12_grain_68 : decode cX12_grain 68 = .ok (.iconst 1, 1) := by decide +kernel
theorem dX12_grain_69 : decode cX12_grain 69 = .ok (.iadd, 1) := by decide +kernel
theorem dX12_grain_70 : decode cX12_grain 70 = .ok (.irem, 1) := by decide +kernel
theorem dX12_grain_71 : decode cX12_grain 71 = .ok (.iadd, 1) := by decide +kernel
theorem dX12_grain_72 : decode cX12_grain 72 = .ok (.iload_n 2, 1) := by decide +kernel
theorem dX12_grain_73 : decode cX12_grain 73 = .ok (.isub, 1) := by decide +kernel
theorem dX12_grain_74 : decode cX12_grain 74 = .ok (.invokestatic 118, 3) := by decide +kernel
theorem dX12_grain_77 : decode cX12_grain 77 = .ok (.iastore, 1) := by decide +kernel
theorem dX12_grain_78 : decode cX12_grain 78 = .ok (.iinc 4 1, 3) := by decide +kernel
theorem dX12_grain_81 : decode cX12_grain 81 = .ok (.goto (-57), 3) := by decide +kernel
theorem dX12_grain_84 : decode cX12_grain 84 = .ok (.aload_n 0, 1) := by decide +kernel
theorem dX12_grain_85 : decode cX12_grain 85 = .ok (.getfield 110, 3) := by decide +kernel
theorem dX12_grain_88 : decode cX12_grain 88 = .ok (.ifCond .ne 7, 3) := by decide +kernel
theorem dX12_grain_91 : decode cX12_grain 91 = .ok (.iload_n 3, 1) := by decide +kernel
theorem dX12_grain_92 : decode cX12_grain 92 = .ok (.goto 4, 3) := by decide +kernel
theorem dX12_grain_95 : decode cX12_grain 95 = .ok (.iconst 0, 1) := by decide +kernel
theorem dX12_grain_96 : decode cX12_grain 96 = .ok (.ireturn, 1) := by decide +kernel
theorem dX12_move_0 : decode cX12_move 0 = .ok (.aload_n 0, 1) := by decide +kernel
theorem dX12_move_1 : decode cX12_move 1 = .ok (.iload_n 1, 1) := by decide +kernel
theorem dX12_move_2 : decode cX12_move 2 = .ok (.bipush (-15), 2) := by decide +kernel
theorem dX12_move_4 : decode cX12_move 4 = .ok (.bipush 15, 2) := by decide +kernel
theorem dX12_move_6 : decode cX12_move 6 = .ok (.invokestatic 113, 3) := by decide +kernel
theorem dX12_move_9 : decode cX12_move 9 = .ok (.ifCond .eq 18, 3) := by decide +kernel
theorem dX12_move_12 : decode cX12_move 12 = .ok (.iload_n 2, 1) := by decide +kernel
theorem dX12_move_13 : decode cX12_move 13 = .ok (.bipush (-15), 2) := by decide +kernel
theorem dX12_move_15 : decode cX12_move 15 = .ok (.bipush 15, 2) := by decide +kernel
theorem dX12_move_17 : decode cX12_move 17 = .ok (.invokestatic 113, 3) := by decide +kernel
theorem dX12_move_20 : decode cX12_move 20 = .ok (.ifCond .eq 7, 3) := by decide +kernel
theorem dX12_move_23 : decode cX12_move 23 = .ok (.iconst 0, 1) := by decide +kernel
theorem dX12_move_24 : decode cX12_move 24 = .ok (.goto 4, 3) := by decide +kernel
theorem dX12_move_27 : decode cX12_move 27 = .ok (.iconst 1, 1) := by decide +kernel
theorem dX12_move_28 : decode cX12_move 28 = .ok (.putfield 110, 3) := by decide +kernel
theorem dX12_move_31 : decode cX12_move 31 = .ok (.aload_n 0, 1) := by decide +kernel
theorem dX12_move_32 : decode cX12_move 32 = .ok (.getfield 110, 3) := by decide +kernel
theorem dX12_move_35 : decode cX12_move 35 = .ok (.ifCond .le 5, 3) := by decide +kernel
theorem dX12_move_38 : decode cX12_move 38 = .ok (.iconst 0, 1) := by decide +kernel
theorem dX12_move_39 : decode cX12_move 39 = .ok (.ireturn, 1) := by decide +kernel
theorem dX12_move_40 : decode cX12_move 40 = .ok (.aload_n 0, 1) := by decide +kernel
theorem dX12_move_41 : decode cX12_move 41 = .ok (.getfield 18, 3) := by decide +kernel
theorem dX12_move_44 : decode cX12_move 44 = .ok (.invokevirtual 122, 3) := by decide +kernel
theorem dX12_move_47 : decode cX12_move 47 = .ok (.checkcast 69, 3) := by decide +kernel
theorem dX12_move_50 : decode cX12_move 50 = .ok (.astore_n 3, 1) := by decide +kernel
theorem dX12_move_51 : decode cX12_move 51 = .ok (.iconst 0, 1) := by decide +kernel
theorem dX12_move_52 : decode cX12_move 52 = .ok (.istore 4, 2) := by decide +kernel
theorem dX12_move_54 : decode cX12_move 54 = .ok (.iload 4, 2) := by decide +kernel
theorem dX12_move_56 : decode cX12_move 56 = .ok (.sipush 256, 3) := by decide +kernel
theorem dX12_move_59 : decode cX12_move 59 = .ok (.if_icmp .ge 56, 3) := by decide +kernel
theorem dX12_move_62 : decode cX12_move 62 = .ok (.iload 4, 2) := by decide +kernel
theorem dX12_move_64 : decode cX12_move 64 = .ok (.bipush 16, 2) := by decide +kernel
theorem dX12_move_66 : decode cX12_move 66 = .ok (.irem, 1) := by decide +kernel
theorem dX12_move_67 : decode cX12_move 67 = .ok (.iload_n 1, 1) := by decide +kernel
theorem dX12_move_68 : decode cX12_move 68 = .ok (.iadd, 1) := by decide +kernel
theorem dX12_move_69 : decode cX12_move 69 = .ok (.bipush 16, 2) := by decide +kernel
theorem dX12_move_71 : decode cX12_move 71 = .ok (.iadd, 1) := by decide +kernel
theorem dX12_move_72 : decode cX12_move 72 = .ok (.bipush 15, 2) := by decide +kernel
theorem dX12_move_74 : decode cX12_move 74 = .ok (.iand, 1) := by decide +kernel
theorem dX12_move_75 : decode cX12_move 75 = .ok (.istore 5, 2) := by decide +kernel
theorem dX12_move_77 : decode cX12_move 77 = .ok (.iload 4, 2) := by decide +kernel
theorem dX12_move_79 : decode cX12_move 79 = .ok (.bipush 16, 2) := by decide +kernel
theorem dX12_move_81 : decode cX12_move 81 = .ok (.idiv, 1) := by decide +kernel
theorem dX12_move_82 : decode cX12_move 82 = .ok (.iload_n 2, 1) := by decide +kernel
theorem dX12_move_83 : decode cX12_move 83 = .ok (.iadd, 1) := by decide +kernel
theorem dX12_move_84 : decode cX12_move 84 = .ok (.bipush 16, 2) := by decide +kernel
theorem dX12_move_86 : decode cX12_move 86 = .ok (.iadd, 1) := by decide +kernel
theorem dX12_move_87 : decode cX12_move 87 = .ok (.bipush 15, 2) := by decide +kernel
theorem dX12_move_89 : decode cX12_move 89 = .ok (.iand, 1) := by decide +kernel
theorem dX12_move_90 : decode cX12_move 90 = .ok (.istore 6, 2) := by decide +kernel
theorem dX12_move_92 : decode cX12_move 92 = .ok (.aload_n 0, 1) := by decide +kernel
theorem dX12_move_93 : decode cX12_move 93 = .ok (.getfield 18, 3) := by decide +kernel
theorem dX12_move_96 : decode cX12_move 96 = .ok (.bipush 16, 2) := by decide +kernel
theorem dX12_move_98 : decode cX12_move 98 = .ok (.iload 6, 2) := by decide +kernel
theorem dX12_move_100 : decode cX12_move 100 = .ok (.imul, 1) := by decide +kernel
theorem dX12_move_101 : decode cX12_move 101 = .ok (.iload 5, 2) := by decide +kernel
theorem dX12_move_103 : decode cX12_move 103 = .ok (.iadd, 1) := by decide +kernel
theorem dX12_move_104 : decode cX12_move 104 = .ok (.aload_n 3, 1) := by decide +kernel
theorem dX12_move_105 : decode cX12_move 105 = .ok (.iload 4, 2) := by decide +kernel
theorem dX12_move_107 : decode cX12_move 107 = .ok (.iaload, 1) := by decide +kernel
theorem dX12_move_108 : decode cX12_move 108 = .ok (.iastore, 1) := by decide +kernel
theorem dX12_move_109 : decode cX12_move 109 = .ok (.iinc 4 1, 3) := by decide +kernel
theorem dX12_move_112 : decode cX12_move 112 = .ok (.goto (-58), 3) := by decide +kernel
theorem dX12_move_115 : decode cX12_move 115 = .ok (.aload_n 0, 1) := by decide +kernel
theorem dX12_move_116 : decode cX12_move 116 = .ok (.getfield 18, 3) := by decide +kernel
theorem dX12_move_119 : decode cX12_move 119 = .ok (.iconst 0, 1) := by decide +kernel
theorem dX12_move_120 : decode cX12_move 120 = .ok (.iaload, 1) := by decide +kernel
theorem dX12_move_121 : decode cX12_move 121 = .ok (.ireturn, 1) := by decide +kernel
theorem dX12_isPixel_0 : decode cX12_isPixel 0 = .ok (.iload_n 0, 1) := by decide +kernel
theorem dX12_isPixel_1 : decode cX12_isPixel 1 = .ok (.iconst 0, 1) := by decide +kernel
theorem dX12_isPixel_2 : decode cX12_isPixel 2 = .ok (.bipush 15, 2) := by decide +kernel
theorem dX12_isPixel_4 : decode cX12_isPixel 4 = .ok (.invokestatic 113, 3) := by decide +kernel
theorem dX12_isPixel_7 : decode cX12_isPixel 7 = .ok (.ifCond .eq 17, 3) := by decide +kernel
theorem dX12_isPixel_10 : decode cX12_isPixel 10 = .ok (.iload_n 1, 1) := by decide +kernel
theorem dX12_isPixel_11 : decode cX12_isPixel 11 = .ok (.iconst 0, 1) := by decide +kernel
theorem dX12_isPixel_12 : decode cX12_isPixel 12 = .ok (.bipush 15, 2) := by decide +kernel
theorem dX12_isPixel_14 : decode cX12_isPixel 14 = .ok (.invokestatic 113, 3) := by decide +kernel
theorem dX12_isPixel_17 : decode cX12_isPixel 17 = .ok (.ifCond .eq 7, 3) := by decide +kernel
theorem dX12_isPixel_20 : decode cX12_isPixel 20 = .ok (.iconst 1, 1) := by decide +kernel
theorem dX12_isPixel_21 : decode cX12_isPixel 21 = .ok (.goto 4, 3) := by decide +kernel
theorem dX12_isPixel_24 : decode cX12_isPixel 24 = .ok (.iconst 0, 1) := by decide +kernel
theorem dX12_isPixel_25 : decode cX12_isPixel 25 = .ok (.ireturn, 1) := by decide +kernel
theorem dX12_pixel_0 : decode cX12_pixel 0 = .ok (.aload_n 0, 1) := by decide +kernel
theorem dX12_pixel_1 : decode cX12_pixel 1 = .ok (.iload_n 1, 1) := by decide +kernel
theorem dX12_pixel_2 : decode cX12_pixel 2 = .ok (.iload_n 2, 1) := by decide +kernel
theorem dX12_pixel_3 : decode cX12_pixel 3 = .ok (.invokestatic 126, 3) := by decide +kernel
theorem dX12_pixel_6 : decode cX12_pixel 6 = .ok (.ifCond .eq 7, 3) := by decide +kernel
theorem dX12_pixel_9 : decode cX12_pixel 9 = .ok (.iconst 0, 1) := by decide +kernel
theorem dX12_pixel_10 : decode cX12_pixel 10 = .ok (.goto 4, 3) := by decide +kernel
theorem dX12_pixel_13 : decode cX12_pixel 13 = .ok (.iconst 1, 1) := by decide +kernel
theorem dX12_pixel_14 : decode cX12_pixel 14 = .ok (.putfield 110, 3) := by decide +kernel
theorem dX12_pixel_17 : decode cX12_pixel 17 = .ok (.aload_n 0, 1) := by decide +kernel
theorem dX12_pixel_18 : decode cX12_pixel 18 = .ok (.getfield 110, 3) := by decide +kernel
theorem dX12_pixel_21 : decode cX12_pixel 21 = .ok (.ifCond .ne 17, 3) := by decide +kernel
theorem dX12_pixel_24 : decode cX12_pixel 24 = .ok (.aload_n 0, 1) := by decide +kernel
theorem dX12_pixel_25 : decode cX12_pixel 25 = .ok (.getfield 18, 3) := by decide +kernel
theorem dX12_pixel_28 : decode cX12_pixel 28 = .ok (.bipush 16, 2) := by decide +kernel
theorem dX12_pixel_30 : decode cX12_pixel 30 = .ok (.iload_n 2, 1) := by decide +kernel
theorem dX12_pixel_31 : decode cX12_pixel 31 = .ok (.imul, 1) := by decide +kernel
theorem dX12_pixel_32 : decode cX12_pixel 32 = .ok (.iload_n 1, 1) := by decide +kernel
theorem dX12_pixel_33 : decode cX12_pixel 33 = .ok (.iadd, 1) := by decide +kernel
theorem dX12_pixel_34 : decode cX12_pixel 34 = .ok (.iaload, 1) := by decide +kernel
theorem dX12_pixel_35 : decode cX12_pixel 35 = .ok (.goto 4, 3) := by decide +kernel
theorem dX12_pixel_38 : decode cX12_pixel 38 = .ok (.iconst 0, 1) := by decide +kernel
theorem dX12_pixel_39 : decode cX12_pixel 39 = .ok (.ireturn, 1) := by decide +kernel
theorem dX12_setCoarseness_0 : decode cX12_setCoarseness 0 = .ok (.aload_n 0, 1) := by decide +kernel
theorem dX12_setCoarseness_1 : decode cX12_setCoarseness 1 = .ok (.iload_n 1, 1) := by decide +kernel
theorem dX12_setCoarseness_2 : decode cX12_setCoarseness 2 = .ok (.iconst 1, 1) := by decide +kernel
theorem dX12_setCoarseness_3 : decode cX12_setCoarseness 3 = .ok (.bipush 40, 2) := by decide +kernel
theorem dX12_setCoarseness_5 : decode cX12_setCoarseness 5 = .ok (.invokestatic 113, 3) := by decide +kernel
theorem dX12_setCoarseness_8 : decode cX12_setCoarseness 8 = .ok (.ifCond .eq 7, 3) := by decide +kernel
theorem dX12_setCoarseness_11 : decode cX12_setCoarseness 11 = .ok (.iconst 0, 1) := by decide +kernel
theorem dX12_setCoarseness_12 : decode cX12_setCoarseness 12 = .ok (.goto 4, 3) := by decide +kernel
theorem dX12_setCoarseness_15 : decode cX12_setCoarseness 15 = .ok (.iconst 1, 1) := by decide +kernel
theorem dX12_setCoarseness_16 : decode cX12_setCoarseness 16 = .ok (.putfield 110, 3) := by decide +kernel
theorem dX12_setCoarseness_19 : decode cX12_setCoarseness 19 = .ok (.aload_n 0, 1) := by decide +kernel
theorem dX12_setCoarseness_20 : decode cX12_setCoarseness 20 = .ok (.getfield 22, 3) := by decide +kernel
theorem dX12_setCoarseness_23 : decode cX12_setCoarseness 23 = .ok (.istore_n 2, 1) := by decide +kernel
theorem dX12_setCoarseness_24 : decode cX12_setCoarseness 24 = .ok (.aload_n 0, 1) := by decide +kernel
theorem dX12_setCoarseness_25 : decode cX12_setCoarseness 25 = .ok (.aload_n 0, 1) := by decide +kernel
theorem dX12_setCoarseness_26 : decode cX12_setCoarseness 26 = .ok (.getfield 110, 3) := by decide +kernel
theorem dX12_setCoarseness_29 : decode cX12_setCoarseness 29 = .ok (.ifCond .ne 7, 3) := by decide +kernel
theorem dX12_setCoarseness_32 : decode cX12_setCoarseness 32 = .ok (.iload_n 1, 1) := by decide +kernel
theorem dX12_setCoarseness_33 : decode cX12_setCoarseness 33 = .ok (.goto 4, 3) := by decide +kernel
theorem dX12_setCoarseness_36 : decode cX12_setCoarseness 36 = .ok (.iload_n 2, 1) := by decide +kernel
theorem dX12_setCoarseness_37 : decode cX12_setCoarseness 37 = .ok (.putfield 22, 3) := by decide +kernel
theorem dX12_setCoarseness_40 : decode cX12_setCoarseness 40 = .ok (.aload_n 0, 1) := by decide +kernel
theorem dX12_setCoarseness_41 : decode cX12_setCoarseness 41 = .ok (.getfield 110, 3) := by decide +kernel
theorem dX12_setCoarseness_44 : decode cX12_setCoarseness 44 = .ok (.ifCond .ne 7, 3) := by decide +kernel
theorem dX12_setCoarseness_47 : decode cX12_setCoarseness 47 = .ok (.iload_n 2, 1) := by decide +kernel
theorem dX12_setCoarseness_48 : decode cX12_setCoarseness 48 = .ok (.goto 4, 3) := by decide +kernel
theorem dX12_setCoarseness_51 : decode cX12_setCoarseness 51 = .ok (.iconst 0, 1) := by decide +kernel
theorem dX12_setCoarseness_52 : decode cX12_setCoarseness 52 = .ok (.ireturn, 1) := by decide +kernel
theorem dX12_setTools_0 : decode cX12_setTools 0 = .ok (.aload_n 0, 1) := by decide +kernel
theorem dX12_setTools_1 : decode cX12_setTools 1 = .ok (.iload_n 1, 1) := by decide +kernel
theorem dX12_setTools_2 : decode cX12_setTools 2 = .ok (.iconst 0, 1) := by decide +kernel
theorem dX12_setTools_3 : decode cX12_setTools 3 = .ok (.bipush 7, 2) := by decide +kernel
theorem dX12_setTools_5 : decode cX12_setTools 5 = .ok (.invokestatic 113, 3) := by decide +kernel
theorem dX12_setTools_8 : decode cX12_setTools 8 = .ok (.ifCond .eq 7, 3) := by decide +kernel
theorem dX12_setTools_11 : decode cX12_setTools 11 = .ok (.iconst 0, 1) := by decide +kernel
theorem dX12_setTools_12 : decode cX12_setTools 12 = .ok (.goto 4, 3) := by decide +kernel
theorem dX12_setTools_15 : decode cX12_setTools 15 = .ok (.iconst 1, 1) := by decide +kernel
theorem dX12_setTools_16 : decode cX12_setTools 16 = .ok (.putfield 110, 3) := by decide +kernel
theorem dX12_setTools_19 : decode cX12_setTools 19 = .ok (.aload_n 0, 1) := by decide +kernel
theorem dX12_setTools_20 : decode cX12_setTools 20 = .ok (.getfield 26, 3) := by decide +kernel
theorem dX12_setTools_23 : decode cX12_setTools 23 = .ok (.istore_n 2, 1) := by decide +kernel
theorem dX12_setTools_24 : decode cX12_setTools 24 = .ok (.aload_n 0, 1) := by decide +kernel
theorem dX12_setTools_25 : decode cX12_setTools 25 = .ok (.aload_n 0, 1) := by decide +kernel
theorem dX12_setTools_26 : decode cX12_setTools 26 = .ok (.getfield 110, 3) := by decide +kernel
theorem dX12_setTools_29 : decode cX12_setTools 29 = .ok (.ifCond .ne 7, 3) := by decide +kernel
theorem dX12_setTools_32 : decode cX12_setTools 32 = .ok (.iload_n 1, 1) := by decide +kernel
theorem dX12_setTools_33 : decode cX12_setTools 33 = .ok (.goto 4, 3) := by decide +kernel
theorem dX12_setTools_36 : decode cX12_setTools 36 = .ok (.iload_n 2, 1) := by decide +kernel
theorem dX12_setTools_37 : decode cX12_setTools 37 = .ok (.putfield 26, 3) := by decide +kernel
theorem dX12_setTools_40 : decode cX12_setTools 40 = .ok (.aload_n 0, 1) := by decide +kernel
theorem dX12_setTools_41 : decode cX12_setTools 41 = .ok (.getfield 110, 3) := by decide +kernel
theorem dX12_setTools_44 : decode cX12_setTools 44 = .ok (.ifCond .ne 7, 3) := by decide +kernel
theorem dX12_setTools_47 : decode cX12_setTools 47 = .ok (.iload_n 2, 1) := by decide +kernel
theorem dX12_setTools_48 : decode cX12_setTools 48 = .ok (.goto 4, 3) := by decide +kernel
theorem dX12_setTools_51 : decode cX12_setTools 51 = .ok (.iconst 0, 1) := by decide +kernel
theorem dX12_setTools_52 : decode cX12_setTools 52 = .ok (.ireturn, 1) := by decide +kernel
theorem dX12_setSlices_0 : decode cX12_setSlices 0 = .ok (.aload_n 0, 1) := by decide +kernel
theorem dX12_setSlices_1 : decode cX12_setSlices 1 = .ok (.iload_n 1, 1) := by decide +kernel
theorem dX12_setSlices_2 : decode cX12_setSlices 2 = .ok (.iconst 1, 1) := by decide +kernel
theorem dX12_setSlices_3 : decode cX12_setSlices 3 = .ok (.iconst 2, 1) := by decide +kernel
theorem dX12_setSlices_4 : decode cX12_setSlices 4 = .ok (.invokestatic 113, 3) := by decide +kernel
theorem dX12_setSlices_7 : decode cX12_setSlices 7 = .ok (.ifCond .eq 7, 3) := by decide +kernel
theorem dX12_setSlices_10 : decode cX12_setSlices 10 = .ok (.iconst 0, 1) := by decide +kernel
theorem dX12_setSlices_11 : decode cX12_setSlices 11 = .ok (.goto 4, 3) := by decide +kernel
theorem dX12_setSlices_14 : decode cX12_setSlices 14 = .ok (.iconst 1, 1) := by decide +kernel
theorem dX12_setSlices_15 : decode cX12_setSlices 15 = .ok (.putfield 110, 3) := by decide +kernel
theorem dX12_setSlices_18 : decode cX12_setSlices 18 = .ok (.aload_n 0, 1) := by decide +kernel
theorem dX12_setSlices_19 : decode cX12_setSlices 19 = .ok (.getfield 29, 3) := by decide +kernel
theorem dX12_setSlices_22 : decode cX12_setSlices 22 = .ok (.istore_n 2, 1) := by decide +kernel
theorem dX12_setSlices_23 : decode cX12_setSlices 23 = .ok (.aload_n 0, 1) := by decide +kernel
theorem dX12_setSlices_24 : decode cX12_setSlices 24 = .ok (.aload_n 0, 1) := by decide +kernel
theorem dX12_setSlices_25 : decode cX12_setSlices 25 = .ok (.getfield 110, 3) := by decide +kernel
theorem dX12_setSlices_28 : decode cX12_setSlices 28 = .ok (.ifCond .ne 7, 3) := by decide +kernel
theorem dX12_setSlices_31 : decode cX12_setSlices 31 = .ok (.iload_n 1, 1) := by decide +kernel
theorem dX12_setSlices_32 : decode cX12_setSlices 32 = .ok (.goto 4, 3) := by decide +kernel
theorem dX12_setSlices_35 : decode cX12_setSlices 35 = .ok (.iload_n 2, 1) := by decide +kernel
theorem dX12_setSlices_36 : decode cX12_setSlices 36 = .ok (.putfield 29, 3) := by decide +kernel
theorem dX12_setSlices_39 : decode cX12_setSlices 39 = .ok (.aload_n 0, 1) := by decide +kernel
theorem dX12_setSlices_40 : decode cX12_setSlices 40 = .ok (.getfield 110, 3) := by decide +kernel
theorem dX12_setSlices_43 : decode cX12_setSlices 43 = .ok (.ifCond .ne 7, 3) := by decide +kernel
theorem dX12_setSlices_46 : decode cX12_setSlices 46 = .ok (.iload_n 2, 1) := by decide +kernel
theorem dX12_setSlices_47 : decode cX12_setSlices 47 = .ok (.goto 4, 3) := by decide +kernel
theorem dX12_setSlices_50 : decode cX12_setSlices 50 = .ok (.iconst 0, 1) := by decide +kernel
theorem dX12_setSlices_51 : decode cX12_setSlices 51 = .ok (.ireturn, 1) := by decide +kernel
theorem dX12_setKept_0 : decode cX12_setKept 0 = .ok (.aload_n 0, 1) := by decide +kernel
theorem dX12_setKept_1 : decode cX12_setKept 1 = .ok (.iconst 0, 1) := by decide +kernel
theorem dX12_setKept_2 : decode cX12_setKept 2 = .ok (.putfield 110, 3) := by decide +kernel
theorem dX12_setKept_5 : decode cX12_setKept 5 = .ok (.aload_n 0, 1) := by decide +kernel
theorem dX12_setKept_6 : decode cX12_setKept 6 = .ok (.getfield 32, 3) := by decide +kernel
theorem dX12_setKept_9 : decode cX12_setKept 9 = .ok (.istore_n 2, 1) := by decide +kernel
theorem dX12_setKept_10 : decode cX12_setKept 10 = .ok (.aload_n 0, 1) := by decide +kernel
theorem dX12_setKept_11 : decode cX12_setKept 11 = .ok (.iload_n 1, 1) := by decide +kernel
theorem dX12_setKept_12 : decode cX12_setKept 12 = .ok (.putfield 32, 3) := by decide +kernel
theorem dX12_setKept_15 : decode cX12_setKept 15 = .ok (.iload_n 2, 1) := by decide +kernel
theorem dX12_setKept_16 : decode cX12_setKept 16 = .ok (.ireturn, 1) := by decide +kernel
theorem dX12_setBucket_0 : decode cX12_setBucket 0 = .ok (.aload_n 0, 1) := by decide +kernel
theorem dX12_setBucket_1 : decode cX12_setBucket 1 = .ok (.iload_n 1, 1) := by decide +kernel
theorem dX12_setBucket_2 : decode cX12_setBucket 2 = .ok (.iconst 0, 1) := by decide +kernel
theorem dX12_setBucket_3 : decode cX12_setBucket 3 = .ok (.ldc 130, 2) := by decide +kernel
theorem dX12_setBucket_5 : decode cX12_setBucket 5 = .ok (.invokestatic 113, 3) := by decide +kernel
theorem dX12_setBucket_8 : decode cX12_setBucket 8 = .ok (.ifCond .eq 17, 3) := by decide +kernel
theorem dX12_setBucket_11 : decode cX12_setBucket 11 = .ok (.iload_n 2, 1) := by decide +kernel
theorem dX12_setBucket_12 : decode cX12_setBucket 12 = .ok (.iconst 0, 1) := by decide +kernel
theorem dX12_setBucket_13 : decode cX12_setBucket 13 = .ok (.ldc 130, 2) := by decide +kernel
theorem dX12_setBucket_15 : decode cX12_setBucket 15 = .ok (.invokestatic 113, 3) := by decide +kernel
theorem dX12_setBucket_18 : decode cX12_setBucket 18 = .ok (.ifCond .eq 7, 3) := by decide +kernel
theorem dX12_setBucket_21 : decode cX12_setBucket 21 = .ok (.iconst 0, 1) := by decide +kernel
theorem dX12_setBucket_22 : decode cX12_setBucket 22 = .ok (.goto 4, 3) := by decide +kernel
theorem dX12_setBucket_25 : decode cX12_setBucket 25 = .ok (.iconst 1, 1) := by decide +kernel
theorem dX12_setBucket_26 : decode cX12_setBucket 26 = .ok (.putfield 110, 3) := by decide +kernel
theorem dX12_setBucket_29 : decode cX12_setBucket 29 = .ok (.aload_n 0, 1) := by decide +kernel
theorem dX12_setBucket_30 : decode cX12_setBucket 30 = .ok (.getfield 110, 3) := by decide +kernel
theorem dX12_setBucket_33 : decode cX12_setBucket 33 = .ok (.ifCond .le 5, 3) := by decide +kernel
theorem dX12_setBucket_36 : decode cX12_setBucket 36 = .ok (.iconst 0, 1) := by decide +kernel
theorem dX12_setBucket_37 : decode cX12_setBucket 37 = .ok (.ireturn, 1) := by decide +kernel
theorem dX12_setBucket_38 : decode cX12_setBucket 38 = .ok (.aload_n 0, 1) := by decide +kernel
theorem dX12_setBucket_39 : decode cX12_setBucket 39 = .ok (.getfield 36, 3) := by decide +kernel
theorem dX12_setBucket_42 : decode cX12_setBucket 42 = .ok (.istore_n 3, 1) := by decide +kernel
theorem dX12_setBucket_43 : decode cX12_setBucket 43 = .ok (.aload_n 0, 1) := by decide +kernel
theorem dX12_setBucket_44 : decode cX12_setBucket 44 = .ok (.iload_n 1, 1) := by decide +kernel
theorem dX12_setBucket_45 : decode cX12_setBucket 45 = .ok (.putfield 131, 3) := by decide +kernel
theorem dX12_setBucket_48 : decode cX12_setBucket 48 = .ok (.aload_n 0, 1) := by decide +kernel
theorem dX12_setBucket_49 : decode cX12_setBucket 49 = .ok (.iload_n 2, 1) := by decide +kernel
theorem dX12_setBucket_50 : decode cX12_setBucket 50 = .ok (.putfield 134, 3) := by decide +kernel
theorem dX12_setBucket_53 : decode cX12_setBucket 53 = .ok (.aload_n 0, 1) := by decide +kernel
theorem dX12_setBucket_54 : decode cX12_setBucket 54 = .ok (.iload_n 1, 1) := by decide +kernel
theorem dX12_setBucket_55 : decode cX12_setBucket 55 = .ok (.ifCond .ne 7, 3) := by decide +kernel
theorem dX12_setBucket_58 : decode cX12_setBucket 58 = .ok (.iconst (-1), 1) := by decide +kernel
theorem dX12_setBucket_59 : decode cX12_setBucket 59 = .ok (.goto 4, 3) := by decide +kernel
theorem dX12_setBucket_62 : decode cX12_setBucket 62 = .ok (.iconst 0, 1) := by decide +kernel
theorem dX12_setBucket_63 : decode cX12_setBucket 63 = .ok (.putfield 36, 3) := by decide +kernel
theorem dX12_setBucket_66 : decode cX12_setBucket 66 = .ok (.iload_n 3, 1) := by decide +kernel
theorem dX12_setBucket_67 : decode cX12_setBucket 67 = .ok (.ireturn, 1) := by decide +kernel
theorem dX12_border_0 : decode cX12_border 0 = .ok (.iload_n 1, 1) := by decide +kernel
theorem dX12_border_1 : decode cX12_border 1 = .ok (.ifCond .lt 8, 3) := by decide +kernel
theorem dX12_border_4 : decode cX12_border 4 = .ok (.iload_n 2, 1) := by decide +kernel
theorem dX12_border_5 : decode cX12_border 5 = .ok (.iload_n 3, 1) := by decide +kernel
theorem dX12_border_6 : decode cX12_border 6 = .ok (.if_icmp .ge 9, 3) := by decide +kernel
theorem dX12_border_9 : decode cX12_border 9 = .ok (.sipush 128, 3) := by decide +kernel
theorem dX12_border_12 : decode cX12_border 12 = .ok (.goto 11, 3) := by decide +kernel
theorem dX12_border_15 : decode cX12_border 15 = .ok (.aload_n 0, 1) := by decide +kernel
theorem dX12_border_16 : decode cX12_border 16 = .ok (.bipush 16, 2) := by decide +kernel
theorem dX12_border_18 : decode cX12_border 18 = .ok (.iload_n 2, 1) := by decide +kernel
theorem dX12_border_19 : decode cX12_border 19 = .ok (.imul, 1) := by decide +kernel
theorem dX12_border_20 : decode cX12_border 20 = .ok (.iload_n 1, 1) := by decide +kernel
theorem dX12_border_21 : decode cX12_border 21 = .ok (.iadd, 1) := by decide +kernel
theorem dX12_border_22 : decode cX12_border 22 = .ok (.iaload, 1) := by decide +kernel
theorem dX12_border_23 : decode cX12_border 23 = .ok (.ireturn, 1) := by decide +kernel
theorem dX12_top_0 : decode cX12_top 0 = .ok (.iload_n 1, 1) := by decide +kernel
theorem dX12_top_1 : decode cX12_top 1 = .ok (.iconst 2, 1) := by decide +kernel
theorem dX12_top_2 : decode cX12_top 2 = .ok (.if_icmp .ne 14, 3) := by decide +kernel
theorem dX12_top_5 : decode cX12_top 5 = .ok (.iload_n 0, 1) := by decide +kernel
theorem dX12_top_6 : decode cX12_top 6 = .ok (.bipush 8, 2) := by decide +kernel
theorem dX12_top_8 : decode cX12_top 8 = .ok (.if_icmp .lt 8, 3) := by decide +kernel
theorem dX12_top_11 : decode cX12_top 11 = .ok (.bipush 8, 2) := by decide +kernel
theorem dX12_top_13 : decode cX12_top 13 = .ok (.goto 4, 3) := by decide +kernel
theorem dX12_top_16 : decode cX12_top 16 = .ok (.iconst 0, 1) := by decide +kernel
theorem dX12_top_17 : decode cX12_top 17 = .ok (.ireturn, 1) := by decide +kernel
theorem dX12_byBorder_0 : decode cX12_byBorder 0 = .ok (.iload_n 1, 1) := by decide +kernel
theorem dX12_byBorder_1 : decode cX12_byBorder 1 = .ok (.iload_n 3, 1) := by decide +kernel
theorem dX12_byBorder_2 : decode cX12_byBorder 2 = .ok (.idiv, 1) := by decide +kernel
theorem dX12_byBorder_3 : decode cX12_byBorder 3 = .ok (.iload_n 3, 1) := by decide +kernel
theorem dX12_byBorder_4 : decode cX12_byBorder 4 = .ok (.imul, 1) := by decide +kernel
theorem dX12_byBorder_5 : decode cX12_byBorder 5 = .ok (.istore 6, 2) := by decide +kernel
theorem dX12_byBorder_7 : decode cX12_byBorder 7 = .ok (.iload_n 2, 1) := by decide +kernel
theorem dX12_byBorder_8 : decode cX12_byBorder 8 = .ok (.iload_n 3, 1) := by decide +kernel
theorem dX12_byBorder_9 : decode cX12_byBorder 9 = .ok (.idiv, 1) := by decide +kernel
theorem dX12_byBorder_10 : decode cX12_byBorder 10 = .ok (.iload_n 3, 1) := by decide +kernel
theorem dX12_byBorder_11 : decode cX12_byBorder 11 = .ok (.imul, 1) := by decide +kernel
theorem dX12_byBorder_12 : decode cX12_byBorder 12 = .ok (.istore 7, 2) := by decide +kernel
theorem dX12_byBorder_14 : decode cX12_byBorder 14 = .ok (.iload_n 2, 1) := by decide +kernel
theorem dX12_byBorder_15 : decode cX12_byBorder 15 = .ok (.iload 5, 2) := by decide +kernel
theorem dX12_byBorder_17 : decode cX12_byBorder 17 = .ok (.invokestatic 137, 3) := by decide +kernel
theorem dX12_byBorder_20 : decode cX12_byBorder 20 = .ok (.istore 8, 2) := by decide +kernel
theorem dX12_byBorder_22 : decode cX12_byBorder 22 = .ok (.aload_n 0, 1) := by decide +kernel
theorem dX12_byBorder_23 : decode cX12_byBorder 23 = .ok (.iload_n 1, 1) := by decide +kernel
theorem dX12_byBorder_24 : decode cX12_byBorder 24 = .ok (.iload 7, 2) := by decide +kernel
theorem dX12_byBorder_26 : decode cX12_byBorder 26 = .ok (.iconst 1, 1) := by decide +kernel
theorem dX12_byBorder_27 : decode cX12_byBorder 27 = .ok (.isub, 1) := by decide +kernel
theorem dX12_byBorder_28 : decode cX12_byBorder 28 = .ok (.iload 8, 2) := by decide +kernel
theorem dX12_byBorder_30 : decode cX12_byBorder 30 = .ok (.invokestatic 140, 3) := by decide +kernel
theorem dX12_byBorder_33 : decode cX12_byBorder 33 = .ok (.istore 9, 2) := by decide +kernel
theorem dX12_byBorder_35 : decode cX12_byBorder 35 = .ok (.aload_n 0, 1) := by decide +kernel
theorem dX12_byBorder_36 : decode cX12_byBorder 36 = .ok (.iload 6, 2) := by decide +kernel
theorem dX12_byBorder_38 : decode cX12_byBorder 38 = .ok (.iconst 1, 1) := by decide +kernel
theorem dX12_byBorder_39 : decode cX12_byBorder 39 = .ok (.isub, 1) := by decide +kernel
theorem dX12_byBorder_40 : decode cX12_byBorder 40 = .ok (.iload_n 2, 1) := by decide +kernel
theorem dX12_byBorder_41 : decode cX12_byBorder 41 = .ok (.iload 8, 2) := by decide +kernel
theorem dX12_byBorder_43 : decode cX12_byBorder 43 = .ok (.invokestatic 140, 3) := by decide +kernel
theorem dX12_byBorder_46 : decode cX12_byBorder 46 = .ok (.istore 10, 2) := by decide +kernel
theorem dX12_byBorder_48 : decode cX12_byBorder 48 = .ok (.iload 4, 2) := by decide +kernel
theorem dX12_byBorder_50 : decode cX12_byBorder 50 = .ok (.tableswitch 93 0 2 #[26, 87, 90], 26) := by decide +kernel
theorem dX12_byBorder_76 : decode cX12_byBorder 76 = .ok (.iload_n 3, 1) := by decide +kernel
theorem dX12_byBorder_77 : decode cX12_byBorder 77 = .ok (.istore 11, 2) := by decide +kernel
theorem dX12_byBorder_79 : decode cX12_byBorder 79 = .ok (.iconst 0, 1) := by decide +kernel
theorem dX12_byBorder_80 : decode cX12_byBorder 80 = .ok (.istore 12, 2) := by decide +kernel
theorem dX12_byBorder_82 : decode cX12_byBorder 82 = .ok (.iload 12, 2) := by decide +kernel
theorem dX12_byBorder_84 : decode cX12_byBorder 84 = .ok (.iload_n 3, 1) := by decide +kernel
theorem dX12_byBorder_85 : decode cX12_byBorder 85 = .ok (.if_icmp .ge 45, 3) := by decide +kernel
theorem dX12_byBorder_88 : decode cX12_byBorder 88 = .ok (.iload 11, 2) := by decide +kernel
theorem dX12_byBorder_90 : decode cX12_byBorder 90 = .ok (.aload_n 0, 1) := by decide +kernel
theorem dX12_byBorder_91 : decode cX12_byBorder 91 = .ok (.iload 6, 2) := by decide +kernel
theorem dX12_byBorder_93 : decode cX12_byBorder 93 = .ok (.iload 12, 2) := by decide +kernel
theorem dX12_byBorder_95 : decode cX12_byBorder 95 = .ok (.iadd, 1) := by decide +kernel
theorem dX12_byBorder_96 : decode cX12_byBorder 96 = .ok (.iload 7, 2) := by decide +kernel
theorem dX12_byBorder_98 : decode cX12_byBorder 98 = .ok (.iconst 1, 1) := by decide +kernel
theorem dX12_byBorder_99 : decode cX12_byBorder 99 = .ok (.isub, 1) := by decide +kernel
theorem dX12_byBorder_100 : decode cX12_byBorder 100 = .ok (.iload 8, 2) := by decide +kernel
theorem dX12_byBorder_102 : decode cX12_byBorder 102 = .ok (.invokestatic 140, 3) := by decide +kernel
theorem dX12_byBorder_105 : decode cX12_byBorder 105 = .ok (.aload_n 0, 1) := by decide +kernel
theorem dX12_byBorder_106 : decode cX12_byBorder 106 = .ok (.iload 6, 2) := by decide +kernel
theorem dX12_byBorder_108 : decode cX12_byBorder 108 = .ok (.iconst 1, 1) := by decide +kernel
theorem dX12_byBorder_109 : decode cX12_byBorder 109 = .ok (.isub, 1) := by decide +kernel
theorem dX12_byBorder_110 : decode cX12_byBorder 110 = .ok (.iload 7, 2) := by decide +kernel
theorem dX12_byBorder_112 : decode cX12_byBorder 112 = .ok (.iload 12, 2) := by decide +kernel
theorem dX12_byBorder_114 : decode cX12_byBorder 114 = .ok (.iadd, 1) := by decide +kernel
theorem dX12_byBorder_115 : decode cX12_byBorder 115 = .ok (.iload 8, 2) := by decide +kernel
theorem dX12_byBorder_117 : decode cX12_byBorder 117 = .ok (.invokestatic 140, 3) := by decide +kernel
theorem dX12_byBorder_120 : decode cX12_byBorder 120 = .ok (.iadd, 1) := by decide +kernel
theorem dX12_byBorder_121 : decode cX12_byBorder 121 = .ok (.iadd, 1) := by decide +kernel
theorem dX12_byBorder_122 : decode cX12_byBorder 122 = .ok (.istore 11, 2) := by decide +kernel
theorem dX12_byBorder_124 : decode cX12_byBorder 124 = .ok (.iinc 12 1, 3) := by decide +kernel
theorem dX12_byBorder_127 : decode cX12_byBorder 127 = .ok (.goto (-45), 3) := by decide +kernel
theorem dX12_byBorder_130 : decode cX12_byBorder 130 = .ok (.iload 11, 2) := by decide +kernel
theorem dX12_byBorder_132 : decode cX12_byBorder 132 = .ok (.iconst 2, 1) := by decide +kernel
theorem dX12_byBorder_133 : decode cX12_byBorder 133 = .ok (.iload_n 3, 1) := by decide +kernel
theorem dX12_byBorder_134 : decode cX12_byBorder 134 = .ok (.imul, 1) := by decide +kernel
theorem dX12_byBorder_135 : decode cX12_byBorder 135 = .ok (.idiv, 1) := by decide +kernel
theorem dX12_byBorder_136 : decode cX12_byBorder 136 = .ok (.ireturn, 1) := by decide +kernel
theorem dX12_byBorder_137 : decode cX12_byBorder 137 = .ok (.iload 9, 2) := by decide +kernel
theorem dX12_byBorder_139 : decode cX12_byBorder 139 = .ok (.ireturn, 1) := by decide +kernel
theorem dX12_byBorder_140 : decode cX12_byBorder 140 = .ok (.iload 10, 2) := by decide +kernel
theorem dX12_byBorder_142 : decode cX12_byBorder 142 = .ok (.ireturn, 1) := by decide +kernel
theorem dX12_byBorder_143 : decode cX12_byBorder 143 = .ok (.iload 9, 2) := by decide +kernel
theorem dX12_byBorder_145 : decode cX12_byBorder 145 = .ok (.iload 10, 2) := by decide +kernel
theorem dX12_byBorder_147 : decode cX12_byBorder 147 = .ok (.iadd, 1) := by decide +kernel
theorem dX12_byBorder_148 : decode cX12_byBorder 148 = .ok (.aload_n 0, 1) := by decide +kernel
theorem dX12_byBorder_149 : decode cX12_byBorder 149 = .ok (.iload 6, 2) := by decide +kernel
theorem dX12_byBorder_151 : decode cX12_byBorder 151 = .ok (.iconst 1, 1) := by decide +kernel
theorem dX12_byBorder_152 : decode cX12_byBorder 152 = .ok (.isub, 1) := by decide +kernel
theorem dX12_byBorder_153 : decode cX12_byBorder 153 = .ok (.iload 7, 2) := by decide +kernel
theorem dX12_byBorder_155 : decode cX12_byBorder 155 = .ok (.iconst 1, 1) := by decide +kernel
theorem dX12_byBorder_156 : decode cX12_byBorder 156 = .ok (.isub, 1) := by decide +kernel
theorem dX12_byBorder_157 : decode cX12_byBorder 157 = .ok (.iload 8, 2) := by decide +kernel
theorem dX12_byBorder_159 : decode cX12_byBorder 159 = .ok (.invokestatic 140, 3) := by decide +kernel
theorem dX12_byBorder_162 : decode cX12_byBorder 162 = .ok (.isub, 1) := by decide +kernel
theorem dX12_byBorder_163 : decode cX12_byBorder 163 = .ok (.invokestatic 118, 3) := by decide +kernel
theorem dX12_byBorder_166 : decode cX12_byBorder 166 = .ok (.ireturn, 1) := by decide +kernel
theorem dX12_inside_0 : decode cX12_inside 0 = .ok (.iconst 0, 1) := by decide +kernel
theorem dX12_inside_1 : decode cX12_inside 1 = .ok (.bipush 15, 2) := by decide +kernel
theorem dX12_inside_3 : decode cX12_inside 3 = .ok (.iload_n 0, 1) := by decide +kernel
theorem dX12_inside_4 : decode cX12_inside 4 = .ok (.invokestatic 3, 3) := by decide +kernel
theorem dX12_inside_7 : decode cX12_inside 7 = .ok (.invokestatic 9, 3) := by decide +kernel
theorem dX12_inside_10 : decode cX12_inside 10 = .ok (.ireturn, 1) := by decide +kernel
theorem dX12_at_0 : decode cX12_at 0 = .ok (.aload_n 0, 1) := by decide +kernel
theorem dX12_at_1 : decode cX12_at 1 = .ok (.bipush 16, 2) := by decide +kernel
theorem dX12_at_3 : decode cX12_at 3 = .ok (.iload_n 2, 1) := by decide +kernel
theorem dX12_at_4 : decode cX12_at 4 = .ok (.invokestatic 144, 3) := by decide +kernel
theorem dX12_at_7 : decode cX12_at 7 = .ok (.imul, 1) := by decide +kernel
theorem dX12_at_8 : decode cX12_at 8 = .ok (.iload_n 1, 1) := by decide +kernel
theorem dX12_at_9 : decode cX12_at 9 = .ok (.invokestatic 144, 3) := by decide +kernel
theorem dX12_at_12 : decode cX12_at 12 = .ok (.iadd, 1) := by decide +kernel
theorem dX12_at_13 : decode cX12_at 13 = .ok (.iaload, 1) := by decide +kernel
theorem dX12_at_14 : decode cX12_at 14 = .ok (.ireturn, 1) := by decide +kernel
theorem dX12_byVector_0 : decode cX12_byVector 0 = .ok (.iconst 2, 1) := by decide +kernel
theorem dX12_byVector_1 : decode cX12_byVector 1 = .ok (.iload_n 1, 1) := by decide +kernel
theorem dX12_byVector_2 : decode cX12_byVector 2 = .ok (.imul, 1) := by decide +kernel
theorem dX12_byVector_3 : decode cX12_byVector 3 = .ok (.iload_n 3, 1) := by decide +kernel
theorem dX12_byVector_4 : decode cX12_byVector 4 = .ok (.iadd, 1) := by decide +kernel
theorem dX12_byVector_5 : decode cX12_byVector 5 = .ok (.iconst 1, 1) := by decide +kernel
theorem dX12_byVector_6 : decode cX12_byVector 6 = .ok (.ishr, 1) := by decide +kernel
theorem dX12_byVector_7 : decode cX12_byVector 7 = .ok (.istore 5, 2) := by decide +kernel
theorem dX12_byVector_9 : decode cX12_byVector 9 = .ok (.iconst 2, 1) := by decide +kernel
theorem dX12_byVector_10 : decode cX12_byVector 10 = .ok (.iload_n 2, 1) := by decide +kernel
theorem dX12_byVector_11 : decode cX12_byVector 11 = .ok (.imul, 1) := by decide +kernel
theorem dX12_byVector_12 : decode cX12_byVector 12 = .ok (.iload 4, 2) := by decide +kernel
theorem dX12_byVector_14 : decode cX12_byVector 14 = .ok (.iadd, 1) := by decide +kernel
theorem dX12_byVector_15 : decode cX12_byVector 15 = .ok (.iconst 1, 1) := by decide +kernel
theorem dX12_byVector_16 : decode cX12_byVector 16 = .ok (.ishr, 1) := by decide +kernel
theorem dX12_byVector_17 : decode cX12_byVector 17 = .ok (.istore 6, 2) := by decide +kernel
theorem dX12_byVector_19 : decode cX12_byVector 19 = .ok (.iload 5, 2) := by decide +kernel
theorem dX12_byVector_21 : decode cX12_byVector 21 = .ok (.iload_n 3, 1) := by decide +kernel
theorem dX12_byVector_22 : decode cX12_byVector 22 = .ok (.iconst 1, 1) := by decide +kernel
theorem dX12_byVector_23 : decode cX12_byVector 23 = .ok (.iand, 1) := by decide +kernel
theorem dX12_byVector_24 : decode cX12_byVector 24 = .ok (.iadd, 1) := by decide +kernel
theorem dX12_byVector_25 : decode cX12_byVector 25 = .ok (.istore 7, 2) := by decide +kernel
theorem dX12_byVector_27 : decode cX12_byVector 27 = .ok (.iload 6, 2) := by decide +kernel
theorem dX12_byVector_29 : decode cX12_byVector 29 = .ok (.iload 4, 2) := by decide +kernel
theorem dX12_byVector_31 : decode cX12_byVector 31 = .ok (.iconst 1, 1) := by decide +kernel
theorem dX12_byVector_32 : decode cX12_byVector 32 = .ok (.iand, 1) := by decide +kernel
theorem dX12_byVector_33 : decode cX12_byVector 33 = .ok (.iadd, 1) := by decide +kernel
theorem dX12_byVector_34 : decode cX12_byVector 34 = .ok (.istore 8, 2) := by decide +kernel
theorem dX12_byVector_36 : decode cX12_byVector 36 = .ok (.aload_n 0, 1) := by decide +kernel
theorem dX12_byVector_37 : decode cX12_byVector 37 = .ok (.iload 5, 2) := by decide +kernel
theorem dX12_byVector_39 : decode cX12_byVector 39 = .ok (.iload 6, 2) := by decide +kernel
theorem dX12_byVector_41 : decode cX12_byVector 41 = .ok (.invokestatic 147, 3) := by decide +kernel
theorem dX12_byVector_44 : decode cX12_byVector 44 = .ok (.aload_n 0, 1) := by decide +kernel
theorem dX12_byVector_45 : decode cX12_byVector 45 = .ok (.iload 7, 2) := by decide +kernel
theorem dX12_byVector_47 : decode cX12_byVector 47 = .ok (.iload 6, 2) := by decide +kernel
theorem dX12_byVector_49 : decode cX12_byVector 49 = .ok (.invokestatic 147, 3) := by decide +kernel
theorem dX12_byVector_52 : decode cX12_byVector 52 = .ok (.iadd, 1) := by decide +kernel
theorem dX12_byVector_53 : decode cX12_byVector 53 = .ok (.aload_n 0, 1) := by decide +kernel
theorem dX12_byVector_54 : decode cX12_byVector 54 = .ok (.iload 5, 2) := by decide +kernel
theorem dX12_byVector_56 : decode cX12_byVector 56 = .ok (.iload 8, 2) := by decide +kernel
theorem dX12_byVector_58 : decode cX12_byVector 58 = .ok (.invokestatic 147, 3) := by decide +kernel
theorem dX12_byVector_61 : decode cX12_byVector 61 = .ok (.iadd, 1) := by decide +kernel
theorem dX12_byVector_62 : decode cX12_byVector 62 = .ok (.aload_n 0, 1) := by decide +kernel
theorem dX12_byVector_63 : decode cX12_byVector 63 = .ok (.iload 7, 2) := by decide +kernel
theorem dX12_byVector_65 : decode cX12_byVector 65 = .ok (.iload 8, 2) := by decide +kernel
theorem dX12_byVector_67 : decode cX12_byVector 67 = .ok (.invokestatic 147, 3) := by decide +kernel
theorem dX12_byVector_70 : decode cX12_byVector 70 = .ok (.iadd, 1) := by decide +kernel
theorem dX12_byVector_71 : decode cX12_byVector 71 = .ok (.istore 9, 2) := by decide +kernel
theorem dX12_byVector_73 : decode cX12_byVector 73 = .ok (.iload 9, 2) := by decide +kernel
theorem dX12_byVector_75 : decode cX12_byVector 75 = .ok (.iconst 2, 1) := by decide +kernel
theorem dX12_byVector_76 : decode cX12_byVector 76 = .ok (.iadd, 1) := by decide +kernel
theorem dX12_byVector_77 : decode cX12_byVector 77 = .ok (.iconst 2, 1) := by decide +kernel
theorem dX12_byVector_78 : decode cX12_byVector 78 = .ok (.ishr, 1) := by decide +kernel
theorem dX12_byVector_79 : decode cX12_byVector 79 = .ok (.ireturn, 1) := by decide +kernel
theorem dX12_byPictures_0 : decode cX12_byPictures 0 = .ok (.iconst 4, 1) := by decide +kernel
theorem dX12_byPictures_1 : decode cX12_byPictures 1 = .ok (.iconst 4, 1) := by decide +kernel
theorem dX12_byPictures_2 : decode cX12_byPictures 2 = .ok (.iload_n 3, 1) := by decide +kernel
theorem dX12_byPictures_3 : decode cX12_byPictures 3 = .ok (.iconst 4, 1) := by decide +kernel
theorem dX12_byPictures_4 : decode cX12_byPictures 4 = .ok (.idiv, 1) := by decide +kernel
theorem dX12_byPictures_5 : decode cX12_byPictures 5 = .ok (.imul, 1) := by decide +kernel
theorem dX12_byPictures_6 : decode cX12_byPictures 6 = .ok (.iload_n 2, 1) := by decide +kernel
theorem dX12_byPictures_7 : decode cX12_byPictures 7 = .ok (.iconst 4, 1) := by decide +kernel
theorem dX12_byPictures_8 : decode cX12_byPictures 8 = .ok (.idiv, 1) := by decide +kernel
theorem dX12_byPictures_9 : decode cX12_byPictures 9 = .ok (.iadd, 1) := by decide +kernel
theorem dX12_byPictures_10 : decode cX12_byPictures 10 = .ok (.imul, 1) := by decide +kernel
theorem dX12_byPictures_11 : decode cX12_byPictures 11 = .ok (.istore 6, 2) := by decide +kernel
theorem dX12_byPictures_13 : decode cX12_byPictures 13 = .ok (.iload 4, 2) := by decide +kernel
theorem dX12_byPictures_15 : decode cX12_byPictures 15 = .ok (.iconst 5, 1) := by decide +kernel
theorem dX12_byPictures_16 : decode cX12_byPictures 16 = .ok (.if_icmp .ne 7, 3) := by decide +kernel
theorem dX12_byPictures_19 : decode cX12_byPictures 19 = .ok (.iconst 0, 1) := by decide +kernel
theorem dX12_byPictures_20 : decode cX12_byPictures 20 = .ok (.goto 21, 3) := by decide +kernel
theorem dX12_byPictures_23 : decode cX12_byPictures 23 = .ok (.aload_n 0, 1) := by decide +kernel
theorem dX12_byPictures_24 : decode cX12_byPictures 24 = .ok (.iload_n 2, 1) := by decide +kernel
theorem dX12_byPictures_25 : decode cX12_byPictures 25 = .ok (.iload_n 3, 1) := by decide +kernel
theorem dX12_byPictures_26 : decode cX12_byPictures 26 = .ok (.aload 5, 2) := by decide +kernel
theorem dX12_byPictures_28 : decode cX12_byPictures 28 = .ok (.iload 6, 2) := by decide +kernel
theorem dX12_byPictures_30 : decode cX12_byPictures 30 = .ok (.iaload, 1) := by decide +kernel
theorem dX12_byPictures_31 : decode cX12_byPictures 31 = .ok (.aload 5, 2) := by decide +kernel
theorem dX12_byPictures_33 : decode cX12_byPictures 33 = .ok (.iload 6, 2) := by decide +kernel
theorem dX12_byPictures_35 : decode cX12_byPictures 35 = .ok (.iconst 1, 1) := by decide +kernel
theorem dX12_byPictures_36 : decode cX12_byPictures 36 = .ok (.iadd, 1) := by decide +kernel
theorem dX12_byPictures_37 : decode cX12_byPictures 37 = .ok (.iaload, 1) := by decide +kernel
theorem dX12_byPictures_38 : decode cX12_byPictures 38 = .ok (.invokestatic 151, 3) := by decide +kernel
theorem dX12_byPictures_41 : decode cX12_byPictures 41 = .ok (.istore 7, 2) := by decide +kernel
theorem dX12_byPictures_43 : decode cX12_byPictures 43 = .ok (.iload 4, 2) := by decide +kernel
theorem dX12_byPictures_45 : decode cX12_byPictures 45 = .ok (.iconst 4, 1) := by decide +kernel
theorem dX12_byPictures_46 : decode cX12_byPictures 46 = .ok (.if_icmp .ne 7, 3) := by decide +kernel
theorem dX12_byPictures_49 : decode cX12_byPictures 49 = .ok (.iconst 0, 1) := by decide +kernel
theorem dX12_byPictures_50 : decode cX12_byPictures 50 = .ok (.goto 23, 3) := by decide +kernel
theorem dX12_byPictures_53 : decode cX12_byPictures 53 = .ok (.aload_n 1, 1) := by decide +kernel
theorem dX12_byPictures_54 : decode cX12_byPictures 54 = .ok (.iload_n 2, 1) := by decide +kernel
theorem dX12_byPictures_55 : decode cX12_byPictures 55 = .ok (.iload_n 3, 1) := by decide +kernel
theorem dX12_byPictures_56 : decode cX12_byPictures 56 = .ok (.aload 5, 2) := by decide +kernel
theorem dX12_byPictures_58 : decode cX12_byPictures 58 = .ok (.iload 6, 2) := by decide +kernel
theorem dX12_byPictures_60 : decode cX12_byPictures 60 = .ok (.iconst 2, 1) := by decide +kernel
theorem dX12_byPictures_61 : decode cX12_byPictures 61 = .ok (.iadd, 1) := by decide +kernel
theorem dX12_byPictures_62 : decode cX12_byPictures 62 = .ok (.iaload, 1) := by decide +kernel
theorem dX12_byPictures_63 : decode cX12_byPictures 63 = .ok (.aload 5, 2) := by decide +kernel
theorem dX12_byPictures_65 : decode cX12_byPictures 65 = .ok (.iload 6, 2) := by decide +kernel
theorem dX12_byPictures_67 : decode cX12_byPictures 67 = .ok (.iconst 3, 1) := by decide +kernel
theorem dX12_byPictures_68 : decode cX12_byPictures 68 = .ok (.iadd, 1) := by decide +kernel
theorem dX12_byPictures_69 : decode cX12_byPictures 69 = .ok (.iaload, 1) := by decide +kernel
theorem dX12_byPictures_70 : decode cX12_byPictures 70 = .ok (.invokestatic 151, 3) := by decide +kernel
theorem dX12_byPictures_73 : decode cX12_byPictures 73 = .ok (.istore 8, 2) := by decide +kernel
theorem dX12_byPictures_75 : decode cX12_byPictures 75 = .ok (.iload 4, 2) := by decide +kernel
theorem dX12_byPictures_77 : decode cX12_byPictures 77 = .ok (.iconst 4, 1) := by decide +kernel
theorem dX12_byPictures_78 : decode cX12_byPictures 78 = .ok (.if_icmp .ne 8, 3) := by decide +kernel
theorem dX12_byPictures_81 : decode cX12_byPictures 81 = .ok (.iload 7, 2) := by decide +kernel
theorem dX12_byPictures_83 : decode cX12_byPictures 83 = .ok (.goto 23, 3) := by decide +kernel
theorem dX12_byPictures_86 : decode cX12_byPictures 86 = .ok (.iload 4, 2) := by decide +kernel
theorem dX12_byPictures_88 : decode cX12_byPictures 88 = .ok (.iconst 5, 1) := by decide +kernel
theorem dX12_byPictures_89 : decode cX12_byPictures 89 = .ok (.if_icmp .ne 8, 3) := by decide +kernel
theorem dX12_byPictures_92 : decode cX12_byPictures 92 = .ok (.iload 8, 2) := by decide +kernel
theorem dX12_byPictures_94 : decode cX12_byPictures 94 = .ok (.goto 12, 3) := by decide +kernel
theorem dX12_byPictures_97 : decode cX12_byPictures 97 = .ok (.iload 7, 2) := by decide +kernel
theorem dX12_byPictures_99 : decode cX12_byPictures 99 = .ok (.iload 8, 2) := by decide +kernel
theorem dX12_byPictures_101 : decode cX12_byPictures 101 = .ok (.iadd, 1) := by decide +kernel
theorem dX12_byPictures_102 : decode cX12_byPictures 102 = .ok (.iconst 1, 1) := by decide +kernel
theorem dX12_byPictures_103 : decode cX12_byPictures 103 = .ok (.iadd, 1) := by decide +kernel
theorem dX12_byPictures_104 : decode cX12_byPictures 104 = .ok (.iconst 1, 1) := by decide +kernel
theorem dX12_byPictures_105 : decode cX12_byPictures 105 = .ok (.ishr, 1) := by decide +kernel
theorem dX12_byPictures_106 : decode cX12_byPictures 106 = .ok (.ireturn, 1) := by decide +kernel
theorem dX12_costOf_0 : decode cX12_costOf 0 = .ok (.iconst 0, 1) := by decide +kernel
theorem dX12_costOf_1 : decode cX12_costOf 1 = .ok (.istore 5, 2) := by decide +kernel
theorem dX12_costOf_3 : decode cX12_costOf 3 = .ok (.iconst 0, 1) := by decide +kernel
theorem dX12_costOf_4 : decode cX12_costOf 4 = .ok (.istore 6, 2) := by decide +kernel
theorem dX12_costOf_6 : decode cX12_costOf 6 = .ok (.iload 6, 2) := by decide +kernel
theorem dX12_costOf_8 : decode cX12_costOf 8 = .ok (.iload_n 3, 1) := by decide +kernel
theorem dX12_costOf_9 : decode cX12_costOf 9 = .ok (.iload_n 3, 1) := by decide +kernel
theorem dX12_costOf_10 : decode cX12_costOf 10 = .ok (.imul, 1) := by decide +kernel
theorem dX12_costOf_11 : decode cX12_costOf 11 = .ok (.if_icmp .ge 99, 3) := by decide +kernel
theorem dX12_costOf_14 : decode cX12_costOf 14 = .ok (.iload_n 1, 1) := by decide +kernel
theorem dX12_costOf_15 : decode cX12_costOf 15 = .ok (.iload 6, 2) := by decide +kernel
theorem dX12_costOf_17 : decode cX12_costOf 17 = .ok (.iload_n 3, 1) := by decide +kernel
theorem dX12_costOf_18 : decode cX12_costOf 18 = .ok (.irem, 1) := by decide +kernel
theorem dX12_costOf_19 : decode cX12_costOf 19 = .ok (.iadd, 1) := by decide +kernel
theorem dX12_costOf_20 : decode cX12_costOf 20 = .ok (.istore 7, 2) := by decide +kernel
theorem dX12_costOf_22 : decode cX12_costOf 22 = .ok (.iload_n 2, 1) := by decide +kernel
theorem dX12_costOf_23 : decode cX12_costOf 23 = .ok (.iload 6, 2) := by decide +kernel
theorem dX12_costOf_25 : decode cX12_costOf 25 = .ok (.iload_n 3, 1) := by decide +kernel
theorem dX12_costOf_26 : decode cX12_costOf 26 = .ok (.idiv, 1) := by decide +kernel
theorem dX12_costOf_27 : decode cX12_costOf 27 = .ok (.iadd, 1) := by decide +kernel
theorem dX12_costOf_28 : decode cX12_costOf 28 = .ok (.istore 8, 2) := by decide +kernel
theorem dX12_costOf_30 : decode cX12_costOf 30 = .ok (.iload 4, 2) := by decide +kernel
theorem dX12_costOf_32 : decode cX12_costOf 32 = .ok (.iconst 4, 1) := by decide +kernel
theorem dX12_costOf_33 : decode cX12_costOf 33 = .ok (.if_icmp .ge 24, 3) := by decide +kernel
theorem dX12_costOf_36 : decode cX12_costOf 36 = .ok (.aload_n 0, 1) := by decide +kernel
theorem dX12_costOf_37 : decode cX12_costOf 37 = .ok (.getfield 155, 3) := by decide +kernel
theorem dX12_costOf_40 : decode cX12_costOf 40 = .ok (.iload 7, 2) := by decide +kernel
theorem dX12_costOf_42 : decode cX12_costOf 42 = .ok (.iload 8, 2) := by decide +kernel
theorem dX12_costOf_44 : decode cX12_costOf 44 = .ok (.iload_n 3, 1) := by decide +kernel
theorem dX12_costOf_45 : decode cX12_costOf 45 = .ok (.iload 4, 2) := by decide +kernel
theorem dX12_costOf_47 : decode cX12_costOf 47 = .ok (.aload_n 0, 1) := by decide +kernel
theorem dX12_costOf_48 : decode cX12_costOf 48 = .ok (.getfield 29, 3) := by decide +kernel
theorem dX12_costOf_51 : decode cX12_costOf 51 = .ok (.invokestatic 158, 3) := by decide +kernel
theorem dX12_costOf_54 : decode cX12_costOf 54 = .ok (.goto 24, 3) := by decide +kernel
theorem dX12_costOf_57 : decode cX12_costOf 57 = .ok (.aload_n 0, 1) := by decide +kernel
theorem dX12_costOf_58 : decode cX12_costOf 58 = .ok (.getfield 162, 3) := by decide +kernel
theorem dX12_costOf_61 : decode cX12_costOf 61 = .ok (.aload_n 0, 1) := by decide +kernel
theorem dX12_costOf_62 : decode cX12_costOf 62 = .ok (.getfield 165, 3) := by decide +kernel
theorem dX12_costOf_65 : decode cX12_costOf 65 = .ok (.iload 7, 2) := by decide +kernel
theorem dX12_costOf_67 : decode cX12_costOf 67 = .ok (.iload 8, 2) := by decide +kernel
theorem dX12_costOf_69 : decode cX12_costOf 69 = .ok (.iload 4, 2) := by decide +kernel
theorem dX12_costOf_71 : decode cX12_costOf 71 = .ok (.aload_n 0, 1) := by decide +kernel
theorem dX12_costOf_72 : decode cX12_costOf 72 = .ok (.getfield 168, 3) := by decide +kernel
theorem dX12_costOf_75 : decode cX12_costOf 75 = .ok (.invokestatic 171, 3) := by decide +kernel
theorem dX12_costOf_78 : decode cX12_costOf 78 = .ok (.istore 9, 2) := by decide +kernel
theorem dX12_costOf_80 : decode cX12_costOf 80 = .ok (.iload 5, 2) := by decide +kernel
theorem dX12_costOf_82 : decode cX12_costOf 82 = .ok (.aload_n 0, 1) := by decide +kernel
theorem dX12_costOf_83 : decode cX12_costOf 83 = .ok (.getfield 18, 3) := by decide +kernel
theorem dX12_costOf_86 : decode cX12_costOf 86 = .ok (.bipush 16, 2) := by decide +kernel
theorem dX12_costOf_88 : decode cX12_costOf 88 = .ok (.iload 8, 2) := by decide +kernel
theorem dX12_costOf_90 : decode cX12_costOf 90 = .ok (.imul, 1) := by decide +kernel
theorem dX12_costOf_91 : decode cX12_costOf 91 = .ok (.iload 7, 2) := by decide +kernel
theorem dX12_costOf_93 : decode cX12_costOf 93 = .ok (.iadd, 1) := by decide +kernel
theorem dX12_costOf_94 : decode cX12_costOf 94 = .ok (.iaload, 1) := by decide +kernel
theorem dX12_costOf_95 : decode cX12_costOf 95 = .ok (.iload 9, 2) := by decide +kernel
theorem dX12_costOf_97 : decode cX12_costOf 97 = .ok (.isub, 1) := by decide +kernel
theorem dX12_costOf_98 : decode cX12_costOf 98 = .ok (.invokestatic 175, 3) := by decide +kernel
theorem dX12_costOf_101 : decode cX12_costOf 101 = .ok (.iadd, 1) := by decide +kernel
theorem dX12_costOf_102 : decode cX12_costOf 102 = .ok (.istore 5, 2) := by decide +kernel
theorem dX12_costOf_104 : decode cX12_costOf 104 = .ok (.iinc 6 1, 3) := by decide +kernel
theorem dX12_costOf_107 : decode cX12_costOf 107 = .ok (.goto (-101), 3) := by decide +kernel
theorem dX12_costOf_110 : decode cX12_costOf 110 = .ok (.iconst 4, 1) := by decide +kernel
theorem dX12_costOf_111 : decode cX12_costOf 111 = .ok (.iconst 4, 1) := by decide +kernel
theorem dX12_costOf_112 : decode cX12_costOf 112 = .ok (.iload_n 2, 1) := by decide +kernel
theorem dX12_costOf_113 : decode cX12_costOf 113 = .ok (.iconst 4, 1) := by decide +kernel
theorem dX12_costOf_114 : decode cX12_costOf 114 = .ok (.idiv, 1) := by decide +kernel
theorem dX12_costOf_115 : decode cX12_costOf 115 = .ok (.imul, 1) := by decide +kernel
theorem dX12_costOf_116 : decode cX12_costOf 116 = .ok (.iload_n 1, 1) := by decide +kernel
theorem dX12_costOf_117 : decode cX12_costOf 117 = .ok (.iconst 4, 1) := by decide +kernel
theorem dX12_costOf_118 : decode cX12_costOf 118 = .ok (.idiv, 1) := by decide +kernel
theorem dX12_costOf_119 : decode cX12_costOf 119 = .ok (.iadd, 1) := by decide +kernel
theorem dX12_costOf_120 : decode cX12_costOf 120 = .ok (.imul, 1) := by decide +kernel
theorem dX12_costOf_121 : decode cX12_costOf 121 = .ok (.istore 6, 2) := by decide +kernel
theorem dX12_costOf_123 : decode cX12_costOf 123 = .ok (.aload_n 0, 1) := by decide +kernel
theorem dX12_costOf_124 : decode cX12_costOf 124 = .ok (.getfield 168, 3) := by decide +kernel
theorem dX12_costOf_127 : decode cX12_costOf 127 = .ok (.iload 6, 2) := by decide +kernel
theorem dX12_costOf_129 : decode cX12_costOf 129 = .ok (.iaload, 1) := by decide +kernel
theorem dX12_costOf_130 : decode cX12_costOf 130 = .ok (.invokestatic 175, 3) := by decide +kernel
theorem dX12_costOf_133 : decode cX12_costOf 133 = .ok (.aload_n 0, 1) := by decide +kernel
theorem dX12_costOf_134 : decode cX12_costOf 134 = .ok (.getfield 168, 3) := by decide +kernel
theorem dX12_costOf_137 : decode cX12_costOf 137 = .ok (.iload 6, 2) := by decide +kernel
theorem dX12_costOf_139 : decode cX12_costOf 139 = .ok (.iconst 1, 1) := by decide +kernel
theorem dX12_costOf_140 : decode cX12_costOf 140 = .ok (.iadd, 1) := by decide +kernel
theorem dX12_costOf_141 : decode cX12_costOf 141 = .ok (.iaload, 1) := by decide +kernel
theorem dX12_costOf_142 : decode cX12_costOf 142 = .ok (.invokestatic 175, 3) := by decide +kernel
theorem dX12_costOf_145 : decode cX12_costOf 145 = .ok (.iadd, 1) := by decide +kernel
theorem dX12_costOf_146 : decode cX12_costOf 146 = .ok (.istore 7, 2) := by decide +kernel
theorem dX12_costOf_148 : decode cX12_costOf 148 = .ok (.aload_n 0, 1) := by decide +kernel
theorem dX12_costOf_149 : decode cX12_costOf 149 = .ok (.getfield 168, 3) := by decide +kernel
theorem dX12_costOf_152 : decode cX12_costOf 152 = .ok (.iload 6, 2) := by decide +kernel
theorem dX12_costOf_154 : decode cX12_costOf 154 = .ok (.iconst 2, 1) := by decide +kernel
theorem dX12_costOf_155 : decode cX12_costOf 155 = .ok (.iadd, 1) := by decide +kernel
theorem dX12_costOf_156 : decode cX12_costOf 156 = .ok (.iaload, 1) := by decide +kernel
theorem dX12_costOf_157 : decode cX12_costOf 157 = .ok (.invokestatic 175, 3) := by decide +kernel
theorem dX12_costOf_160 : decode cX12_costOf 160 = .ok (.aload_n 0, 1) := by decide +kernel
theorem dX12_costOf_161 : decode cX12_costOf 161 = .ok (.getfield 168, 3) := by decide +kernel
theorem dX12_costOf_164 : decode cX12_costOf 164 = .ok (.iload 6, 2) := by decide +kernel
theorem dX12_costOf_166 : decode cX12_costOf 166 = .ok (.iconst 3, 1) := by decide +kernel
theorem dX12_costOf_167 : decode cX12_costOf 167 = .ok (.iadd, 1) := by decide +kernel
theorem dX12_costOf_168 : decode cX12_costOf 168 = .ok (.iaload, 1) := by decide +kernel
theorem dX12_costOf_169 : decode cX12_costOf 169 = .ok (.invokestatic 175, 3) := by decide +kernel
theorem dX12_costOf_172 : decode cX12_costOf 172 = .ok (.iadd, 1) := by decide +kernel
theorem dX12_costOf_173 : decode cX12_costOf 173 = .ok (.istore 8, 2) := by decide +kernel
theorem dX12_costOf_175 : decode cX12_costOf 175 = .ok (.iload 5, 2) := by decide +kernel
theorem dX12_costOf_177 : decode cX12_costOf 177 = .ok (.iload 4, 2) := by decide +kernel
theorem dX12_costOf_179 : decode cX12_costOf 179 = .ok (.iconst 4, 1) := by decide +kernel
theorem dX12_costOf_180 : decode cX12_costOf 180 = .ok (.if_icmp .ge 10, 3) := by decide +kernel
theorem dX12_costOf_183 : decode cX12_costOf 183 = .ok (.iconst 2, 1) := by decide +kernel
theorem dX12_costOf_184 : decode cX12_costOf 184 = .ok (.iload 4, 2) := by decide +kernel
theorem dX12_costOf_186 : decode cX12_costOf 186 = .ok (.imul, 1) := by decide +kernel
theorem dX12_costOf_187 : decode cX12_costOf 187 = .ok (.goto 30, 3) := by decide +kernel
theorem dX12_costOf_190 : decode cX12_costOf 190 = .ok (.iload 4, 2) := by decide +kernel
theorem dX12_costOf_192 : decode cX12_costOf 192 = .ok (.iconst 4, 1) := by decide +kernel
theorem dX12_costOf_193 : decode cX12_costOf 193 = .ok (.if_icmp .ne 8, 3) := by decide +kernel
theorem dX12_costOf_196 : decode cX12_costOf 196 = .ok (.iload 7, 2) := by decide +kernel
theorem dX12_costOf_198 : decode cX12_costOf 198 = .ok (.goto 19, 3) := by decide +kernel
theorem dX12_costOf_201 : decode cX12_costOf 201 = .ok (.iload 4, 2) := by decide +kernel
theorem dX12_costOf_203 : decode cX12_costOf 203 = .ok (.iconst 5, 1) := by decide +kernel
theorem dX12_costOf_204 : decode cX12_costOf 204 = .ok (.if_icmp .ne 8, 3) := by decide +kernel
theorem dX12_costOf_207 : decode cX12_costOf 207 = .ok (.iload 8, 2) := by decide +kernel
theorem dX12_costOf_209 : decode cX12_costOf 209 = .ok (.goto 8, 3) := by decide +kernel
theorem dX12_costOf_212 : decode cX12_costOf 212 = .ok (.iload 7, 2) := by decide +kernel
theorem dX12_costOf_214 : decode cX12_costOf 214 = .ok (.iload 8, 2) := by decide +kernel
theorem dX12_costOf_216 : decode cX12_costOf 216 = .ok (.iadd, 1) := by decide +kernel
theorem dX12_costOf_217 : decode cX12_costOf 217 = .ok (.iadd, 1) := by decide +kernel
theorem dX12_costOf_218 : decode cX12_costOf 218 = .ok (.ireturn, 1) := by decide +kernel
theorem dX12_setsVector_0 : decode cX12_setsVector 0 = .ok (.iconst 0, 1) := by decide +kernel
theorem dX12_setsVector_1 : decode cX12_setsVector 1 = .ok (.istore 7, 2) := by decide +kernel
theorem dX12_setsVector_3 : decode cX12_setsVector 3 = .ok (.iload 7, 2) := by decide +kernel
theorem dX12_setsVector_5 : decode cX12_setsVector 5 = .ok (.iload_n 3, 1) := by decide +kernel
theorem dX12_setsVector_6 : decode cX12_setsVector 6 = .ok (.iload_n 3, 1) := by decide +kernel
theorem dX12_setsVector_7 : decode cX12_setsVector 7 = .ok (.imul, 1) := by decide +kernel
theorem dX12_setsVector_8 : decode cX12_setsVector 8 = .ok (.if_icmp .ge 55, 3) := by decide +kernel
theorem dX12_setsVector_11 : decode cX12_setsVector 11 = .ok (.iconst 4, 1) := by decide +kernel
theorem dX12_setsVector_12 : decode cX12_setsVector 12 = .ok (.iconst 4, 1) := by decide +kernel
theorem dX12_setsVector_13 : decode cX12_setsVector 13 = .ok (.iload_n 2, 1) := by decide +kernel
theorem dX12_setsVector_14 : decode cX12_setsVector 14 = .ok (.iload 7, 2) := by decide +kernel
theorem dX12_setsVector_16 : decode cX12_setsVector 16 = .ok (.iload_n 3, 1) := by decide +kernel
theorem dX12_setsVector_17 : decode cX12_setsVector 17 = .ok (.idiv, 1) := by decide +kernel
theorem dX12_setsVector_18 : decode cX12_setsVector 18 = .ok (.iadd, 1) := by decide +kernel
theorem dX12_setsVector_19 : decode cX12_setsVector 19 = .ok (.iconst 4, 1) := by decide +kernel
theorem dX12_setsVector_20 : decode cX12_setsVector 20 = .ok (.idiv, 1) := by decide +kernel
theorem dX12_setsVector_21 : decode cX12_setsVector 21 = .ok (.imul, 1) := by decide +kernel
theorem dX12_setsVector_22 : decode cX12_setsVector 22 = .ok (.iload_n 1, 1) := by decide +kernel
theorem dX12_setsVector_23 : decode cX12_setsVector 23 = .ok (.iload 7, 2) := by decide +kernel
theorem dX12_setsVector_25 : decode cX12_setsVector 25 = .ok (.iload_n 3, 1) := by decide +kernel
theorem dX12_setsVector_26 : decode cX12_setsVector 26 = .ok (.irem, 1) := by decide +kernel
theorem dX12_setsVector_27 : decode cX12_setsVector 27 = .ok (.iadd, 1) := by decide +kernel
theorem dX12_setsVector_28 : decode cX12_setsVector 28 = .ok (.iconst 4, 1) := by decide +kernel
theorem dX12_setsVector_29 : decode cX12_setsVector 29 = .ok (.idiv, 1) := by decide +kernel
theorem dX12_setsVector_30 : decode cX12_setsVector 30 = .ok (.iadd, 1) := by decide +kernel
theorem dX12_setsVector_31 : decode cX12_setsVector 31 = .ok (.imul, 1) := by decide +kernel
theorem dX12_setsVector_32 : decode cX12_setsVector 32 = .ok (.iload 4, 2) := by decide +kernel
theorem dX12_setsVector_34 : decode cX12_setsVector 34 = .ok (.iadd, 1) := by decide +kernel
theorem dX12_setsVector_35 : decode cX12_setsVector 35 = .ok (.istore 8, 2) := by decide +kernel
theorem dX12_setsVector_37 : decode cX12_setsVector 37 = .ok (.aload_n 0, 1) := by decide +kernel
theorem dX12_setsVector_38 : decode cX12_setsVector 38 = .ok (.getfield 168, 3) := by decide +kernel
theorem dX12_setsVector_41 : decode cX12_setsVector 41 = .ok (.iload 8, 2) := by decide +kernel
theorem dX12_setsVector_43 : decode cX12_setsVector 43 = .ok (.iload 5, 2) := by decide +kernel
theorem dX12_setsVector_45 : decode cX12_setsVector 45 = .ok (.iastore, 1) := by decide +kernel
theorem dX12_setsVector_46 : decode cX12_setsVector 46 = .ok (.aload_n 0, 1) := by decide +kernel
theorem dX12_setsVector_47 : decode cX12_setsVector 47 = .ok (.getfield 168, 3) := by decide +kernel
theorem dX12_setsVector_50 : decode cX12_setsVector 50 = .ok (.iload 8, 2) := by decide +kernel
theorem dX12_setsVector_52 : decode cX12_setsVector 52 = .ok (.iconst 1, 1) := by decide +kernel
theorem dX12_setsVector_53 : decode cX12_setsVector 53 = .ok (.iadd, 1) := by decide +kernel
theorem dX12_setsVector_54 : decode cX12_setsVector 54 = .ok (.iload 6, 2) := by decide +kernel
theorem dX12_setsVector_56 : decode cX12_setsVector 56 = .ok (.iastore, 1) := by decide +kernel
theorem dX12_setsVector_57 : decode cX12_setsVector 57 = .ok (.iinc 7 1, 3) := by decide +kernel
theorem dX12_setsVector_60 : decode cX12_setsVector 60 = .ok (.goto (-57), 3) := by decide +kernel
theorem dX12_setsVector_63 : decode cX12_setsVector 63 = .ok (.return_, 1) := by decide +kernel
theorem dX12_findsVector_0 : decode cX12_findsVector 0 = .ok (.aload_n 0, 1) := by decide +kernel
theorem dX12_findsVector_1 : decode cX12_findsVector 1 = .ok (.getfield 26, 3) := by decide +kernel
theorem dX12_findsVector_4 : decode cX12_findsVector 4 = .ok (.iconst 4, 1) := by decide +kernel
theorem dX12_findsVector_5 : decode cX12_findsVector 5 = .ok (.iand, 1) := by decide +kernel
theorem dX12_findsVector_6 : decode cX12_findsVector 6 = .ok (.ifCond .ne 7, 3) := by decide +kernel
theorem dX12_findsVector_9 : decode cX12_findsVector 9 = .ok (.iconst 2, 1) := by decide +kernel
theorem dX12_findsVector_10 : decode cX12_findsVector 10 = .ok (.goto 4, 3) := by decide +kernel
theorem dX12_findsVector_13 : decode cX12_findsVector 13 = .ok (.iconst 1, 1) := by decide +kernel
theorem dX12_findsVector_14 : decode cX12_findsVector 14 = .ok (.istore 5, 2) := by decide +kernel
theorem dX12_findsVector_16 : decode cX12_findsVector 16 = .ok (.ldc 180, 2) := by decide +kernel
theorem dX12_findsVector_18 : decode cX12_findsVector 18 = .ok (.istore 6, 2) := by decide +kernel
theorem dX12_findsVector_20 : decode cX12_findsVector 20 = .ok (.iconst 0, 1) := by decide +kernel
theorem dX12_findsVector_21 : decode cX12_findsVector 21 = .ok (.istore 7, 2) := by decide +kernel
theorem dX12_findsVector_23 : decode cX12_findsVector 23 = .ok (.iconst 0, 1) := by decide +kernel
theorem dX12_findsVector_24 : decode cX12_findsVector 24 = .ok (.istore 8, 2) := by decide +kernel
theorem dX12_findsVector_26 : decode cX12_findsVector 26 = .ok (.bipush (-8), 2) := by decide +kernel
theorem dX12_findsVector_28 : decode cX12_findsVector 28 = .ok (.istore 9, 2) := by decide +kernel
theorem dX12_findsVector_30 : decode cX12_findsVector 30 = .ok (.iload 9, 2) := by decide +kernel
theorem dX12_findsVector_32 : decode cX12_findsVector 32 = .ok (.bipush 8, 2) := by decide +kernel
theorem dX12_findsVector_34 : decode cX12_findsVector 34 = .ok (.if_icmp .gt 85, 3) := by decide +kernel
theorem dX12_findsVector_37 : decode cX12_findsVector 37 = .ok (.bipush (-8), 2) := by decide +kernel
theorem dX12_findsVector_39 : decode cX12_findsVector 39 = .ok (.istore 10, 2) := by decide +kernel
theorem dX12_findsVector_41 : decode cX12_findsVector 41 = .ok (.iload 10, 2) := by decide +kernel
theorem dX12_findsVector_43 : decode cX12_findsVector 43 = .ok (.bipush 8, 2) := by decide +kernel
theorem dX12_findsVector_45 : decode cX12_findsVector 45 = .ok (.if_icmp .gt 64, 3) := by decide +kernel
theorem dX12_findsVector_48 : decode cX12_findsVector 48 = .ok (.aload_n 0, 1) := by decide +kernel
theorem dX12_findsVector_49 : decode cX12_findsVector 49 = .ok (.iload_n 1, 1) := by decide +kernel
theorem dX12_findsVector_50 : decode cX12_findsVector 50 = .ok (.iload_n 2, 1) := by decide +kernel
theorem dX12_findsVector_51 : decode cX12_findsVector 51 = .ok (.iload_n 3, 1) := by decide +kernel
theorem dX12_findsVector_52 : decode cX12_findsVector 52 = .ok (.iload 4, 2) := by decide +kernel
theorem dX12_findsVector_54 : decode cX12_findsVector 54 = .ok (.iload 10, 2) := by decide +kernel
theorem dX12_findsVector_56 : decode cX12_findsVector 56 = .ok (.iload 9, 2) := by decide +kernel
theorem dX12_findsVector_58 : decode cX12_findsVector 58 = .ok (.invokevirtual 181, 3) := by decide +kernel
theorem dX12_findsVector_61 : decode cX12_findsVector 61 = .ok (.aload_n 0, 1) := by decide +kernel
theorem dX12_findsVector_62 : decode cX12_findsVector 62 = .ok (.iload_n 1, 1) := by decide +kernel
theorem dX12_findsVector_63 : decode cX12_findsVector 63 = .ok (.iload_n 2, 1) := by decide +kernel
theorem dX12_findsVector_64 : decode cX12_findsVector 64 = .ok (.iload_n 3, 1) := by decide +kernel
theorem dX12_findsVector_65 : decode cX12_findsVector 65 = .ok (.iload 4, 2) := by decide +kernel
theorem dX12_findsVector_67 : decode cX12_findsVector 67 = .ok (.ifCond .ne 7, 3) := by decide +kernel
theorem dX12_findsVector_70 : decode cX12_findsVector 70 = .ok (.iconst 4, 1) := by decide +kernel
theorem dX12_findsVector_71 : decode cX12_findsVector 71 = .ok (.goto 4, 3) := by decide +kernel
theorem dX12_findsVector_74 : decode cX12_findsVector 74 = .ok (.iconst 5, 1) := by decide +kernel
theorem dX12_findsVector_75 : decode cX12_findsVector 75 = .ok (.invokevirtual 185, 3) := by decide +kernel
theorem dX12_findsVector_78 : decode cX12_findsVector 78 = .ok (.istore 11, 2) := by decide +kernel
theorem dX12_findsVector_80 : decode cX12_findsVector 80 = .ok (.iload 11, 2) := by decide +kernel
theorem dX12_findsVector_82 : decode cX12_findsVector 82 = .ok (.iload 6, 2) := by decide +kernel
theorem dX12_findsVector_84 : decode cX12_findsVector 84 = .ok (.if_icmp .ge 15, 3) := by decide +kernel
theorem dX12_findsVector_87 : decode cX12_findsVector 87 = .ok (.iload 11, 2) := by decide +kernel
theorem dX12_findsVector_89 : decode cX12_findsVector 89 = .ok (.istore 6, 2) := by decide +kernel
theorem dX12_findsVector_91 : decode cX12_findsVector 91 = .ok (.iload 10, 2) := by decide +kernel
theorem dX12_findsVector_93 : decode cX12_findsVector 93 = .ok (.istore 7, 2) := by decide +kernel
theorem dX12_findsVector_95 : decode cX12_findsVector 95 = .ok (.iload 9, 2) := by decide +kernel
theorem dX12_findsVector_97 : decode cX12_findsVector 97 = .ok (.istore 8, 2) := by decide +kernel
theorem dX12_findsVector_99 : decode cX12_findsVector 99 = .ok (.iload 10, 2) := by decide +kernel
theorem dX12_findsVector_101 : decode cX12_findsVector 101 = .ok (.iload 5, 2) := by decide +kernel
theorem dX12_findsVector_103 : decode cX12_findsVector 103 = .ok (.iadd, 1) := by decide +kernel
theorem dX12_findsVector_104 : decode cX12_findsVector 104 = .ok (.istore 10, 2) := by decide +kernel
theorem dX12_findsVector_106 : decode cX12_findsVector 106 = .ok (.goto (-65), 3) := by decide +kernel
theorem dX12_findsVector_109 : decode cX12_findsVector 109 = .ok (.iload 9, 2) := by decide +kernel
theorem dX12_findsVector_111 : decode cX12_findsVector 111 = .ok (.iload 5, 2) := by decide +kernel
theorem dX12_findsVector_113 : decode cX12_findsVector 113 = .ok (.iadd, 1) := by decide +kernel
theorem dX12_findsVector_114 : decode cX12_findsVector 114 = .ok (.istore 9, 2) := by decide +kernel
theorem dX12_findsVector_116 : decode cX12_findsVector 116 = .ok (.goto (-86), 3) := by decide +kernel
theorem dX12_findsVector_119 : decode cX12_findsVector 119 = .ok (.aload_n 0, 1) := by decide +kernel
theorem dX12_findsVector_120 : decode cX12_findsVector 120 = .ok (.iload_n 1, 1) := by decide +kernel
theorem dX12_findsVector_121 : decode cX12_findsVector 121 = .ok (.iload_n 2, 1) := by decide +kernel
theorem dX12_findsVector_122 : decode cX12_findsVector 122 = .ok (.iload_n 3, 1) := by decide +kernel
theorem dX12_findsVector_123 : decode cX12_findsVector 123 = .ok (.iload 4, 2) := by decide +kernel
theorem dX12_findsVector_125 : decode cX12_findsVector 125 = .ok (.iload 7, 2) := by decide +kernel
theorem dX12_findsVector_127 : decode cX12_findsVector 127 = .ok (.iload 8, 2) := by decide +kernel
theorem dX12_findsVector_129 : decode cX12_findsVector 129 = .ok (.invokevirtual 181, 3) := by decide +kernel
theorem dX12_findsVector_132 : decode cX12_findsVector 132 = .ok (.return_, 1) := by decide +kernel
theorem dX12_modeFor_0 : decode cX12_modeFor 0 = .ok (.aload_n 0, 1) := by decide +kernel
theorem dX12_modeFor_1 : decode cX12_modeFor 1 = .ok (.getfield 189, 3) := by decide +kernel
theorem dX12_modeFor_4 : decode cX12_modeFor 4 = .ok (.bipush 105, 2) := by decide +kernel
theorem dX12_modeFor_6 : decode cX12_modeFor 6 = .ok (.if_icmp .ne 7, 3) := by decide +kernel
theorem dX12_modeFor_9 : decode cX12_modeFor 9 = .ok (.iconst 3, 1) := by decide +kernel
theorem dX12_modeFor_10 : decode cX12_modeFor 10 = .ok (.goto 18, 3) := by decide +kernel
theorem dX12_modeFor_13 : decode cX12_modeFor 13 = .ok (.aload_n 0, 1) := by decide +kernel
theorem dX12_modeFor_14 : decode cX12_modeFor 14 = .ok (.getfield 189, 3) := by decide +kernel
theorem dX12_modeFor_17 : decode cX12_modeFor 17 = .ok (.bipush 112, 2) := by decide +kernel
theorem dX12_modeFor_19 : decode cX12_modeFor 19 = .ok (.if_icmp .ne 7, 3) := by decide +kernel
theorem dX12_modeFor_22 : decode cX12_modeFor 22 = .ok (.iconst 4, 1) := by decide +kernel
theorem dX12_modeFor_23 : decode cX12_modeFor 23 = .ok (.goto 5, 3) := by decide +kernel
theorem dX12_modeFor_26 : decode cX12_modeFor 26 = .ok (.bipush 6, 2) := by decide +kernel
