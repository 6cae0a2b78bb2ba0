theorem dX12_findHearts_7 : decode cX12_findHearts 7 = .ok (.iload_n 1, 1) := by decide +kernel
theorem dX12_findHearts_8 : decode cX12_findHearts 8 = .ok (.bipush 64, 2) := by decide +kernel
theorem dX12_findHearts_10 : decode cX12_findHearts 10 = .ok (.if_icmp .ge 41, 3) := by decide +kernel
theorem dX12_findHearts_13 : decode cX12_findHearts 13 = .ok (.aload_n 0, 1) := by decide +kernel
theorem dX12_findHearts_14 : decode cX12_findHearts 14 = .ok (.iload_n 1, 1) := by decide +kernel
theorem dX12_findHearts_15 : decode cX12_findHearts 15 = .ok (.invokevirtual 449, 3) := by decide +kernel
theorem dX12_findHearts_18 : decode cX12_findHearts 18 = .ok (.aload_n 0, 1) := by decide +kernel
theorem dX12_findHearts_19 : decode cX12_findHearts 19 = .ok (.invokevirtual 431, 3) := by decide +kernel
theorem dX12_findHearts_22 : decode cX12_findHearts 22 = .ok (.if_icmp .gt 23, 3) := by decide +kernel
theorem dX12_findHearts_25 : decode cX12_findHearts 25 = .ok (.aload_n 0, 1) := by decide +kernel
theorem dX12_findHearts_26 : decode cX12_findHearts 26 = .ok (.getfield 62, 3) := by decide +kernel
theorem dX12_findHearts_29 : decode cX12_findHearts 29 = .ok (.aload_n 0, 1) := by decide +kernel
theorem dX12_findHearts_30 : decode cX12_findHearts 30 = .ok (.getfield 446, 3) := by decide +kernel
theorem dX12_findHearts_33 : decode cX12_findHearts 33 = .ok (.iload_n 1, 1) := by decide +kernel
theorem dX12_findHearts_34 : decode cX12_findHearts 34 = .ok (.iastore, 1) := by decide +kernel
theorem dX12_findHearts_35 : decode cX12_findHearts 35 = .ok (.aload_n 0, 1) := by decide +kernel
theorem dX12_findHearts_36 : decode cX12_findHearts 36 = .ok (.dup, 1) := by decide +kernel
theorem dX12_findHearts_37 : decode cX12_findHearts 37 = .ok (.getfield 446, 3) := by decide +kernel
theorem dX12_findHearts_40 : decode cX12_findHearts 40 = .ok (.iconst 1, 1) := by decide +kernel
theorem dX12_findHearts_41 : decode cX12_findHearts 41 = .ok (.iadd, 1) := by decide +kernel
theorem dX12_findHearts_42 : decode cX12_findHearts 42 = .ok (.putfield 446, 3) := by decide +kernel
theorem dX12_findHearts_45 : decode cX12_findHearts 45 = .ok (.iinc 1 1, 3) := by decide +kernel
theorem dX12_findHearts_48 : decode cX12_findHearts 48 = .ok (.goto (-41), 3) := by decide +kernel
theorem dX12_findHearts_51 : decode cX12_findHearts 51 = .ok (.return_, 1) := by decide +kernel
theorem dX12_layLog_0 : decode cX12_layLog 0 = .ok (.aload_n 0, 1) := by decide +kernel
theorem dX12_layLog_1 : decode cX12_layLog 1 = .ok (.iload_n 1, 1) := by decide +kernel
theorem dX12_layLog_2 : decode cX12_layLog 2 = .ok (.invokevirtual 428, 3) := by decide +kernel
theorem dX12_layLog_5 : decode cX12_layLog 5 = .ok (.ifCond .ne 5, 3) := by decide +kernel
theorem dX12_layLog_8 : decode cX12_layLog 8 = .ok (.iconst 0, 1) := by decide +kernel
theorem dX12_layLog_9 : decode cX12_layLog 9 = .ok (.ireturn, 1) := by decide +kernel
theorem dX12_layLog_10 : decode cX12_layLog 10 = .ok (.aload_n 0, 1) := by decide +kernel
theorem dX12_layLog_11 : decode cX12_layLog 11 = .ok (.iconst (-1), 1) := by decide +kernel
theorem dX12_layLog_12 : decode cX12_layLog 12 = .ok (.putfield 443, 3) := by decide +kernel
theorem dX12_layLog_15 : decode cX12_layLog 15 = .ok (.aload_n 0, 1) := by decide +kernel
theorem dX12_layLog_16 : decode cX12_layLog 16 = .ok (.invokevirtual 452, 3) := by decide +kernel
theorem dX12_layLog_19 : decode cX12_layLog 19 = .ok (.iconst 1, 1) := by decide +kernel
theorem dX12_layLog_20 : decode cX12_layLog 20 = .ok (.ireturn, 1) := by decide +kernel
theorem dX12_manyHalt_0 : decode cX12_manyHalt 0 = .ok (.iconst 0, 1) := by decide +kernel
theorem dX12_manyHalt_1 : decode cX12_manyHalt 1 = .ok (.istore_n 2, 1) := by decide +kernel
theorem dX12_manyHalt_2 : decode cX12_manyHalt 2 = .ok (.iconst 0, 1) := by decide +kernel
theorem dX12_manyHalt_3 : decode cX12_manyHalt 3 = .ok (.istore_n 3, 1) := by decide +kernel
theorem dX12_manyHalt_4 : decode cX12_manyHalt 4 = .ok (.iload_n 3, 1) := by decide +kernel
theorem dX12_manyHalt_5 : decode cX12_manyHalt 5 = .ok (.aload_n 0, 1) := by decide +kernel
theorem dX12_manyHalt_6 : decode cX12_manyHalt 6 = .ok (.getfield 446, 3) := by decide +kernel
theorem dX12_manyHalt_9 : decode cX12_manyHalt 9 = .ok (.if_icmp .ge 30, 3) := by decide +kernel
theorem dX12_manyHalt_12 : decode cX12_manyHalt 12 = .ok (.iload_n 2, 1) := by decide +kernel
theorem dX12_manyHalt_13 : decode cX12_manyHalt 13 = .ok (.aload_n 0, 1) := by decide +kernel
theorem dX12_manyHalt_14 : decode cX12_manyHalt 14 = .ok (.getfield 62, 3) := by decide +kernel
theorem dX12_manyHalt_17 : decode cX12_manyHalt 17 = .ok (.iload_n 3, 1) := by decide +kernel
theorem dX12_manyHalt_18 : decode cX12_manyHalt 18 = .ok (.iaload, 1) := by decide +kernel
theorem dX12_manyHalt_19 : decode cX12_manyHalt 19 = .ok (.iload_n 1, 1) := by decide +kernel
theorem dX12_manyHalt_20 : decode cX12_manyHalt 20 = .ok (.invokestatic 440, 3) := by decide +kernel
theorem dX12_manyHalt_23 : decode cX12_manyHalt 23 = .ok (.ifCond .eq 7, 3) := by decide +kernel
theorem dX12_manyHalt_26 : decode cX12_manyHalt 26 = .ok (.iconst 1, 1) := by decide +kernel
theorem dX12_manyHalt_27 : decode cX12_manyHalt 27 = .ok (.goto 4, 3) := by decide +kernel
theorem dX12_manyHalt_30 : decode cX12_manyHalt 30 = .ok (.iconst 0, 1) := by decide +kernel
theorem dX12_manyHalt_31 : decode cX12_manyHalt 31 = .ok (.iadd, 1) := by decide +kernel
theorem dX12_manyHalt_32 : decode cX12_manyHalt 32 = .ok (.istore_n 2, 1) := by decide +kernel
theorem dX12_manyHalt_33 : decode cX12_manyHalt 33 = .ok (.iinc 3 1, 3) := by decide +kernel
theorem dX12_manyHalt_36 : decode cX12_manyHalt 36 = .ok (.goto (-32), 3) := by decide +kernel
theorem dX12_manyHalt_39 : decode cX12_manyHalt 39 = .ok (.iload_n 2, 1) := by decide +kernel
theorem dX12_manyHalt_40 : decode cX12_manyHalt 40 = .ok (.ireturn, 1) := by decide +kernel
theorem dX12_askWhat_0 : decode cX12_askWhat 0 = .ok (.iconst (-1), 1) := by decide +kernel
theorem dX12_askWhat_1 : decode cX12_askWhat 1 = .ok (.istore_n 1, 1) := by decide +kernel
theorem dX12_askWhat_2 : decode cX12_askWhat 2 = .ok (.ldc_w 353, 3) := by decide +kernel
theorem dX12_askWhat_5 : decode cX12_askWhat 5 = .ok (.istore_n 2, 1) := by decide +kernel
theorem dX12_askWhat_6 : decode cX12_askWhat 6 = .ok (.iconst 1, 1) := by decide +kernel
theorem dX12_askWhat_7 : decode cX12_askWhat 7 = .ok (.istore_n 3, 1) := by decide +kernel
theorem dX12_askWhat_8 : decode cX12_askWhat 8 = .ok (.iload_n 3, 1) := by decide +kernel
theorem dX12_askWhat_9 : decode cX12_askWhat 9 = .ok (.bipush 64, 2) := by decide +kernel
theorem dX12_askWhat_11 : decode cX12_askWhat 11 = .ok (.if_icmp .ge 55, 3) := by decide +kernel
theorem dX12_askWhat_14 : decode cX12_askWhat 14 = .ok (.aload_n 0, 1) := by decide +kernel
theorem dX12_askWhat_15 : decode cX12_askWhat 15 = .ok (.getfield 446, 3) := by decide +kernel
theorem dX12_askWhat_18 : decode cX12_askWhat 18 = .ok (.ifCond .le 48, 3) := by decide +kernel
theorem dX12_askWhat_21 : decode cX12_askWhat 21 = .ok (.aload_n 0, 1) := by decide +kernel
theorem dX12_askWhat_22 : decode cX12_askWhat 22 = .ok (.iload_n 3, 1) := by decide +kernel
theorem dX12_askWhat_23 : decode cX12_askWhat 23 = .ok (.invokevirtual 455, 3) := by decide +kernel
theorem dX12_askWhat_26 : decode cX12_askWhat 26 = .ok (.aload_n 0, 1) := by decide +kernel
theorem dX12_askWhat_27 : decode cX12_askWhat 27 = .ok (.getfield 446, 3) := by decide +kernel
theorem dX12_askWhat_30 : decode cX12_askWhat 30 = .ok (.aload_n 0, 1) := by decide +kernel
theorem dX12_askWhat_31 : decode cX12_askWhat 31 = .ok (.iload_n 3, 1) := by decide +kernel
theorem dX12_askWhat_32 : decode cX12_askWhat 32 = .ok (.invokevirtual 455, 3) := by decide +kernel
theorem dX12_askWhat_35 : decode cX12_askWhat 35 = .ok (.isub, 1) := by decide +kernel
theorem dX12_askWhat_36 : decode cX12_askWhat 36 = .ok (.invokestatic 153, 3) := by decide +kernel
theorem dX12_askWhat_39 : decode cX12_askWhat 39 = .ok (.istore 4, 2) := by decide +kernel
theorem dX12_askWhat_41 : decode cX12_askWhat 41 = .ok (.iload 4, 2) := by decide +kernel
theorem dX12_askWhat_43 : decode cX12_askWhat 43 = .ok (.iload_n 2, 1) := by decide +kernel
theorem dX12_askWhat_44 : decode cX12_askWhat 44 = .ok (.if_icmp .ge 7, 3) := by decide +kernel
theorem dX12_askWhat_47 : decode cX12_askWhat 47 = .ok (.iload_n 3, 1) := by decide +kernel
theorem dX12_askWhat_48 : decode cX12_askWhat 48 = .ok (.goto 4, 3) := by decide +kernel
theorem dX12_askWhat_51 : decode cX12_askWhat 51 = .ok (.iload_n 1, 1) := by decide +kernel
theorem dX12_askWhat_52 : decode cX12_askWhat 52 = .ok (.istore_n 1, 1) := by decide +kernel
theorem dX12_askWhat_53 : decode cX12_askWhat 53 = .ok (.iload_n 2, 1) := by decide +kernel
theorem dX12_askWhat_54 : decode cX12_askWhat 54 = .ok (.iload 4, 2) := by decide +kernel
theorem dX12_askWhat_56 : decode cX12_askWhat 56 = .ok (.invokestatic 209, 3) := by decide +kernel
theorem dX12_askWhat_59 : decode cX12_askWhat 59 = .ok (.istore_n 2, 1) := by decide +kernel
theorem dX12_askWhat_60 : decode cX12_askWhat 60 = .ok (.iinc 3 1, 3) := by decide +kernel
theorem dX12_askWhat_63 : decode cX12_askWhat 63 = .ok (.goto (-55), 3) := by decide +kernel
theorem dX12_askWhat_66 : decode cX12_askWhat 66 = .ok (.iload_n 1, 1) := by decide +kernel
theorem dX12_askWhat_67 : decode cX12_askWhat 67 = .ok (.ireturn, 1) := by decide +kernel
theorem dX12_sure_0 : decode cX12_sure 0 = .ok (.aload_n 0, 1) := by decide +kernel
theorem dX12_sure_1 : decode cX12_sure 1 = .ok (.iconst 1, 1) := by decide +kernel
theorem dX12_sure_2 : decode cX12_sure 2 = .ok (.iload_n 1, 1) := by decide +kernel
theorem dX12_sure_3 : decode cX12_sure 3 = .ok (.ishl, 1) := by decide +kernel
theorem dX12_sure_4 : decode cX12_sure 4 = .ok (.invokevirtual 455, 3) := by decide +kernel
theorem dX12_sure_7 : decode cX12_sure 7 = .ok (.istore_n 2, 1) := by decide +kernel
theorem dX12_sure_8 : decode cX12_sure 8 = .ok (.aload_n 0, 1) := by decide +kernel
theorem dX12_sure_9 : decode cX12_sure 9 = .ok (.getfield 446, 3) := by decide +kernel
theorem dX12_sure_12 : decode cX12_sure 12 = .ok (.ifCond .ne 7, 3) := by decide +kernel
theorem dX12_sure_15 : decode cX12_sure 15 = .ok (.iconst (-1), 1) := by decide +kernel
theorem dX12_sure_16 : decode cX12_sure 16 = .ok (.goto 24, 3) := by decide +kernel
theorem dX12_sure_19 : decode cX12_sure 19 = .ok (.iload_n 2, 1) := by decide +kernel
theorem dX12_sure_20 : decode cX12_sure 20 = .ok (.aload_n 0, 1) := by decide +kernel
theorem dX12_sure_21 : decode cX12_sure 21 = .ok (.getfield 446, 3) := by decide +kernel
theorem dX12_sure_24 : decode cX12_sure 24 = .ok (.if_icmp .ne 7, 3) := by decide +kernel
theorem dX12_sure_27 : decode cX12_sure 27 = .ok (.iconst 1, 1) := by decide +kernel
theorem dX12_sure_28 : decode cX12_sure 28 = .ok (.goto 12, 3) := by decide +kernel
theorem dX12_sure_31 : decode cX12_sure 31 = .ok (.iload_n 2, 1) := by decide +kernel
theorem dX12_sure_32 : decode cX12_sure 32 = .ok (.ifCond .ne 7, 3) := by decide +kernel
theorem dX12_sure_35 : decode cX12_sure 35 = .ok (.iconst 0, 1) := by decide +kernel
theorem dX12_sure_36 : decode cX12_sure 36 = .ok (.goto 4, 3) := by decide +kernel
theorem dX12_sure_39 : decode cX12_sure 39 = .ok (.iconst (-1), 1) := by decide +kernel
theorem dX12_sure_40 : decode cX12_sure 40 = .ok (.ireturn, 1) := by decide +kernel
theorem dX12_fits_0 : decode cX12_fits 0 = .ok (.aload_n 0, 1) := by decide +kernel
theorem dX12_fits_1 : decode cX12_fits 1 = .ok (.iconst 0, 1) := by decide +kernel
theorem dX12_fits_2 : decode cX12_fits 2 = .ok (.putfield 72, 3) := by decide +kernel
theorem dX12_fits_5 : decode cX12_fits 5 = .ok (.aload_n 0, 1) := by decide +kernel
theorem dX12_fits_6 : decode cX12_fits 6 = .ok (.iload_n 1, 1) := by decide +kernel
theorem dX12_fits_7 : decode cX12_fits 7 = .ok (.invokevirtual 458, 3) := by decide +kernel
theorem dX12_fits_10 : decode cX12_fits 10 = .ok (.ifCond .ne 6, 3) := by decide +kernel
theorem dX12_fits_13 : decode cX12_fits 13 = .ok (.bipush (-2), 2) := by decide +kernel
theorem dX12_fits_15 : decode cX12_fits 15 = .ok (.ireturn, 1) := by decide +kernel
theorem dX12_fits_16 : decode cX12_fits 16 = .ok (.iload_n 2, 1) := by decide +kernel
theorem dX12_fits_17 : decode cX12_fits 17 = .ok (.bipush 10, 2) := by decide +kernel
theorem dX12_fits_19 : decode cX12_fits 19 = .ok (.if_icmp .lt 29, 3) := by decide +kernel
theorem dX12_fits_22 : decode cX12_fits 22 = .ok (.iload_n 2, 1) := by decide +kernel
theorem dX12_fits_23 : decode cX12_fits 23 = .ok (.bipush 10, 2) := by decide +kernel
theorem dX12_fits_25 : decode cX12_fits 25 = .ok (.isub, 1) := by decide +kernel
theorem dX12_fits_26 : decode cX12_fits 26 = .ok (.aload_n 0, 1) := by decide +kernel
theorem dX12_fits_27 : decode cX12_fits 27 = .ok (.getfield 446, 3) := by decide +kernel
theorem dX12_fits_30 : decode cX12_fits 30 = .ok (.if_icmp .ge 15, 3) := by decide +kernel
theorem dX12_fits_33 : decode cX12_fits 33 = .ok (.aload_n 0, 1) := by decide +kernel
theorem dX12_fits_34 : decode cX12_fits 34 = .ok (.getfield 62, 3) := by decide +kernel
theorem dX12_fits_37 : decode cX12_fits 37 = .ok (.iload_n 2, 1) := by decide +kernel
theorem dX12_fits_38 : decode cX12_fits 38 = .ok (.bipush 10, 2) := by decide +kernel
theorem dX12_fits_40 : decode cX12_fits 40 = .ok (.isub, 1) := by decide +kernel
theorem dX12_fits_41 : decode cX12_fits 41 = .ok (.iaload, 1) := by decide +kernel
theorem dX12_fits_42 : decode cX12_fits 42 = .ok (.goto 5, 3) := by decide +kernel
theorem dX12_fits_45 : decode cX12_fits 45 = .ok (.bipush (-2), 2) := by decide +kernel
theorem dX12_fits_47 : decode cX12_fits 47 = .ok (.ireturn, 1) := by decide +kernel
theorem dX12_fits_48 : decode cX12_fits 48 = .ok (.iload_n 2, 1) := by decide +kernel
theorem dX12_fits_49 : decode cX12_fits 49 = .ok (.iconst 2, 1) := by decide +kernel
theorem dX12_fits_50 : decode cX12_fits 50 = .ok (.bipush 7, 2) := by decide +kernel
theorem dX12_fits_52 : decode cX12_fits 52 = .ok (.invokestatic 84, 3) := by decide +kernel
theorem dX12_fits_55 : decode cX12_fits 55 = .ok (.ifCond .eq 11, 3) := by decide +kernel
theorem dX12_fits_58 : decode cX12_fits 58 = .ok (.aload_n 0, 1) := by decide +kernel
theorem dX12_fits_59 : decode cX12_fits 59 = .ok (.iload_n 2, 1) := by decide +kernel
theorem dX12_fits_60 : decode cX12_fits 60 = .ok (.iconst 2, 1) := by decide +kernel
theorem dX12_fits_61 : decode cX12_fits 61 = .ok (.isub, 1) := by decide +kernel
theorem dX12_fits_62 : decode cX12_fits 62 = .ok (.invokevirtual 461, 3) := by decide +kernel
theorem dX12_fits_65 : decode cX12_fits 65 = .ok (.ireturn, 1) := by decide +kernel
theorem dX12_fits_66 : decode cX12_fits 66 = .ok (.iload_n 2, 1) := by decide +kernel
theorem dX12_fits_67 : decode cX12_fits 67 = .ok (.ifCond .ne 10, 3) := by decide +kernel
theorem dX12_fits_70 : decode cX12_fits 70 = .ok (.aload_n 0, 1) := by decide +kernel
theorem dX12_fits_71 : decode cX12_fits 71 = .ok (.getfield 446, 3) := by decide +kernel
theorem dX12_fits_74 : decode cX12_fits 74 = .ok (.goto 17, 3) := by decide +kernel
theorem dX12_fits_77 : decode cX12_fits 77 = .ok (.iload_n 2, 1) := by decide +kernel
theorem dX12_fits_78 : decode cX12_fits 78 = .ok (.iconst 1, 1) := by decide +kernel
theorem dX12_fits_79 : decode cX12_fits 79 = .ok (.if_icmp .ne 10, 3) := by decide +kernel
theorem dX12_fits_82 : decode cX12_fits 82 = .ok (.aload_n 0, 1) := by decide +kernel
theorem dX12_fits_83 : decode cX12_fits 83 = .ok (.invokevirtual 464, 3) := by decide +kernel
theorem dX12_fits_86 : decode cX12_fits 86 = .ok (.goto 5, 3) := by decide +kernel
theorem dX12_fits_89 : decode cX12_fits 89 = .ok (.bipush (-2), 2) := by decide +kernel
theorem dX12_fits_91 : decode cX12_fits 91 = .ok (.ireturn, 1) := by decide +kernel
theorem dX12_draw_0 : decode cX12_draw 0 = .ok (.aload_n 0, 1) := by decide +kernel
theorem dX12_draw_1 : decode cX12_draw 1 = .ok (.aload_n 0, 1) := by decide +kernel
theorem dX12_draw_2 : decode cX12_draw 2 = .ok (.getfield 467, 3) := by decide +kernel
theorem dX12_draw_5 : decode cX12_draw 5 = .ok (.ldc_w 470, 3) := by decide +kernel
theorem dX12_draw_8 : decode cX12_draw 8 = .ok (.imul, 1) := by decide +kernel
theorem dX12_draw_9 : decode cX12_draw 9 = .ok (.sipush 12345, 3) := by decide +kernel
theorem dX12_draw_12 : decode cX12_draw 12 = .ok (.iadd, 1) := by decide +kernel
theorem dX12_draw_13 : decode cX12_draw 13 = .ok (.putfield 467, 3) := by decide +kernel
theorem dX12_draw_16 : decode cX12_draw 16 = .ok (.aload_n 0, 1) := by decide +kernel
theorem dX12_draw_17 : decode cX12_draw 17 = .ok (.getfield 467, 3) := by decide +kernel
theorem dX12_draw_20 : decode cX12_draw 20 = .ok (.bipush 16, 2) := by decide +kernel
theorem dX12_draw_22 : decode cX12_draw 22 = .ok (.iushr, 1) := by decide +kernel
theorem dX12_draw_23 : decode cX12_draw 23 = .ok (.iload_n 1, 1) := by decide +kernel
theorem dX12_draw_24 : decode cX12_draw 24 = .ok (.irem, 1) := by decide +kernel
theorem dX12_draw_25 : decode cX12_draw 25 = .ok (.ireturn, 1) := by decide +kernel
theorem dX12_drawDeed_0 : decode cX12_drawDeed 0 = .ok (.aload_n 0, 1) := by decide +kernel
theorem dX12_drawDeed_1 : decode cX12_drawDeed 1 = .ok (.bipush 10, 2) := by decide +kernel
theorem dX12_drawDeed_3 : decode cX12_drawDeed 3 = .ok (.invokevirtual 471, 3) := by decide +kernel
theorem dX12_drawDeed_6 : decode cX12_drawDeed 6 = .ok (.istore_n 1, 1) := by decide +kernel
theorem dX12_drawDeed_7 : decode cX12_drawDeed 7 = .ok (.iload_n 1, 1) := by decide +kernel
theorem dX12_drawDeed_8 : decode cX12_drawDeed 8 = .ok (.iconst 3, 1) := by decide +kernel
theorem dX12_drawDeed_9 : decode cX12_drawDeed 9 = .ok (.if_icmp .lt 9, 3) := by decide +kernel
theorem dX12_drawDeed_12 : decode cX12_drawDeed 12 = .ok (.iload_n 1, 1) := by decide +kernel
theorem dX12_drawDeed_13 : decode cX12_drawDeed 13 = .ok (.bipush 9, 2) := by decide +kernel
theorem dX12_drawDeed_15 : decode cX12_drawDeed 15 = .ok (.if_icmp .ne 23, 3) := by decide +kernel
theorem dX12_drawDeed_18 : decode cX12_drawDeed 18 = .ok (.aload_n 0, 1) := by decide +kernel
theorem dX12_drawDeed_19 : decode cX12_drawDeed 19 = .ok (.iload_n 1, 1) := by decide +kernel
theorem dX12_drawDeed_20 : decode cX12_drawDeed 20 = .ok (.bipush 9, 2) := by decide +kernel
theorem dX12_drawDeed_22 : decode cX12_drawDeed 22 = .ok (.if_icmp .ne 7, 3) := by decide +kernel
theorem dX12_drawDeed_25 : decode cX12_drawDeed 25 = .ok (.iconst 1, 1) := by decide +kernel
theorem dX12_drawDeed_26 : decode cX12_drawDeed 26 = .ok (.goto 4, 3) := by decide +kernel
theorem dX12_drawDeed_29 : decode cX12_drawDeed 29 = .ok (.iconst 0, 1) := by decide +kernel
theorem dX12_drawDeed_30 : decode cX12_drawDeed 30 = .ok (.iconst (-1), 1) := by decide +kernel
theorem dX12_drawDeed_31 : decode cX12_drawDeed 31 = .ok (.iconst (-1), 1) := by decide +kernel
theorem dX12_drawDeed_32 : decode cX12_drawDeed 32 = .ok (.iconst (-1), 1) := by decide +kernel
theorem dX12_drawDeed_33 : decode cX12_drawDeed 33 = .ok (.invokevirtual 337, 3) := by decide +kernel
theorem dX12_drawDeed_36 : decode cX12_drawDeed 36 = .ok (.pop, 1) := by decide +kernel
theorem dX12_drawDeed_37 : decode cX12_drawDeed 37 = .ok (.return_, 1) := by decide +kernel
theorem dX12_drawDeed_38 : decode cX12_drawDeed 38 = .ok (.aload_n 0, 1) := by decide +kernel
theorem dX12_drawDeed_39 : decode cX12_drawDeed 39 = .ok (.getfield 251, 3) := by decide +kernel
theorem dX12_drawDeed_42 : decode cX12_drawDeed 42 = .ok (.ifCond .ne 4, 3) := by decide +kernel
theorem dX12_drawDeed_45 : decode cX12_drawDeed 45 = .ok (.return_, 1) := by decide +kernel
theorem dX12_drawDeed_46 : decode cX12_drawDeed 46 = .ok (.aload_n 0, 1) := by decide +kernel
theorem dX12_drawDeed_47 : decode cX12_drawDeed 47 = .ok (.aload_n 0, 1) := by decide +kernel
theorem dX12_drawDeed_48 : decode cX12_drawDeed 48 = .ok (.getfield 251, 3) := by decide +kernel
theorem dX12_drawDeed_51 : decode cX12_drawDeed 51 = .ok (.invokevirtual 471, 3) := by decide +kernel
theorem dX12_drawDeed_54 : decode cX12_drawDeed 54 = .ok (.istore_n 2, 1) := by decide +kernel
theorem dX12_drawDeed_55 : decode cX12_drawDeed 55 = .ok (.iload_n 1, 1) := by decide +kernel
theorem dX12_drawDeed_56 : decode cX12_drawDeed 56 = .ok (.bipush 8, 2) := by decide +kernel
theorem dX12_drawDeed_58 : decode cX12_drawDeed 58 = .ok (.if_icmp .ne 13, 3) := by decide +kernel
theorem dX12_drawDeed_61 : decode cX12_drawDeed 61 = .ok (.aload_n 0, 1) := by decide +kernel
theorem dX12_drawDeed_62 : decode cX12_drawDeed 62 = .ok (.iconst 2, 1) := by decide +kernel
theorem dX12_drawDeed_63 : decode cX12_drawDeed 63 = .ok (.iload_n 2, 1) := by decide +kernel
theorem dX12_drawDeed_64 : decode cX12_drawDeed 64 = .ok (.iconst (-1), 1) := by decide +kernel
theorem dX12_drawDeed_65 : decode cX12_drawDeed 65 = .ok (.iconst (-1), 1) := by decide +kernel
theorem dX12_drawDeed_66 : decode cX12_drawDeed 66 = .ok (.invokevirtual 337, 3) := by decide +kernel
theorem dX12_drawDeed_69 : decode cX12_drawDeed 69 = .ok (.pop, 1) := by decide +kernel
theorem dX12_drawDeed_70 : decode cX12_drawDeed 70 = .ok (.return_, 1) := by decide +kernel
theorem dX12_drawDeed_71 : decode cX12_drawDeed 71 = .ok (.aload_n 0, 1) := by decide +kernel
theorem dX12_drawDeed_72 : decode cX12_drawDeed 72 = .ok (.iload_n 1, 1) := by decide +kernel
theorem dX12_drawDeed_73 : decode cX12_drawDeed 73 = .ok (.iconst 5, 1) := by decide +kernel
theorem dX12_drawDeed_74 : decode cX12_drawDeed 74 = .ok (.if_icmp .ge 8, 3) := by decide +kernel
theorem dX12_drawDeed_77 : decode cX12_drawDeed 77 = .ok (.bipush 10, 2) := by decide +kernel
theorem dX12_drawDeed_79 : decode cX12_drawDeed 79 = .ok (.goto 5, 3) := by decide +kernel
theorem dX12_drawDeed_82 : decode cX12_drawDeed 82 = .ok (.bipush 6, 2) := by decide +kernel
theorem dX12_drawDeed_84 : decode cX12_drawDeed 84 = .ok (.invokevirtual 471, 3) := by decide +kernel
theorem dX12_drawDeed_87 : decode cX12_drawDeed 87 = .ok (.istore_n 3, 1) := by decide +kernel
theorem dX12_drawDeed_88 : decode cX12_drawDeed 88 = .ok (.iload_n 1, 1) := by decide +kernel
theorem dX12_drawDeed_89 : decode cX12_drawDeed 89 = .ok (.iconst 5, 1) := by decide +kernel
theorem dX12_drawDeed_90 : decode cX12_drawDeed 90 = .ok (.if_icmp .ge 12, 3) := by decide +kernel
theorem dX12_drawDeed_93 : decode cX12_drawDeed 93 = .ok (.aload_n 0, 1) := by decide +kernel
theorem dX12_drawDeed_94 : decode cX12_drawDeed 94 = .ok (.bipush 10, 2) := by decide +kernel
theorem dX12_drawDeed_96 : decode cX12_drawDeed 96 = .ok (.invokevirtual 471, 3) := by decide +kernel
theorem dX12_drawDeed_99 : decode cX12_drawDeed 99 = .ok (.goto 10, 3) := by decide +kernel
theorem dX12_drawDeed_102 : decode cX12_drawDeed 102 = .ok (.iconst 1, 1) := by decide +kernel
theorem dX12_drawDeed_103 : decode cX12_drawDeed 103 = .ok (.aload_n 0, 1) := by decide +kernel
theorem dX12_drawDeed_104 : decode cX12_drawDeed 104 = .ok (.iconst 3, 1) := by decide +kernel
theorem dX12_drawDeed_105 : decode cX12_drawDeed 105 = .ok (.invokevirtual 471, 3) := by decide +kernel
theorem dX12_drawDeed_108 : decode cX12_drawDeed 108 = .ok (.iadd, 1) := by decide +kernel
theorem dX12_drawDeed_109 : decode cX12_drawDeed 109 = .ok (.istore 4, 2) := by decide +kernel
theorem dX12_drawDeed_111 : decode cX12_drawDeed 111 = .ok (.aload_n 0, 1) := by decide +kernel
theorem dX12_drawDeed_112 : decode cX12_drawDeed 112 = .ok (.iload_n 1, 1) := by decide +kernel
theorem dX12_drawDeed_113 : decode cX12_drawDeed 113 = .ok (.iconst 5, 1) := by decide +kernel
theorem dX12_drawDeed_114 : decode cX12_drawDeed 114 = .ok (.if_icmp .ge 7, 3) := by decide +kernel
theorem dX12_drawDeed_117 : decode cX12_drawDeed 117 = .ok (.iconst 3, 1) := by decide +kernel
theorem dX12_drawDeed_118 : decode cX12_drawDeed 118 = .ok (.goto 13, 3) := by decide +kernel
theorem dX12_drawDeed_121 : decode cX12_drawDeed 121 = .ok (.iload_n 1, 1) := by decide +kernel
theorem dX12_drawDeed_122 : decode cX12_drawDeed 122 = .ok (.iconst 5, 1) := by decide +kernel
theorem dX12_drawDeed_123 : decode cX12_drawDeed 123 = .ok (.if_icmp .ne 7, 3) := by decide +kernel
theorem dX12_drawDeed_126 : decode cX12_drawDeed 126 = .ok (.iconst 4, 1) := by decide +kernel
theorem dX12_drawDeed_127 : decode cX12_drawDeed 127 = .ok (.goto 4, 3) := by decide +kernel
theorem dX12_drawDeed_130 : decode cX12_drawDeed 130 = .ok (.iconst 5, 1) := by decide +kernel
theorem dX12_drawDeed_131 : decode cX12_drawDeed 131 = .ok (.iload_n 2, 1) := by decide +kernel
theorem dX12_drawDeed_132 : decode cX12_drawDeed 132 = .ok (.iload_n 3, 1) := by decide +kernel
theorem dX12_drawDeed_133 : decode cX12_drawDeed 133 = .ok (.iload 4, 2) := by decide +kernel
theorem dX12_drawDeed_135 : decode cX12_drawDeed 135 = .ok (.invokevirtual 337, 3) := by decide +kernel
theorem dX12_drawDeed_138 : decode cX12_drawDeed 138 = .ok (.pop, 1) := by decide +kernel
theorem dX12_drawDeed_139 : decode cX12_drawDeed 139 = .ok (.return_, 1) := by decide +kernel
theorem dX12_drawn_0 : decode cX12_drawn 0 = .ok (.aload_n 0, 1) := by decide +kernel
theorem dX12_drawn_1 : decode cX12_drawn 1 = .ok (.iconst 0, 1) := by decide +kernel
theorem dX12_drawn_2 : decode cX12_drawn 2 = .ok (.putfield 72, 3) := by decide +kernel
theorem dX12_drawn_5 : decode cX12_drawn 5 = .ok (.iload_n 3, 1) := by decide +kernel
theorem dX12_drawn_6 : decode cX12_drawn 6 = .ok (.iconst 0, 1) := by decide +kernel
theorem dX12_drawn_7 : decode cX12_drawn 7 = .ok (.bipush 60, 2) := by decide +kernel
theorem dX12_drawn_9 : decode cX12_drawn 9 = .ok (.invokestatic 84, 3) := by decide +kernel
theorem dX12_drawn_12 : decode cX12_drawn 12 = .ok (.ifCond .eq 11, 3) := by decide +kernel
theorem dX12_drawn_15 : decode cX12_drawn 15 = .ok (.aload_n 0, 1) := by decide +kernel
theorem dX12_drawn_16 : decode cX12_drawn 16 = .ok (.iload_n 1, 1) := by decide +kernel
theorem dX12_drawn_17 : decode cX12_drawn 17 = .ok (.invokevirtual 300, 3) := by decide +kernel
theorem dX12_drawn_20 : decode cX12_drawn 20 = .ok (.ifCond .ne 6, 3) := by decide +kernel
theorem dX12_drawn_23 : decode cX12_drawn 23 = .ok (.bipush (-2), 2) := by decide +kernel
theorem dX12_drawn_25 : decode cX12_drawn 25 = .ok (.ireturn, 1) := by decide +kernel
theorem dX12_drawn_26 : decode cX12_drawn 26 = .ok (.aload_n 0, 1) := by decide +kernel
theorem dX12_drawn_27 : decode cX12_drawn 27 = .ok (.iload_n 2, 1) := by decide +kernel
theorem dX12_drawn_28 : decode cX12_drawn 28 = .ok (.putfield 467, 3) := by decide +kernel
theorem dX12_drawn_31 : decode cX12_drawn 31 = .ok (.iconst 0, 1) := by decide +kernel
theorem dX12_drawn_32 : decode cX12_drawn 32 = .ok (.istore 5, 2) := by decide +kernel
theorem dX12_drawn_34 : decode cX12_drawn 34 = .ok (.iload 5, 2) := by decide +kernel
theorem dX12_drawn_36 : decode cX12_drawn 36 = .ok (.iload_n 3, 1) := by decide +kernel
theorem dX12_drawn_37 : decode cX12_drawn 37 = .ok (.if_icmp .ge 13, 3) := by decide +kernel
theorem dX12_drawn_40 : decode cX12_drawn 40 = .ok (.aload_n 0, 1) := by decide +kernel
theorem dX12_drawn_41 : decode cX12_drawn 41 = .ok (.invokevirtual 474, 3) := by decide +kernel
theorem dX12_drawn_44 : decode cX12_drawn 44 = .ok (.iinc 5 1, 3) := by decide +kernel
theorem dX12_drawn_47 : decode cX12_drawn 47 = .ok (.goto (-13), 3) := by decide +kernel
theorem dX12_drawn_50 : decode cX12_drawn 50 = .ok (.aload_n 0, 1) := by decide +kernel
theorem dX12_drawn_51 : decode cX12_drawn 51 = .ok (.iload 4, 2) := by decide +kernel
theorem dX12_drawn_53 : decode cX12_drawn 53 = .ok (.invokevirtual 350, 3) := by decide +kernel
theorem dX12_drawn_56 : decode cX12_drawn 56 = .ok (.ireturn, 1) := by decide +kernel
theorem dX12_clean_0 : decode cX12_clean 0 = .ok (.iconst 0, 1) := by decide +kernel
theorem dX12_clean_1 : decode cX12_clean 1 = .ok (.istore_n 1, 1) := by decide +kernel
theorem dX12_clean_2 : decode cX12_clean 2 = .ok (.iconst 0, 1) := by decide +kernel
theorem dX12_clean_3 : decode cX12_clean 3 = .ok (.istore_n 2, 1) := by decide +kernel
theorem dX12_clean_4 : decode cX12_clean 4 = .ok (.iload_n 2, 1) := by decide +kernel
theorem dX12_clean_5 : decode cX12_clean 5 = .ok (.aload_n 0, 1) := by decide +kernel
theorem dX12_clean_6 : decode cX12_clean 6 = .ok (.getfield 251, 3) := by decide +kernel
theorem dX12_clean_9 : decode cX12_clean 9 = .ok (.if_icmp .ge 27, 3) := by decide +kernel
theorem dX12_clean_12 : decode cX12_clean 12 = .ok (.iload_n 1, 1) := by decide +kernel
theorem dX12_clean_13 : decode cX12_clean 13 = .ok (.aload_n 0, 1) := by decide +kernel
theorem dX12_clean_14 : decode cX12_clean 14 = .ok (.iload_n 2, 1) := by decide +kernel
theorem dX12_clean_15 : decode cX12_clean 15 = .ok (.invokevirtual 354, 3) := by decide +kernel
theorem dX12_clean_18 : decode cX12_clean 18 = .ok (.ifCond .ne 9, 3) := by decide +kernel
theorem dX12_clean_21 : decode cX12_clean 21 = .ok (.iconst 1, 1) := by decide +kernel
theorem dX12_clean_22 : decode cX12_clean 22 = .ok (.iload_n 2, 1) := by decide +kernel
theorem dX12_clean_23 : decode cX12_clean 23 = .ok (.ishl, 1) := by decide +kernel
theorem dX12_clean_24 : decode cX12_clean 24 = .ok (.goto 4, 3) := by decide +kernel
theorem dX12_clean_27 : decode cX12_clean 27 = .ok (.iconst 0, 1) := by decide +kernel
theorem dX12_clean_28 : decode cX12_clean 28 = .ok (.ior, 1) := by decide +kernel
theorem dX12_clean_29 : decode cX12_clean 29 = .ok (.istore_n 1, 1) := by decide +kernel
theorem dX12_clean_30 : decode cX12_clean 30 = .ok (.iinc 2 1, 3) := by decide +kernel
theorem dX12_clean_33 : decode cX12_clean 33 = .ok (.goto (-29), 3) := by decide +kernel
theorem dX12_clean_36 : decode cX12_clean 36 = .ok (.iload_n 1, 1) := by decide +kernel
theorem dX12_clean_37 : decode cX12_clean 37 = .ok (.ireturn, 1) := by decide +kernel
theorem dX12_worst_0 : decode cX12_worst 0 = .ok (.iconst (-1), 1) := by decide +kernel
theorem dX12_worst_1 : decode cX12_worst 1 = .ok (.istore_n 1, 1) := by decide +kernel
theorem dX12_worst_2 : decode cX12_worst 2 = .ok (.iconst 0, 1) := by decide +kernel
theorem dX12_worst_3 : decode cX12_worst 3 = .ok (.istore_n 2, 1) := by decide +kernel
theorem dX12_worst_4 : decode cX12_worst 4 = .ok (.iload_n 2, 1) := by decide +kernel
theorem dX12_worst_5 : decode cX12_worst 5 = .ok (.aload_n 0, 1) := by decide +kernel
theorem dX12_worst_6 : decode cX12_worst 6 = .ok (.getfield 251, 3) := by decide +kernel
theorem dX12_worst_9 : decode cX12_worst 9 = .ok (.if_icmp .ge 33, 3) := by decide +kernel
theorem dX12_worst_12 : decode cX12_worst 12 = .ok (.iload_n 1, 1) := by decide +kernel
theorem dX12_worst_13 : decode cX12_worst 13 = .ok (.iconst (-1), 1) := by decide +kernel
theorem dX12_worst_14 : decode cX12_worst 14 = .ok (.if_icmp .eq 16, 3) := by decide +kernel
theorem dX12_worst_17 : decode cX12_worst 17 = .ok (.aload_n 0, 1) := by decide +kernel
theorem dX12_worst_18 : decode cX12_worst 18 = .ok (.iload_n 2, 1) := by decide +kernel
theorem dX12_worst_19 : decode cX12_worst 19 = .ok (.invokevirtual 354, 3) := by decide +kernel
theorem dX12_worst_22 : decode cX12_worst 22 = .ok (.aload_n 0, 1) := by decide +kernel
theorem dX12_worst_23 : decode cX12_worst 23 = .ok (.iload_n 1, 1) := by decide +kernel
theorem dX12_worst_24 : decode cX12_worst 24 = .ok (.invokevirtual 354, 3) := by decide +kernel
theorem dX12_worst_27 : decode cX12_worst 27 = .ok (.if_icmp .le 7, 3) := by decide +kernel
theorem dX12_worst_30 : decode cX12_worst 30 = .ok (.iload_n 2, 1) := by decide +kernel
theorem dX12_worst_31 : decode cX12_worst 31 = .ok (.goto 4, 3) := by decide +kernel
theorem dX12_worst_34 : decode cX12_worst 34 = .ok (.iload_n 1, 1) := by decide +kernel
theorem dX12_worst_35 : decode cX12_worst 35 = .ok (.istore_n 1, 1) := by decide +kernel
theorem dX12_worst_36 : decode cX12_worst 36 = .ok (.iinc 2 1, 3) := by decide +kernel
theorem dX12_worst_39 : decode cX12_worst 39 = .ok (.goto (-35), 3) := by decide +kernel
theorem dX12_worst_42 : decode cX12_worst 42 = .ok (.iload_n 1, 1) := by decide +kernel
theorem dX12_worst_43 : decode cX12_worst 43 = .ok (.ireturn, 1) := by decide +kernel
theorem dX12_mostKind_0 : decode cX12_mostKind 0 = .ok (.iconst 0, 1) := by decide +kernel
theorem dX12_mostKind_1 : decode cX12_mostKind 1 = .ok (.istore_n 1, 1) := by decide +kernel
theorem dX12_mostKind_2 : decode cX12_mostKind 2 = .ok (.iconst (-1), 1) := by decide +kernel
theorem dX12_mostKind_3 : decode cX12_mostKind 3 = .ok (.istore_n 2, 1) := by decide +kernel
theorem dX12_mostKind_4 : decode cX12_mostKind 4 = .ok (.iconst 0, 1) := by decide +kernel
theorem dX12_mostKind_5 : decode cX12_mostKind 5 = .ok (.istore_n 3, 1) := by decide +kernel
theorem dX12_mostKind_6 : decode cX12_mostKind 6 = .ok (.iload_n 3, 1) := by decide +kernel
theorem dX12_mostKind_7 : decode cX12_mostKind 7 = .ok (.bipush 6, 2) := by decide +kernel
theorem dX12_mostKind_9 : decode cX12_mostKind 9 = .ok (.if_icmp .ge 66, 3) := by decide +kernel
theorem dX12_mostKind_12 : decode cX12_mostKind 12 = .ok (.iconst 0, 1) := by decide +kernel
theorem dX12_mostKind_13 : decode cX12_mostKind 13 = .ok (.istore 4, 2) := by decide +kernel
theorem dX12_mostKind_15 : decode cX12_mostKind 15 = .ok (.iconst 0, 1) := by decide +kernel
theorem dX12_mostKind_16 : decode cX12_mostKind 16 = .ok (.istore 5, 2) := by decide +kernel
theorem dX12_mostKind_18 : decode cX12_mostKind 18 = .ok (.iload 5, 2) := by decide +kernel
theorem dX12_mostKind_20 : decode cX12_mostKind 20 = .ok (.aload_n 0, 1) := by decide +kernel
theorem dX12_mostKind_21 : decode cX12_mostKind 21 = .ok (.getfield 251, 3) := by decide +kernel
theorem dX12_mostKind_24 : decode cX12_mostKind 24 = .ok (.if_icmp .ge 26, 3) := by decide +kernel
theorem dX12_mostKind_27 : decode cX12_mostKind 27 = .ok (.iload 4, 2) := by decide +kernel
theorem dX12_mostKind_29 : decode cX12_mostKind 29 = .ok (.aload_n 0, 1) := by decide +kernel
theorem dX12_mostKind_30 : decode cX12_mostKind 30 = .ok (.getfield 47, 3) := by decide +kernel
theorem dX12_mostKind_33 : decode cX12_mostKind 33 = .ok (.bipush 6, 2) := by decide +kernel
theorem dX12_mostKind_35 : decode cX12_mostKind 35 = .ok (.iload 5, 2) := by decide +kernel
theorem dX12_mostKind_37 : decode cX12_mostKind 37 = .ok (.imul, 1) := by decide +kernel
theorem dX12_mostKind_38 : decode cX12_mostKind 38 = .ok (.iload_n 3, 1) := by decide +kernel
theorem dX12_mostKind_39 : decode cX12_mostKind 39 = .ok (.iadd, 1) := by decide +kernel
theorem dX12_mostKind_40 : decode cX12_mostKind 40 = .ok (.iaload, 1) := by decide +kernel
theorem dX12_mostKind_41 : decode cX12_mostKind 41 = .ok (.iadd, 1) := by decide +kernel
theorem dX12_mostKind_42 : decode cX12_mostKind 42 = .ok (.istore 4, 2) := by decide +kernel
theorem dX12_mostKind_44 : decode cX12_mostKind 44 = .ok (.iinc 5 1, 3) := by decide +kernel
theorem dX12_mostKind_47 : decode cX12_mostKind 47 = .ok (.goto (-29), 3) := by decide +kernel
theorem dX12_mostKind_50 : decode cX12_mostKind 50 = .ok (.iload 4, 2) := by decide +kernel
theorem dX12_mostKind_52 : decode cX12_mostKind 52 = .ok (.iload_n 2, 1) := by decide +kernel
theorem dX12_mostKind_53 : decode cX12_mostKind 53 = .ok (.if_icmp .le 7, 3) := by decide +kernel
theorem dX12_mostKind_56 : decode cX12_mostKind 56 = .ok (.iload_n 3, 1) := by decide +kernel
theorem dX12_mostKind_57 : decode cX12_mostKind 57 = .ok (.goto 4, 3) := by decide +kernel
theorem dX12_mostKind_60 : decode cX12_mostKind 60 = .ok (.iload_n 1, 1) := by decide +kernel
theorem dX12_mostKind_61 : decode cX12_mostKind 61 = .ok (.istore_n 1, 1) := by decide +kernel
theorem dX12_mostKind_62 : decode cX12_mostKind 62 = .ok (.iload_n 2, 1) := by decide +kernel
theorem dX12_mostKind_63 : decode cX12_mostKind 63 = .ok (.iload 4, 2) := by decide +kernel
theorem dX12_mostKind_65 : decode cX12_mostKind 65 = .ok (.invokestatic 153, 3) := by decide +kernel
theorem dX12_mostKind_68 : decode cX12_mostKind 68 = .ok (.istore_n 2, 1) := by decide +kernel
theorem dX12_mostKind_69 : decode cX12_mostKind 69 = .ok (.iinc 3 1, 3) := by decide +kernel
theorem dX12_mostKind_72 : decode cX12_mostKind 72 = .ok (.goto (-66), 3) := by decide +kernel
theorem dX12_mostKind_75 : decode cX12_mostKind 75 = .ok (.iload_n 1, 1) := by decide +kernel
theorem dX12_mostKind_76 : decode cX12_mostKind 76 = .ok (.ireturn, 1) := by decide +kernel
theorem dX12_heard_0 : decode cX12_heard 0 = .ok (.iconst 0, 1) := by decide +kernel
theorem dX12_heard_1 : decode cX12_heard 1 = .ok (.istore_n 1, 1) := by decide +kernel
theorem dX12_heard_2 : decode cX12_heard 2 = .ok (.iconst 0, 1) := by decide +kernel
theorem dX12_heard_3 : decode cX12_heard 3 = .ok (.istore_n 2, 1) := by decide +kernel
theorem dX12_heard_4 : decode cX12_heard 4 = .ok (.iload_n 2, 1) := by decide +kernel
theorem dX12_heard_5 : decode cX12_heard 5 = .ok (.aload_n 0, 1) := by decide +kernel
theorem dX12_heard_6 : decode cX12_heard 6 = .ok (.getfield 251, 3) := by decide +kernel
theorem dX12_heard_9 : decode cX12_heard 9 = .ok (.if_icmp .ge 51, 3) := by decide +kernel
theorem dX12_heard_12 : decode cX12_heard 12 = .ok (.iconst 0, 1) := by decide +kernel
theorem dX12_heard_13 : decode cX12_heard 13 = .ok (.istore_n 3, 1) := by decide +kernel
theorem dX12_heard_14 : decode cX12_heard 14 = .ok (.iload_n 3, 1) := by decide +kernel
theorem dX12_heard_15 : decode cX12_heard 15 = .ok (.aload_n 0, 1) := by decide +kernel
theorem dX12_heard_16 : decode cX12_heard 16 = .ok (.getfield 248, 3) := by decide +kernel
theorem dX12_heard_19 : decode cX12_heard 19 = .ok (.if_icmp .ge 35, 3) := by decide +kernel
theorem dX12_heard_22 : decode cX12_heard 22 = .ok (.iload_n 1, 1) := by decide +kernel
theorem dX12_heard_23 : decode cX12_heard 23 = .ok (.aload_n 0, 1) := by decide +kernel
theorem dX12_heard_24 : decode cX12_heard 24 = .ok (.iload_n 2, 1) := by decide +kernel
theorem dX12_heard_25 : decode cX12_heard 25 = .ok (.invokevirtual 294, 3) := by decide +kernel
theorem dX12_heard_28 : decode cX12_heard 28 = .ok (.aload_n 0, 1) := by decide +kernel
theorem dX12_heard_29 : decode cX12_heard 29 = .ok (.bipush 13, 2) := by decide +kernel
theorem dX12_heard_31 : decode cX12_heard 31 = .ok (.iload_n 3, 1) := by decide +kernel
theorem dX12_heard_32 : decode cX12_heard 32 = .ok (.iadd, 1) := by decide +kernel
theorem dX12_heard_33 : decode cX12_heard 33 = .ok (.invokevirtual 244, 3) := by decide +kernel
theorem dX12_heard_36 : decode cX12_heard 36 = .ok (.if_icmp .gt 9, 3) := by decide +kernel
theorem dX12_heard_39 : decode cX12_heard 39 = .ok (.iconst 1, 1) := by decide +kernel
theorem dX12_heard_40 : decode cX12_heard 40 = .ok (.iload_n 2, 1) := by decide +kernel
theorem dX12_heard_41 : decode cX12_heard 41 = .ok (.ishl, 1) := by decide +kernel
theorem dX12_heard_42 : decode cX12_heard 42 = .ok (.goto 4, 3) := by decide +kernel
theorem dX12_heard_45 : decode cX12_heard 45 = .ok (.iconst 0, 1) := by decide +kernel
theorem dX12_heard_46 : decode cX12_heard 46 = .ok (.ior, 1) := by decide +kernel
theorem dX12_heard_47 : decode cX12_heard 47 = .ok (.istore_n 1, 1) := by decide +kernel
theorem dX12_heard_48 : decode cX12_heard 48 = .ok (.iinc 3 1, 3) := by decide +kernel
theorem dX12_heard_51 : decode cX12_heard 51 = .ok (.goto (-37), 3) := by decide +kernel
theorem dX12_heard_54 : decode cX12_heard 54 = .ok (.iinc 2 1, 3) := by decide +kernel
theorem dX12_heard_57 : decode cX12_heard 57 = .ok (.goto (-53), 3) := by decide +kernel
theorem dX12_heard_60 : decode cX12_heard 60 = .ok (.iload_n 1, 1) := by decide +kernel
theorem dX12_heard_61 : decode cX12_heard 61 = .ok (.ireturn, 1) := by decide +kernel
theorem dX12_offendersBut_0 : decode cX12_offendersBut 0 = .ok (.aload_n 0, 1) := by decide +kernel
theorem dX12_offendersBut_1 : decode cX12_offendersBut 1 = .ok (.iload_n 1, 1) := by decide +kernel
theorem dX12_offendersBut_2 : decode cX12_offendersBut 2 = .ok (.putfield 281, 3) := by decide +kernel
theorem dX12_offendersBut_5 : decode cX12_offendersBut 5 = .ok (.aload_n 0, 1) := by decide +kernel
theorem dX12_offendersBut_6 : decode cX12_offendersBut 6 = .ok (.invokevirtual 322, 3) := by decide +kernel
theorem dX12_offendersBut_9 : decode cX12_offendersBut 9 = .ok (.istore_n 2, 1) := by decide +kernel
theorem dX12_offendersBut_10 : decode cX12_offendersBut 10 = .ok (.aload_n 0, 1) := by decide +kernel
theorem dX12_offendersBut_11 : decode cX12_offendersBut 11 = .ok (.iconst 0, 1) := by decide +kernel
theorem dX12_offendersBut_12 : decode cX12_offendersBut 12 = .ok (.putfield 281, 3) := by decide +kernel
theorem dX12_offendersBut_15 : decode cX12_offendersBut 15 = .ok (.iload_n 2, 1) := by decide +kernel
theorem dX12_offendersBut_16 : decode cX12_offendersBut 16 = .ok (.ireturn, 1) := by decide +kernel
theorem dX12_idle_0 : decode cX12_idle 0 = .ok (.aload_n 0, 1) := by decide +kernel
theorem dX12_idle_1 : decode cX12_idle 1 = .ok (.invokevirtual 322, 3) := by decide +kernel
theorem dX12_idle_4 : decode cX12_idle 4 = .ok (.istore_n 1, 1) := by decide +kernel
theorem dX12_idle_5 : decode cX12_idle 5 = .ok (.iconst 0, 1) := by decide +kernel
theorem dX12_idle_6 : decode cX12_idle 6 = .ok (.istore_n 2, 1) := by decide +kernel
theorem dX12_idle_7 : decode cX12_idle 7 = .ok (.iconst 0, 1) := by decide +kernel
theorem dX12_idle_8 : decode cX12_idle 8 = .ok (.istore_n 3, 1) := by decide +kernel
theorem dX12_idle_9 : decode cX12_idle 9 = .ok (.iload_n 3, 1) := by decide +kernel
theorem dX12_idle_10 : decode cX12_idle 10 = .ok (.aload_n 0, 1) := by decide +kernel
theorem dX12_idle_11 : decode cX12_idle 11 = .ok (.getfield 248, 3) := by decide +kernel
theorem dX12_idle_14 : decode cX12_idle 14 = .ok (.if_icmp .ge 30, 3) := by decide +kernel
theorem dX12_idle_17 : decode cX12_idle 17 = .ok (.iload_n 2, 1) := by decide +kernel
theorem dX12_idle_18 : decode cX12_idle 18 = .ok (.aload_n 0, 1) := by decide +kernel
theorem dX12_idle_19 : decode cX12_idle 19 = .ok (.iconst 1, 1) := by decide +kernel
theorem dX12_idle_20 : decode cX12_idle 20 = .ok (.iload_n 3, 1) := by decide +kernel
theorem dX12_idle_21 : decode cX12_idle 21 = .ok (.ishl, 1) := by decide +kernel
theorem dX12_idle_22 : decode cX12_idle 22 = .ok (.invokevirtual 477, 3) := by decide +kernel
theorem dX12_idle_25 : decode cX12_idle 25 = .ok (.iload_n 1, 1) := by decide +kernel
theorem dX12_idle_26 : decode cX12_idle 26 = .ok (.if_icmp .ne 9, 3) := by decide +kernel
theorem dX12_idle_29 : decode cX12_idle 29 = .ok (.iconst 1, 1) := by decide +kernel
theorem dX12_idle_30 : decode cX12_idle 30 = .ok (.iload_n 3, 1) := by decide +kernel
theorem dX12_idle_31 : decode cX12_idle 31 = .ok (.ishl, 1) := by decide +kernel
theorem dX12_idle_32 : decode cX12_idle 32 = .ok (.goto 4, 3) := by decide +kernel
theorem dX12_idle_35 : decode cX12_idle 35 = .ok (.iconst 0, 1) := by decide +kernel
theorem dX12_idle_36 : decode cX12_idle 36 = .ok (.ior, 1) := by decide +kernel
theorem dX12_idle_37 : decode cX12_idle 37 = .ok (.istore_n 2, 1) := by decide +kernel
theorem dX12_idle_38 : decode cX12_idle 38 = .ok (.iinc 3 1, 3) := by decide +kernel
theorem dX12_idle_41 : decode cX12_idle 41 = .ok (.goto (-32), 3) := by decide +kernel
theorem dX12_idle_44 : decode cX12_idle 44 = .ok (.iload_n 2, 1) := by decide +kernel
theorem dX12_idle_45 : decode cX12_idle 45 = .ok (.ireturn, 1) := by decide +kernel
theorem dX12_broad_0 : decode cX12_broad 0 = .ok (.iconst (-1), 1) := by decide +kernel
theorem dX12_broad_1 : decode cX12_broad 1 = .ok (.istore_n 2, 1) := by decide +kernel
theorem dX12_broad_2 : decode cX12_broad 2 = .ok (.iconst (-1), 1) := by decide +kernel
theorem dX12_broad_3 : decode cX12_broad 3 = .ok (.istore_n 3, 1) := by decide +kernel
theorem dX12_broad_4 : decode cX12_broad 4 = .ok (.iconst 0, 1) := by decide +kernel
theorem dX12_broad_5 : decode cX12_broad 5 = .ok (.istore 4, 2) := by decide +kernel
theorem dX12_broad_7 : decode cX12_broad 7 = .ok (.iload 4, 2) := by decide +kernel
theorem dX12_broad_9 : decode cX12_broad 9 = .ok (.aload_n 0, 1) := by decide +kernel
theorem dX12_broad_10 : decode cX12_broad 10 = .ok (.getfield 248, 3) := by decide +kernel
theorem dX12_broad_13 : decode cX12_broad 13 = .ok (.if_icmp .ge 47, 3) := by decide +kernel
theorem dX12_broad_16 : decode cX12_broad 16 = .ok (.aload_n 0, 1) := by decide +kernel
theorem dX12_broad_17 : decode cX12_broad 17 = .ok (.bipush 63, 2) := by decide +kernel
theorem dX12_broad_19 : decode cX12_broad 19 = .ok (.iconst 1, 1) := by decide +kernel
theorem dX12_broad_20 : decode cX12_broad 20 = .ok (.iload 4, 2) := by decide +kernel
theorem dX12_broad_22 : decode cX12_broad 22 = .ok (.ishl, 1) := by decide +kernel
theorem dX12_broad_23 : decode cX12_broad 23 = .ok (.iconst (-1), 1) := by decide +kernel
theorem dX12_broad_24 : decode cX12_broad 24 = .ok (.ixor, 1) := by decide +kernel
theorem dX12_broad_25 : decode cX12_broad 25 = .ok (.iand, 1) := by decide +kernel
theorem dX12_broad_26 : decode cX12_broad 26 = .ok (.invokevirtual 477, 3) := by decide +kernel
theorem dX12_broad_29 : decode cX12_broad 29 = .ok (.invokestatic 412, 3) := by decide +kernel
theorem dX12_broad_32 : decode cX12_broad 32 = .ok (.istore 5, 2) := by decide +kernel
theorem dX12_broad_34 : decode cX12_broad 34 = .ok (.iload 5, 2) := by decide +kernel
theorem dX12_broad_36 : decode cX12_broad 36 = .ok (.iload_n 3, 1) := by decide +kernel
theorem dX12_broad_37 : decode cX12_broad 37 = .ok (.if_icmp .le 8, 3) := by decide +kernel
theorem dX12_broad_40 : decode cX12_broad 40 = .ok (.iload 4, 2) := by decide +kernel
theorem dX12_broad_42 : decode cX12_broad 42 = .ok (.goto 4, 3) := by decide +kernel
theorem dX12_broad_45 : decode cX12_broad 45 = .ok (.iload_n 2, 1) := by decide +kernel
theorem dX12_broad_46 : decode cX12_broad 46 = .ok (.istore_n 2, 1) := by decide +kernel
theorem dX12_broad_47 : decode cX12_broad 47 = .ok (.iload_n 3, 1) := by decide +kernel
theorem dX12_broad_48 : decode cX12_broad 48 = .ok (.iload 5, 2) := by decide +kernel
theorem dX12_broad_50 : decode cX12_broad 50 = .ok (.invokestatic 153, 3) := by decide +kernel
theorem dX12_broad_53 : decode cX12_broad 53 = .ok (.istore_n 3, 1) := by decide +kernel
theorem dX12_broad_54 : decode cX12_broad 54 = .ok (.iinc 4 1, 3) := by decide +kernel
theorem dX12_broad_57 : decode cX12_broad 57 = .ok (.goto (-50), 3) := by decide +kernel
theorem dX12_broad_60 : decode cX12_broad 60 = .ok (.iload_n 1, 1) := by decide +kernel
theorem dX12_broad_61 : decode cX12_broad 61 = .ok (.ifCond .eq 11, 3) := by decide +kernel
theorem dX12_broad_64 : decode cX12_broad 64 = .ok (.iconst 0, 1) := by decide +kernel
theorem dX12_broad_65 : decode cX12_broad 65 = .ok (.iload_n 3, 1) := by decide +kernel
theorem dX12_broad_66 : decode cX12_broad 66 = .ok (.invokestatic 153, 3) := by decide +kernel
theorem dX12_broad_69 : decode cX12_broad 69 = .ok (.goto 4, 3) := by decide +kernel
theorem dX12_broad_72 : decode cX12_broad 72 = .ok (.iload_n 2, 1) := by decide +kernel
theorem dX12_broad_73 : decode cX12_broad 73 = .ok (.ireturn, 1) := by decide +kernel
theorem dX12_between_0 : decode cX12_between 0 = .ok (.aload_n 0, 1) := by decide +kernel
theorem dX12_between_1 : decode cX12_between 1 = .ok (.getfield 41, 3) := by decide +kernel
theorem dX12_between_4 : decode cX12_between 4 = .ok (.iload_n 1, 1) := by decide +kernel
theorem dX12_between_5 : decode cX12_between 5 = .ok (.iaload, 1) := by decide +kernel
theorem dX12_between_6 : decode cX12_between 6 = .ok (.aload_n 0, 1) := by decide +kernel
theorem dX12_between_7 : decode cX12_between 7 = .ok (.getfield 44, 3) := by decide +kernel
theorem dX12_between_10 : decode cX12_between 10 = .ok (.iload_n 1, 1) := by decide +kernel
theorem dX12_between_11 : decode cX12_between 11 = .ok (.iaload, 1) := by decide +kernel
theorem dX12_between_12 : decode cX12_between 12 = .ok (.aload_n 0, 1) := by decide +kernel
theorem dX12_between_13 : decode cX12_between 13 = .ok (.getfield 41, 3) := by decide +kernel
theorem dX12_between_16 : decode cX12_between 16 = .ok (.iload_n 2, 1) := by decide +kernel
theorem dX12_between_17 : decode cX12_between 17 = .ok (.iaload, 1) := by decide +kernel
theorem dX12_between_18 : decode cX12_between 18 = .ok (.aload_n 0, 1) := by decide +kernel
theorem dX12_between_19 : decode cX12_between 19 = .ok (.getfield 44, 3) := by decide +kernel
theorem dX12_between_22 : decode cX12_between 22 = .ok (.iload_n 2, 1) := by decide +kernel
theorem dX12_between_23 : decode cX12_between 23 = .ok (.iaload, 1) := by decide +kernel
theorem dX12_between_24 : decode cX12_between 24 = .ok (.invokestatic 290, 3) := by decide +kernel
theorem dX12_between_27 : decode cX12_between 27 = .ok (.ireturn, 1) := by decide +kernel
theorem dX12_fromJoined_0 : decode cX12_fromJoined 0 = .ok (.aload_n 0, 1) := by decide +kernel
theorem dX12_fromJoined_1 : decode cX12_fromJoined 1 = .ok (.iload_n 1, 1) := by decide +kernel
theorem dX12_fromJoined_2 : decode cX12_fromJoined 2 = .ok (.invokevirtual 294, 3) := by decide +kernel
theorem dX12_fromJoined_5 : decode cX12_fromJoined 5 = .ok (.istore_n 3, 1) := by decide +kernel
theorem dX12_fromJoined_6 : decode cX12_fromJoined 6 = .ok (.iconst 0, 1) := by decide +kernel
theorem dX12_fromJoined_7 : decode cX12_fromJoined 7 = .ok (.istore 4, 2) := by decide +kernel
theorem dX12_fromJoined_9 : decode cX12_fromJoined 9 = .ok (.iload 4, 2) := by decide +kernel
theorem dX12_fromJoined_11 : decode cX12_fromJoined 11 = .ok (.aload_n 0, 1) := by decide +kernel
theorem dX12_fromJoined_12 : decode cX12_fromJoined 12 = .ok (.getfield 251, 3) := by decide +kernel
theorem dX12_fromJoined_15 : decode cX12_fromJoined 15 = .ok (.if_icmp .ge 34, 3) := by decide +kernel
theorem dX12_fromJoined_18 : decode cX12_fromJoined 18 = .ok (.iload_n 2, 1) := by decide +kernel
theorem dX12_fromJoined_19 : decode cX12_fromJoined 19 = .ok (.iload 4, 2) := by decide +kernel
theorem dX12_fromJoined_21 : decode cX12_fromJoined 21 = .ok (.invokestatic 76, 3) := by decide +kernel
theorem dX12_fromJoined_24 : decode cX12_fromJoined 24 = .ok (.ifCond .eq 17, 3) := by decide +kernel
theorem dX12_fromJoined_27 : decode cX12_fromJoined 27 = .ok (.iload_n 3, 1) := by decide +kernel
theorem dX12_fromJoined_28 : decode cX12_fromJoined 28 = .ok (.aload_n 0, 1) := by decide +kernel
theorem dX12_fromJoined_29 : decode cX12_fromJoined 29 = .ok (.iload_n 1, 1) := by decide +kernel
theorem dX12_fromJoined_30 : decode cX12_fromJoined 30 = .ok (.iload 4, 2) := by decide +kernel
theorem dX12_fromJoined_32 : decode cX12_fromJoined 32 = .ok (.invokevirtual 480, 3) := by decide +kernel
theorem dX12_fromJoined_35 : decode cX12_fromJoined 35 = .ok (.invokestatic 209, 3) := by decide +kernel
theorem dX12_fromJoined_38 : decode cX12_fromJoined 38 = .ok (.goto 4, 3) := by decide +kernel
theorem dX12_fromJoined_41 : decode cX12_fromJoined 41 = .ok (.iload_n 3, 1) := by decide +kernel
theorem dX12_fromJoined_42 : decode cX12_fromJoined 42 = .ok (.istore_n 3, 1) := by decide +kernel
theorem dX12_fromJoined_43 : decode cX12_fromJoined 43 = .ok (.iinc 4 1, 3) := by decide +kernel
theorem dX12_fromJoined_46 : decode cX12_fromJoined 46 = .ok (.goto (-37), 3) := by decide +kernel
theorem dX12_fromJoined_49 : decode cX12_fromJoined 49 = .ok (.iload_n 3, 1) := by decide +kernel
theorem dX12_fromJoined_50 : decode cX12_fromJoined 50 = .ok (.ireturn, 1) := by decide +kernel
theorem dX12_tree_0 : decode cX12_tree 0 = .ok (.iconst 0, 1) := by decide +kernel
theorem dX12_tree_1 : decode cX12_tree 1 = .ok (.istore_n 1, 1) := by decide +kernel
theorem dX12_tree_2 : decode cX12_tree 2 = .ok (.iconst 0, 1) := by decide +kernel
theorem dX12_tree_3 : decode cX12_tree 3 = .ok (.istore_n 2, 1) := by decide +kernel
theorem dX12_tree_4 : decode cX12_tree 4 = .ok (.iconst 0, 1) := by decide +kernel
theorem dX12_tree_5 : decode cX12_tree 5 = .ok (.istore_n 3, 1) := by decide +kernel
theorem dX12_tree_6 : decode cX12_tree 6 = .ok (.iload_n 3, 1) := by decide +kernel
theorem dX12_tree_7 : decode cX12_tree 7 = .ok (.aload_n 0, 1) := by decide +kernel
theorem dX12_tree_8 : decode cX12_tree 8 = .ok (.getfield 251, 3) := by decide +kernel
theorem dX12_tree_11 : decode cX12_tree 11 = .ok (.if_icmp .ge 96, 3) := by decide +kernel
theorem dX12_tree_14 : decode cX12_tree 14 = .ok (.iconst (-1), 1) := by decide +kernel
theorem dX12_tree_15 : decode cX12_tree 15 = .ok (.istore 4, 2) := by decide +kernel
theorem dX12_tree_17 : decode cX12_tree 17 = .ok (.ldc_w 353, 3) := by decide +kernel
theorem dX12_tree_20 : decode cX12_tree 20 = .ok (.istore 5, 2) := by decide +kernel
theorem dX12_tree_22 : decode cX12_tree 22 = .ok (.iconst 0, 1) := by decide +kernel
theorem dX12_tree_23 : decode cX12_tree 23 = .ok (.istore 6, 2) := by decide +kernel
theorem dX12_tree_25 : decode cX12_tree 25 = .ok (.iload 6, 2) := by decide +kernel
theorem dX12_tree_27 : decode cX12_tree 27 = .ok (.aload_n 0, 1) := by decide +kernel
theorem dX12_tree_28 : decode cX12_tree 28 = .ok (.getfield 251, 3) := by decide +kernel
theorem dX12_tree_31 : decode cX12_tree 31 = .ok (.if_icmp .ge 58, 3) := by decide +kernel
theorem dX12_tree_34 : decode cX12_tree 34 = .ok (.iload_n 1, 1) := by decide +kernel
theorem dX12_tree_35 : decode cX12_tree 35 = .ok (.iload 6, 2) := by decide +kernel
theorem dX12_tree_37 : decode cX12_tree 37 = .ok (.invokestatic 76, 3) := by decide +kernel
theorem dX12_tree_40 : decode cX12_tree 40 = .ok (.ifCond .eq 9, 3) := by decide +kernel
theorem dX12_tree_43 : decode cX12_tree 43 = .ok (.ldc_w 353, 3) := by decide +kernel
theorem dX12_tree_46 : decode cX12_tree 46 = .ok (.goto 10, 3) := by decide +kernel
theorem dX12_tree_49 : decode cX12_tree 49 = .ok (.aload_n 0, 1) := by decide +kernel
theorem dX12_tree_50 : decode cX12_tree 50 = .ok (.iload 6, 2) := by decide +kernel
theorem dX12_tree_52 : decode cX12_tree 52 = .ok (.iload_n 1, 1) := by decide +kernel
theorem dX12_tree_53 : decode cX12_tree 53 = .ok (.invokevirtual 483, 3) := by decide +kernel
theorem dX12_tree_56 : decode cX12_tree 56 = .ok (.istore 7, 2) := by decide +kernel
theorem dX12_tree_58 : decode cX12_tree 58 = .ok (.iload 7, 2) := by decide +kernel
theorem dX12_tree_60 : decode cX12_tree 60 = .ok (.iload 5, 2) := by decide +kernel
theorem dX12_tree_62 : decode cX12_tree 62 = .ok (.if_icmp .ge 8, 3) := by decide +kernel
theorem dX12_tree_65 : decode cX12_tree 65 = .ok (.iload 6, 2) := by decide +kernel
theorem dX12_tree_67 : decode cX12_tree 67 = .ok (.goto 5, 3) := by decide +kernel
theorem dX12_tree_70 : decode cX12_tree 70 = .ok (.iload 4, 2) := by decide +kernel
theorem dX12_tree_72 : decode cX12_tree 72 = .ok (.istore 4, 2) := by decide +kernel
theorem dX12_tree_74 : decode cX12_tree 74 = .ok (.iload 5, 2) := by decide +kernel
theorem dX12_tree_76 : decode cX12_tree 76 = .ok (.iload 7, 2) := by decide +kernel
theorem dX12_tree_78 : decode cX12_tree 78 = .ok (.invokestatic 209, 3) := by decide +kernel
theorem dX12_tree_81 : decode cX12_tree 81 = .ok (.istore 5, 2) := by decide +kernel
theorem dX12_tree_83 : decode cX12_tree 83 = .ok (.iinc 6 1, 3) := by decide +kernel
theorem dX12_tree_86 : decode cX12_tree 86 = .ok (.goto (-61), 3) := by decide +kernel
theorem dX12_tree_89 : decode cX12_tree 89 = .ok (.iload_n 1, 1) := by decide +kernel
theorem dX12_tree_90 : decode cX12_tree 90 = .ok (.iconst 1, 1) := by decide +kernel
theorem dX12_tree_91 : decode cX12_tree 91 = .ok (.iload 4, 2) := by decide +kernel
theorem dX12_tree_93 : decode cX12_tree 93 = .ok (.ishl, 1) := by decide +kernel
theorem dX12_tree_94 : decode cX12_tree 94 = .ok (.ior, 1) := by decide +kernel
theorem dX12_tree_95 : decode cX12_tree 95 = .ok (.istore_n 1, 1) := by decide +kernel
theorem dX12_tree_96 : decode cX12_tree 96 = .ok (.iload_n 2, 1) := by decide +kernel
theorem dX12_tree_97 : decode cX12_tree 97 = .ok (.iload 5, 2) := by decide +kernel
theorem dX12_tree_99 : decode cX12_tree 99 = .ok (.iadd, 1) := by decide +kernel
theorem dX12_tree_100 : decode cX12_tree 100 = .ok (.istore_n 2, 1) := by decide +kernel
theorem dX12_tree_101 : decode cX12_tree 101 = .ok (.iinc 3 1, 3) := by decide +kernel
theorem dX12_tree_104 : decode cX12_tree 104 = .ok (.goto (-98), 3) := by decide +kernel
theorem dX12_tree_107 : decode cX12_tree 107 = .ok (.iload_n 2, 1) := by decide +kernel
theorem dX12_tree_108 : decode cX12_tree 108 = .ok (.ireturn, 1) := by decide +kernel
theorem dX12_nearest_0 : decode cX12_nearest 0 = .ok (.iconst (-1), 1) := by decide +kernel
theorem dX12_nearest_1 : decode cX12_nearest 1 = .ok (.istore_n 2, 1) := by decide +kernel
theorem dX12_nearest_2 : decode cX12_nearest 2 = .ok (.ldc_w 353, 3) := by decide +kernel
theorem dX12_nearest_5 : decode cX12_nearest 5 = .ok (.istore_n 3, 1) := by decide +kernel
theorem dX12_nearest_6 : decode cX12_nearest 6 = .ok (.iconst 0, 1) := by decide +kernel
theorem dX12_nearest_7 : decode cX12_nearest 7 = .ok (.istore 4, 2) := by decide +kernel
theorem dX12_nearest_9 : decode cX12_nearest 9 = .ok (.iload 4, 2) := by decide +kernel
theorem dX12_nearest_11 : decode cX12_nearest 11 = .ok (.aload_n 0, 1) := by decide +kernel
theorem dX12_nearest_12 : decode cX12_nearest 12 = .ok (.getfield 251, 3) := by decide +kernel
theorem dX12_nearest_15 : decode cX12_nearest 15 = .ok (.if_icmp .ge 68, 3) := by decide +kernel
theorem dX12_nearest_18 : decode cX12_nearest 18 = .ok (.iload 4, 2) := by decide +kernel
theorem dX12_nearest_20 : decode cX12_nearest 20 = .ok (.iconst 1, 1) := by decide +kernel
theorem dX12_nearest_21 : decode cX12_nearest 21 = .ok (.iadd, 1) := by decide +kernel
theorem dX12_nearest_22 : decode cX12_nearest 22 = .ok (.istore 5, 2) := by decide +kernel
theorem dX12_nearest_24 : decode cX12_nearest 24 = .ok (.iload 5, 2) := by decide +kernel
theorem dX12_nearest_26 : decode cX12_nearest 26 = .ok (.aload_n 0, 1) := by decide +kernel
theorem dX12_nearest_27 : decode cX12_nearest 27 = .ok (.getfield 251, 3) := by decide +kernel
theorem dX12_nearest_30 : decode cX12_nearest 30 = .ok (.if_icmp .ge 47, 3) := by decide +kernel
theorem dX12_nearest_33 : decode cX12_nearest 33 = .ok (.aload_n 0, 1) := by decide +kernel
theorem dX12_nearest_34 : decode cX12_nearest 34 = .ok (.iload 4, 2) := by decide +kernel
theorem dX12_nearest_36 : decode cX12_nearest 36 = .ok (.iload 5, 2) := by decide +kernel
theorem dX12_nearest_38 : decode cX12_nearest 38 = .ok (.invokevirtual 480, 3) := by decide +kernel
theorem dX12_nearest_41 : decode cX12_nearest 41 = .ok (.iload_n 3, 1) := by decide +kernel
theorem dX12_nearest_42 : decode cX12_nearest 42 = .ok (.if_icmp .ge 14, 3) := by decide +kernel
theorem dX12_nearest_45 : decode cX12_nearest 45 = .ok (.bipush 10, 2) := by decide +kernel
theorem dX12_nearest_47 : decode cX12_nearest 47 = .ok (.iload 4, 2) := by decide +kernel
theorem dX12_nearest_49 : decode cX12_nearest 49 = .ok (.imul, 1) := by decide +kernel
theorem dX12_nearest_50 : decode cX12_nearest 50 = .ok (.iload 5, 2) := by decide +kernel
theorem dX12_nearest_52 : decode cX12_nearest 52 = .ok (.iadd, 1) := by decide +kernel
theorem dX12_nearest_53 : decode cX12_nearest 53 = .ok (.goto 4, 3) := by decide +kernel
theorem dX12_nearest_56 : decode cX12_nearest 56 = .ok (.iload_n 2, 1) := by decide +kernel
theorem dX12_nearest_57 : decode cX12_nearest 57 = .ok (.istore_n 2, 1) := by decide +kernel
theorem dX12_nearest_58 : decode cX12_nearest 58 = .ok (.iload_n 3, 1) := by decide +kernel
theorem dX12_nearest_59 : decode cX12_nearest 59 = .ok (.aload_n 0, 1) := by decide +kernel
theorem dX12_nearest_60 : decode cX12_nearest 60 = .ok (.iload 4, 2) := by decide +kernel
theorem dX12_nearest_62 : decode cX12_nearest 62 = .ok (.iload 5, 2) := by decide +kernel
theorem dX12_nearest_64 : decode cX12_nearest 64 = .ok (.invokevirtual 480, 3) := by decide +kernel
theorem dX12_nearest_67 : decode cX12_nearest 67 = .ok (.invokestatic 209, 3) := by decide +kernel
theorem dX12_nearest_70 : decode cX12_nearest 70 = .ok (.istore_n 3, 1) := by decide +kernel
theorem dX12_nearest_71 : decode cX12_nearest 71 = .ok (.iinc 5 1, 3) := by decide +kernel
theorem dX12_nearest_74 : decode cX12_nearest 74 = .ok (.goto (-50), 3) := by decide +kernel
theorem dX12_nearest_77 : decode cX12_nearest 77 = .ok (.iinc 4 1, 3) := by decide +kernel
theorem dX12_nearest_80 : decode cX12_nearest 80 = .ok (.goto (-71), 3) := by decide +kernel
theorem dX12_nearest_83 : decode cX12_nearest 83 = .ok (.iload_n 1, 1) := by decide +kernel
theorem dX12_nearest_84 : decode cX12_nearest 84 = .ok (.ifCond .ne 7, 3) := by decide +kernel
theorem dX12_nearest_87 : decode cX12_nearest 87 = .ok (.iload_n 2, 1) := by decide +kernel
theorem dX12_nearest_88 : decode cX12_nearest 88 = .ok (.goto 13, 3) := by decide +kernel
theorem dX12_nearest_91 : decode cX12_nearest 91 = .ok (.iload_n 2, 1) := by decide +kernel
theorem dX12_nearest_92 : decode cX12_nearest 92 = .ok (.iconst (-1), 1) := by decide +kernel
theorem dX12_nearest_93 : decode cX12_nearest 93 = .ok (.if_icmp .ne 7, 3) := by decide +kernel
theorem dX12_nearest_96 : decode cX12_nearest 96 = .ok (.iconst 0, 1) := by decide +kernel
theorem dX12_nearest_97 : decode cX12_nearest 97 = .ok (.goto 4, 3) := by decide +kernel
theorem dX12_nearest_100 : decode cX12_nearest 100 = .ok (.iload_n 3, 1) := by decide +kernel
theorem dX12_nearest_101 : decode cX12_nearest 101 = .ok (.ireturn, 1) := by decide +kernel
theorem dX12_upright_0 : decode cX12_upright 0 = .ok (.aload_n 0, 1) := by decide +kernel
theorem dX12_upright_1 : decode cX12_upright 1 = .ok (.iconst 0, 1) := by decide +kernel
theorem dX12_upright_2 : decode cX12_upright 2 = .ok (.putfield 72, 3) := by decide +kernel
theorem dX12_upright_5 : decode cX12_upright 5 = .ok (.aload_n 0, 1) := by decide +kernel
theorem dX12_upright_6 : decode cX12_upright 6 = .ok (.iload_n 1, 1) := by decide +kernel
theorem dX12_upright_7 : decode cX12_upright 7 = .ok (.invokevirtual 300, 3) := by decide +kernel
theorem dX12_upright_10 : decode cX12_upright 10 = .ok (.ifCond .ne 6, 3) := by decide +kernel
theorem dX12_upright_13 : decode cX12_upright 13 = .ok (.bipush (-2), 2) := by decide +kernel
theorem dX12_upright_15 : decode cX12_upright 15 = .ok (.ireturn, 1) := by decide +kernel
theorem dX12_upright_16 : decode cX12_upright 16 = .ok (.iload_n 2, 1) := by decide +kernel
theorem dX12_upright_17 : decode cX12_upright 17 = .ok (.tableswitch 117 0 9 #[55, 60, 65, 70, 75, 80, 85, 85, 101, 101], 55) := by decide +kernel
theorem dX12_upright_72 : decode cX12_upright 72 = .ok (.aload_n 0, 1) := by decide +kernel
theorem dX12_upright_73 : decode cX12_upright 73 = .ok (.invokevirtual 486, 3) := by decide +kernel
theorem dX12_upright_76 : decode cX12_upright 76 = .ok (.ireturn, 1) := by decide +kernel
theorem dX12_upright_77 : decode cX12_upright 77 = .ok (.aload_n 0, 1) := by decide +kernel
theorem dX12_upright_78 : decode cX12_upright 78 = .ok (.invokevirtual 489, 3) := by decide +kernel
theorem dX12_upright_81 : decode cX12_upright 81 = .ok (.ireturn, 1) := by decide +kernel
theorem dX12_upright_82 : decode cX12_upright 82 = .ok (.aload_n 0, 1) := by decide +kernel
theorem dX12_upright_83 : decode cX12_upright 83 = .ok (.invokevirtual 492, 3) := by decide +kernel
theorem dX12_upright_86 : decode cX12_upright 86 = .ok (.ireturn, 1) := by decide +kernel
theorem dX12_upright_87 : decode cX12_upright 87 = .ok (.aload_n 0, 1) := by decide +kernel
theorem dX12_upright_88 : decode cX12_upright 88 = .ok (.invokevirtual 495, 3) := by decide +kernel
theorem dX12_upright_91 : decode cX12_upright 91 = .ok (.ireturn, 1) := by decide +kernel
theorem dX12_upright_92 : decode cX12_upright 92 = .ok (.aload_n 0, 1) := by decide +kernel
theorem dX12_upright_93 : decode cX12_upright 93 = .ok (.invokevirtual 498, 3) := by decide +kernel
theorem dX12_upright_96 : decode cX12_upright 96 = .ok (.ireturn, 1) := by decide +kernel
theorem dX12_upright_97 : decode cX12_upright 97 = .ok (.aload_n 0, 1) := by decide +kernel
theorem dX12_upright_98 : decode cX12_upright 98 = .ok (.invokevirtual 501, 3) := by decide +kernel
theorem dX12_upright_101 : decode cX12_upright 101 = .ok (.ireturn, 1) := by decide +kernel
theorem dX12_upright_102 : decode cX12_upright 102 = .ok (.aload_n 0, 1) := by decide +kernel
theorem dX12_upright_103 : decode cX12_upright 103 = .ok (.iload_n 2, 1) := by decide +kernel
theorem dX12_upright_104 : decode cX12_upright 104 = .ok (.bipush 7, 2) := by decide +kernel
theorem dX12_upright_106 : decode cX12_upright 106 = .ok (.if_icmp .ne 7, 3) := by decide +kernel
theorem dX12_upright_109 : decode cX12_upright 109 = .ok (.iconst 1, 1) := by decide +kernel
theorem dX12_upright_110 : decode cX12_upright 110 = .ok (.goto 4, 3) := by decide +kernel
theorem dX12_upright_113 : decode cX12_upright 113 = .ok (.iconst 0, 1) := by decide +kernel
theorem dX12_upright_114 : decode cX12_upright 114 = .ok (.invokevirtual 504, 3) := by decide +kernel
theorem dX12_upright_117 : decode cX12_upright 117 = .ok (.ireturn, 1) := by decide +kernel
theorem dX12_upright_118 : decode cX12_upright 118 = .ok (.aload_n 0, 1) := by decide +kernel
theorem dX12_upright_119 : decode cX12_upright 119 = .ok (.iload_n 2, 1) := by decide +kernel
theorem dX12_upright_120 : decode cX12_upright 120 = .ok (.bipush 9, 2) := by decide +kernel
theorem dX12_upright_122 : decode cX12_upright 122 = .ok (.if_icmp .ne 7, 3) := by decide +kernel
theorem dX12_upright_125 : decode cX12_upright 125 = .ok (.iconst 1, 1) := by decide +kernel
theorem dX12_upright_126 : decode cX12_upright 126 = .ok (.goto 4, 3) := by decide +kernel
theorem dX12_upright_129 : decode cX12_upright 129 = .ok (.iconst 0, 1) := by decide +kernel
theorem dX12_upright_130 : decode cX12_upright 130 = .ok (.invokevirtual 508, 3) := by decide +kernel
theorem dX12_upright_133 : decode cX12_upright 133 = .ok (.ireturn, 1) := by decide +kernel
theorem dX12_upright_134 : decode cX12_upright 134 = .ok (.bipush (-2), 2) := by decide +kernel
theorem dX12_upright_136 : decode cX12_upright 136 = .ok (.ireturn, 1) := by decide +kernel
theorem dX12_share_0 : decode cX12_share 0 = .ok (.aload_n 0, 1) := by decide +kernel
theorem dX12_share_1 : decode cX12_share 1 = .ok (.iconst 0, 1) := by decide +kernel
theorem dX12_share_2 : decode cX12_share 2 = .ok (.putfield 72, 3) := by decide +kernel
theorem dX12_share_5 : decode cX12_share 5 = .ok (.aload_n 0, 1) := by decide +kernel
theorem dX12_share_6 : decode cX12_share 6 = .ok (.iload_n 1, 1) := by decide +kernel
theorem dX12_share_7 : decode cX12_share 7 = .ok (.invokevirtual 300, 3) := by decide +kernel
theorem dX12_share_10 : decode cX12_share 10 = .ok (.ifCond .eq 34, 3) := by decide +kernel
theorem dX12_share_13 : decode cX12_share 13 = .ok (.aload_n 0, 1) := by decide +kernel
theorem dX12_share_14 : decode cX12_share 14 = .ok (.iload_n 2, 1) := by decide +kernel
theorem dX12_share_15 : decode cX12_share 15 = .ok (.invokevirtual 303, 3) := by decide +kernel
theorem dX12_share_18 : decode cX12_share 18 = .ok (.ifCond .eq 26, 3) := by decide +kernel
theorem dX12_share_21 : decode cX12_share 21 = .ok (.aload_n 0, 1) := by decide +kernel
theorem dX12_share_22 : decode cX12_share 22 = .ok (.invokevirtual 370, 3) := by decide +kernel
theorem dX12_share_25 : decode cX12_share 25 = .ok (.ifCond .le 19, 3) := by decide +kernel
theorem dX12_share_28 : decode cX12_share 28 = .ok (.aload_n 0, 1) := by decide +kernel
theorem dX12_share_29 : decode cX12_share 29 = .ok (.iload_n 2, 1) := by decide +kernel
theorem dX12_share_30 : decode cX12_share 30 = .ok (.invokevirtual 354, 3) := by decide +kernel
theorem dX12_share_33 : decode cX12_share 33 = .ok (.aload_n 0, 1) := by decide +kernel
theorem dX12_share_34 : decode cX12_share 34 = .ok (.invokevirtual 370, 3) := by decide +kernel
theorem dX12_share_37 : decode cX12_share 37 = .ok (.iload_n 3, 1) := by decide +kernel
theorem dX12_share_38 : decode cX12_share 38 = .ok (.invokestatic 373, 3) := by decide +kernel
theorem dX12_share_41 : decode cX12_share 41 = .ok (.goto 4, 3) := by decide +kernel
theorem dX12_share_44 : decode cX12_share 44 = .ok (.iconst (-1), 1) := by decide +kernel
theorem dX12_share_45 : decode cX12_share 45 = .ok (.ireturn, 1) := by decide +kernel
theorem dX12_walk_0 : decode cX12_walk 0 = .ok (.aload_n 0, 1) := by decide +kernel
theorem dX12_walk_1 : decode cX12_walk 1 = .ok (.iconst 0, 1) := by decide +kernel
theorem dX12_walk_2 : decode cX12_walk 2 = .ok (.putfield 72, 3) := by decide +kernel
theorem dX12_walk_5 : decode cX12_walk 5 = .ok (.aload_n 0, 1) := by decide +kernel
theorem dX12_walk_6 : decode cX12_walk 6 = .ok (.iload_n 1, 1) := by decide +kernel
theorem dX12_walk_7 : decode cX12_walk 7 = .ok (.invokevirtual 300, 3) := by decide +kernel
theorem dX12_walk_10 : decode cX12_walk 10 = .ok (.ifCond .eq 11, 3) := by decide +kernel
theorem dX12_walk_13 : decode cX12_walk 13 = .ok (.aload_n 0, 1) := by decide +kernel
theorem dX12_walk_14 : decode cX12_walk 14 = .ok (.iload_n 2, 1) := by decide +kernel
theorem dX12_walk_15 : decode cX12_walk 15 = .ok (.invokevirtual 303, 3) := by decide +kernel
theorem dX12_walk_18 : decode cX12_walk 18 = .ok (.ifCond .ne 5, 3) := by decide +kernel
theorem dX12_walk_21 : decode cX12_walk 21 = .ok (.iconst (-1), 1) := by decide +kernel
theorem dX12_walk_22 : decode cX12_walk 22 = .ok (.ireturn, 1) := by decide +kernel
theorem dX12_walk_23 : decode cX12_walk 23 = .ok (.aload_n 0, 1) := by decide +kernel
theorem dX12_walk_24 : decode cX12_walk 24 = .ok (.getfield 41, 3) := by decide +kernel
theorem dX12_walk_27 : decode cX12_walk 27 = .ok (.iload_n 2, 1) := by decide +kernel
theorem dX12_walk_28 : decode cX12_walk 28 = .ok (.iaload, 1) := by decide +kernel
theorem dX12_walk_29 : decode cX12_walk 29 = .ok (.istore 4, 2) := by decide +kernel
theorem dX12_walk_31 : decode cX12_walk 31 = .ok (.aload_n 0, 1) := by decide +kernel
theorem dX12_walk_32 : decode cX12_walk 32 = .ok (.getfield 44, 3) := by decide +kernel
theorem dX12_walk_35 : decode cX12_walk 35 = .ok (.iload_n 2, 1) := by decide +kernel
theorem dX12_walk_36 : decode cX12_walk 36 = .ok (.iaload, 1) := by decide +kernel
theorem dX12_walk_37 : decode cX12_walk 37 = .ok (.istore 5, 2) := by decide +kernel
theorem dX12_walk_39 : decode cX12_walk 39 = .ok (.iconst (-1), 1) := by decide +kernel
theorem dX12_walk_40 : decode cX12_walk 40 = .ok (.istore 6, 2) := by decide +kernel
theorem dX12_walk_42 : decode cX12_walk 42 = .ok (.ldc_w 353, 3) := by decide +kernel
theorem dX12_walk_45 : decode cX12_walk 45 = .ok (.istore 7, 2) := by decide +kernel
theorem dX12_walk_47 : decode cX12_walk 47 = .ok (.iconst 0, 1) := by decide +kernel
theorem dX12_walk_48 : decode cX12_walk 48 = .ok (.istore 8, 2) := by decide +kernel
theorem dX12_walk_50 : decode cX12_walk 50 = .ok (.iload 8, 2) := by decide +kernel
theorem dX12_walk_52 : decode cX12_walk 52 = .ok (.bipush 100, 2) := by decide +kernel
theorem dX12_walk_54 : decode cX12_walk 54 = .ok (.if_icmp .ge 89, 3) := by decide +kernel
theorem dX12_walk_57 : decode cX12_walk 57 = .ok (.aload_n 0, 1) := by decide +kernel
theorem dX12_walk_58 : decode cX12_walk 58 = .ok (.getfield 41, 3) := by decide +kernel
theorem dX12_walk_61 : decode cX12_walk 61 = .ok (.iload_n 2, 1) := by decide +kernel
theorem dX12_walk_62 : decode cX12_walk 62 = .ok (.iload 8, 2) := by decide +kernel
theorem dX12_walk_64 : decode cX12_walk 64 = .ok (.bipush 10, 2) := by decide +kernel
theorem dX12_walk_66 : decode cX12_walk 66 = .ok (.idiv, 1) := by decide +kernel
theorem dX12_walk_67 : decode cX12_walk 67 = .ok (.iastore, 1) := by decide +kernel
theorem dX12_walk_68 : decode cX12_walk 68 = .ok (.aload_n 0, 1) := by decide +kernel
theorem dX12_walk_69 : decode cX12_walk 69 = .ok (.getfield 44, 3) := by decide +kernel
theorem dX12_walk_72 : decode cX12_walk 72 = .ok (.iload_n 2, 1) := by decide +kernel
theorem dX12_walk_73 : decode cX12_walk 73 = .ok (.iload 8, 2) := by decide +kernel
theorem dX12_walk_75 : decode cX12_walk 75 = .ok (.bipush 10, 2) := by decide +kernel
theorem dX12_walk_77 : decode cX12_walk 77 = .ok (.irem, 1) := by decide +kernel
theorem dX12_walk_78 : decode cX12_walk 78 = .ok (.iastore, 1) := by decide +kernel
theorem dX12_walk_79 : decode cX12_walk 79 = .ok (.aload_n 0, 1) := by decide +kernel
theorem dX12_walk_80 : decode cX12_walk 80 = .ok (.iload_n 2, 1) := by decide +kernel
theorem dX12_walk_81 : decode cX12_walk 81 = .ok (.invokevirtual 297, 3) := by decide +kernel
theorem dX12_walk_84 : decode cX12_walk 84 = .ok (.ifCond .eq 9, 3) := by decide +kernel
theorem dX12_walk_87 : decode cX12_walk 87 = .ok (.ldc_w 353, 3) := by decide +kernel
theorem dX12_walk_90 : decode cX12_walk 90 = .ok (.goto 20, 3) := by decide +kernel
theorem dX12_walk_93 : decode cX12_walk 93 = .ok (.iload 4, 2) := by decide +kernel
theorem dX12_walk_95 : decode cX12_walk 95 = .ok (.iload 5, 2) := by decide +kernel
theorem dX12_walk_97 : decode cX12_walk 97 = .ok (.iload 8, 2) := by decide +kernel
theorem dX12_walk_99 : decode cX12_walk 99 = .ok (.bipush 10, 2) := by decide +kernel
theorem dX12_walk_101 : decode cX12_walk 101 = .ok (.idiv, 1) := by decide +kernel
theorem dX12_walk_102 : decode cX12_walk 102 = .ok (.iload 8, 2) := by decide +kernel
theorem dX12_walk_104 : decode cX12_walk 104 = .ok (.bipush 10, 2) := by decide +kernel
theorem dX12_walk_106 : decode cX12_walk 106 = .ok (.irem, 1) := by decide +kernel
theorem dX12_walk_107 : decode cX12_walk 107 = .ok (.invokestatic 290, 3) := by decide +kernel
theorem dX12_walk_110 : decode cX12_walk 110 = .ok (.istore 9, 2) := by decide +kernel
theorem dX12_walk_112 : decode cX12_walk 112 = .ok (.iload 9, 2) := by decide +kernel
theorem dX12_walk_114 : decode cX12_walk 114 = .ok (.iload 7, 2) := by decide +kernel
theorem dX12_walk_116 : decode cX12_walk 116 = .ok (.if_icmp .ge 8, 3) := by decide +kernel
theorem dX12_walk_119 : decode cX12_walk 119 = .ok (.iload 8, 2) := by decide +kernel
theorem dX12_walk_121 : decode cX12_walk 121 = .ok (.goto 5, 3) := by decide +kernel
theorem dX12_walk_124 : decode cX12_walk 124 = .ok (.iload 6, 2) := by decide +kernel
theorem dX12_walk_126 : decode cX12_walk 126 = .ok (.istore 6, 2) := by decide +kernel
theorem dX12_walk_128 : decode cX12_walk 128 = .ok (.iload 7, 2) := by decide +kernel
theorem dX12_walk_130 : decode cX12_walk 130 = .ok (.iload 9, 2) := by decide +kernel
theorem dX12_walk_132 : decode cX12_walk 132 = .ok (.invokestatic 209, 3) := by decide +kernel
theorem dX12_walk_135 : decode cX12_walk 135 = .ok (.istore 7, 2) := by decide +kernel
theorem dX12_walk_137 : decode cX12_walk 137 = .ok (.iinc 8 1, 3) := by decide +kernel
theorem dX12_walk_140 : decode cX12_walk 140 = .ok (.goto (-90), 3) := by decide +kernel
theorem dX12_walk_143 : decode cX12_walk 143 = .ok (.iload 6, 2) := by decide +kernel
theorem dX12_walk_145 : decode cX12_walk 145 = .ok (.iconst (-1), 1) := by decide +kernel
theorem dX12_walk_146 : decode cX12_walk 146 = .ok (.if_icmp .eq 7, 3) := by decide +kernel
theorem dX12_walk_149 : decode cX12_walk 149 = .ok (.iload_n 3, 1) := by decide +kernel
theorem dX12_walk_150 : decode cX12_walk 150 = .ok (.ifCond .eq 8, 3) := by decide +kernel
theorem dX12_walk_153 : decode cX12_walk 153 = .ok (.iload 6, 2) := by decide +kernel
theorem dX12_walk_155 : decode cX12_walk 155 = .ok (.goto 5, 3) := by decide +kernel
theorem dX12_walk_158 : decode cX12_walk 158 = .ok (.iload 7, 2) := by decide +kernel
theorem dX12_walk_160 : decode cX12_walk 160 = .ok (.ireturn, 1) := by decide +kernel
theorem dX12_forget_0 : decode cX12_forget 0 = .ok (.aload_n 0, 1) := by decide +kernel
theorem dX12_forget_1 : decode cX12_forget 1 = .ok (.iconst 0, 1) := by decide +kernel
theorem dX12_forget_2 : decode cX12_forget 2 = .ok (.putfield 72, 3) := by decide +kernel
theorem dX12_forget_5 : decode cX12_forget 5 = .ok (.aload_n 0, 1) := by decide +kernel
theorem dX12_forget_6 : decode cX12_forget 6 = .ok (.iload_n 1, 1) := by decide +kernel
theorem dX12_forget_7 : decode cX12_forget 7 = .ok (.invokevirtual 300, 3) := by decide +kernel
theorem dX12_forget_10 : decode cX12_forget 10 = .ok (.ifCond .ne 5, 3) := by decide +kernel
theorem dX12_forget_13 : decode cX12_forget 13 = .ok (.iconst (-1), 1) := by decide +kernel
theorem dX12_forget_14 : decode cX12_forget 14 = .ok (.ireturn, 1) := by decide +kernel
theorem dX12_forget_15 : decode cX12_forget 15 = .ok (.iconst (-1), 1) := by decide +kernel
theorem dX12_forget_16 : decode cX12_forget 16 = .ok (.istore_n 3, 1) := by decide +kernel
theorem dX12_forget_17 : decode cX12_forget 17 = .ok (.iconst 0, 1) := by decide +kernel
theorem dX12_forget_18 : decode cX12_forget 18 = .ok (.istore 4, 2) := by decide +kernel
theorem dX12_forget_20 : decode cX12_forget 20 = .ok (.iload 4, 2) := by decide +kernel
theorem dX12_forget_22 : decode cX12_forget 22 = .ok (.iconst 1, 1) := by decide +kernel
theorem dX12_forget_23 : decode cX12_forget 23 = .ok (.aload_n 0, 1) := by decide +kernel
theorem dX12_forget_24 : decode cX12_forget 24 = .ok (.getfield 248, 3) := by decide +kernel
theorem dX12_forget_27 : decode cX12_forget 27 = .ok (.ishl, 1) := by decide +kernel
theorem dX12_forget_28 : decode cX12_forget 28 = .ok (.if_icmp .ge 54, 3) := by decide +kernel
theorem dX12_forget_31 : decode cX12_forget 31 = .ok (.iload_n 3, 1) := by decide +kernel
theorem dX12_forget_32 : decode cX12_forget 32 = .ok (.iconst (-1), 1) := by decide +kernel
theorem dX12_forget_33 : decode cX12_forget 33 = .ok (.if_icmp .eq 15, 3) := by decide +kernel
theorem dX12_forget_36 : decode cX12_forget 36 = .ok (.iload 4, 2) := by decide +kernel
theorem dX12_forget_38 : decode cX12_forget 38 = .ok (.invokestatic 412, 3) := by decide +kernel
theorem dX12_forget_41 : decode cX12_forget 41 = .ok (.iload_n 3, 1) := by decide +kernel
theorem dX12_forget_42 : decode cX12_forget 42 = .ok (.invokestatic 412, 3) := by decide +kernel
theorem dX12_forget_45 : decode cX12_forget 45 = .ok (.if_icmp .ge 7, 3) := by decide +kernel
theorem dX12_forget_48 : decode cX12_forget 48 = .ok (.iconst 1, 1) := by decide +kernel
theorem dX12_forget_49 : decode cX12_forget 49 = .ok (.goto 4, 3) := by decide +kernel
theorem dX12_forget_52 : decode cX12_forget 52 = .ok (.iconst 0, 1) := by decide +kernel
theorem dX12_forget_53 : decode cX12_forget 53 = .ok (.istore 5, 2) := by decide +kernel
theorem dX12_forget_55 : decode cX12_forget 55 = .ok (.iload 5, 2) := by decide +kernel
theorem dX12_forget_57 : decode cX12_forget 57 = .ok (.ifCond .eq 17, 3) := by decide +kernel
theorem dX12_forget_60 : decode cX12_forget 60 = .ok (.aload_n 0, 1) := by decide +kernel
theorem dX12_forget_61 : decode cX12_forget 61 = .ok (.iload 4, 2) := by decide +kernel
theorem dX12_forget_63 : decode cX12_forget 63 = .ok (.invokevirtual 477, 3) := by decide +kernel
theorem dX12_forget_66 : decode cX12_forget 66 = .ok (.ifCond .ne 8, 3) := by decide +kernel
theorem dX12_forget_69 : decode cX12_forget 69 = .ok (.iload 4, 2) := by decide +kernel
theorem dX12_forget_71 : decode cX12_forget 71 = .ok (.goto 4, 3) := by decide +kernel
theorem dX12_forget_74 : decode cX12_forget 74 = .ok (.iload_n 3, 1) := by decide +kernel
theorem dX12_forget_75 : decode cX12_forget 75 = .ok (.istore_n 3, 1) := by decide +kernel
theorem dX12_forget_76 : decode cX12_forget 76 = .ok (.iinc 4 1, 3) := by decide +kernel
theorem dX12_forget_79 : decode cX12_forget 79 = .ok (.goto (-59), 3) := by decide +kernel
theorem dX12_forget_82 : decode cX12_forget 82 = .ok (.iload_n 2, 1) := by decide +kernel
theorem dX12_forget_83 : decode cX12_forget 83 = .ok (.ifCond .eq 7, 3) := by decide +kernel
theorem dX12_forget_86 : decode cX12_forget 86 = .ok (.iload_n 3, 1) := by decide +kernel
theorem dX12_forget_87 : decode cX12_forget 87 = .ok (.goto 7, 3) := by decide +kernel
theorem dX12_forget_90 : decode cX12_forget 90 = .ok (.iload_n 3, 1) := by decide +kernel
theorem dX12_forget_91 : decode cX12_forget 91 = .ok (.invokestatic 412, 3) := by decide +kernel
theorem dX12_forget_94 : decode cX12_forget 94 = .ok (.ireturn, 1) := by decide +kernel
theorem dX12_roundBy_0 : decode cX12_roundBy 0 = .ok (.iload_n 1, 1) := by decide +kernel
theorem dX12_roundBy_1 : decode cX12_roundBy 1 = .ok (.iload_n 3, 1) := by decide +kernel
theorem dX12_roundBy_2 : decode cX12_roundBy 2 = .ok (.invokestatic 76, 3) := by decide +kernel
theorem dX12_roundBy_5 : decode cX12_roundBy 5 = .ok (.ifCond .eq 9, 3) := by decide +kernel
theorem dX12_roundBy_8 : decode cX12_roundBy 8 = .ok (.ldc_w 353, 3) := by decide +kernel
theorem dX12_roundBy_11 : decode cX12_roundBy 11 = .ok (.goto 25, 3) := by decide +kernel
theorem dX12_roundBy_14 : decode cX12_roundBy 14 = .ok (.aload_n 0, 1) := by decide +kernel
theorem dX12_roundBy_15 : decode cX12_roundBy 15 = .ok (.iload_n 2, 1) := by decide +kernel
theorem dX12_roundBy_16 : decode cX12_roundBy 16 = .ok (.iload_n 3, 1) := by decide +kernel
theorem dX12_roundBy_17 : decode cX12_roundBy 17 = .ok (.invokevirtual 387, 3) := by decide +kernel
theorem dX12_roundBy_20 : decode cX12_roundBy 20 = .ok (.aload_n 0, 1) := by decide +kernel
theorem dX12_roundBy_21 : decode cX12_roundBy 21 = .ok (.getfield 53, 3) := by decide +kernel
theorem dX12_roundBy_24 : decode cX12_roundBy 24 = .ok (.bipush 64, 2) := by decide +kernel
theorem dX12_roundBy_26 : decode cX12_roundBy 26 = .ok (.iload_n 3, 1) := by decide +kernel
theorem dX12_roundBy_27 : decode cX12_roundBy 27 = .ok (.imul, 1) := by decide +kernel
theorem dX12_roundBy_28 : decode cX12_roundBy 28 = .ok (.iload_n 1, 1) := by decide +kernel
theorem dX12_roundBy_29 : decode cX12_roundBy 29 = .ok (.iconst 1, 1) := by decide +kernel
theorem dX12_roundBy_30 : decode cX12_roundBy 30 = .ok (.iload_n 3, 1) := by decide +kernel
theorem dX12_roundBy_31 : decode cX12_roundBy 31 = .ok (.ishl, 1) := by decide +kernel
theorem dX12_roundBy_32 : decode cX12_roundBy 32 = .ok (.ior, 1) := by decide +kernel
theorem dX12_roundBy_33 : decode cX12_roundBy 33 = .ok (.iadd, 1) := by decide +kernel
theorem dX12_roundBy_34 : decode cX12_roundBy 34 = .ok (.iaload, 1) := by decide +kernel
theorem dX12_roundBy_35 : decode cX12_roundBy 35 = .ok (.iadd, 1) := by decide +kernel
theorem dX12_roundBy_36 : decode cX12_roundBy 36 = .ok (.ireturn, 1) := by decide +kernel
theorem dX12_round_0 : decode cX12_round 0 = .ok (.aload_n 0, 1) := by decide +kernel
theorem dX12_round_1 : decode cX12_round 1 = .ok (.iconst 0, 1) := by decide +kernel
theorem dX12_round_2 : decode cX12_round 2 = .ok (.putfield 72, 3) := by decide +kernel
theorem dX12_round_5 : decode cX12_round 5 = .ok (.aload_n 0, 1) := by decide +kernel
theorem dX12_round_6 : decode cX12_round 6 = .ok (.iload_n 1, 1) := by decide +kernel
theorem dX12_round_7 : decode cX12_round 7 = .ok (.invokevirtual 300, 3) := by decide +kernel
theorem dX12_round_10 : decode cX12_round 10 = .ok (.ifCond .eq 17, 3) := by decide +kernel
theorem dX12_round_13 : decode cX12_round 13 = .ok (.iload_n 2, 1) := by decide +kernel
theorem dX12_round_14 : decode cX12_round 14 = .ok (.iconst (-1), 1) := by decide +kernel
theorem dX12_round_15 : decode cX12_round 15 = .ok (.aload_n 0, 1) := by decide +kernel
theorem dX12_round_16 : decode cX12_round 16 = .ok (.getfield 254, 3) := by decide +kernel
theorem dX12_round_19 : decode cX12_round 19 = .ok (.iconst 1, 1) := by decide +kernel
theorem dX12_round_20 : decode cX12_round 20 = .ok (.isub, 1) := by decide +kernel
theorem dX12_round_21 : decode cX12_round 21 = .ok (.invokestatic 84, 3) := by decide +kernel
theorem dX12_round_24 : decode cX12_round 24 = .ok (.ifCond .ne 5, 3) := by decide +kernel
theorem dX12_round_27 : decode cX12_round 27 = .ok (.iconst (-1), 1) := by decide +kernel
theorem dX12_round_28 : decode cX12_round 28 = .ok (.ireturn, 1) := by decide +kernel
theorem dX12_round_29 : decode cX12_round 29 = .ok (.iconst 1, 1) := by decide +kernel
theorem dX12_round_30 : decode cX12_round 30 = .ok (.aload_n 0, 1) := by decide +kernel
theorem dX12_round_31 : decode cX12_round 31 = .ok (.getfield 254, 3) := by decide +kernel
theorem dX12_round_34 : decode cX12_round 34 = .ok (.ishl, 1) := by decide +kernel
theorem dX12_round_35 : decode cX12_round 35 = .ok (.iconst 1, 1) := by decide +kernel
theorem dX12_round_36 : decode cX12_round 36 = .ok (.isub, 1) := by decide +kernel
theorem dX12_round_37 : decode cX12_round 37 = .ok (.istore_n 3, 1) := by decide +kernel
theorem dX12_round_38 : decode cX12_round 38 = .ok (.iload_n 3, 1) := by decide +kernel
theorem dX12_round_39 : decode cX12_round 39 = .ok (.istore 4, 2) := by decide +kernel
theorem dX12_round_41 : decode cX12_round 41 = .ok (.iload 4, 2) := by decide +kernel
theorem dX12_round_43 : decode cX12_round 43 = .ok (.ifCond .lt 97, 3) := by decide +kernel
theorem dX12_round_46 : decode cX12_round 46 = .ok (.iconst 0, 1) := by decide +kernel
theorem dX12_round_47 : decode cX12_round 47 = .ok (.istore 5, 2) := by decide +kernel
theorem dX12_round_49 : decode cX12_round 49 = .ok (.iload 5, 2) := by decide +kernel
theorem dX12_round_51 : decode cX12_round 51 = .ok (.bipush 6, 2) := by decide +kernel
theorem dX12_round_53 : decode cX12_round 53 = .ok (.if_icmp .gt 81, 3) := by decide +kernel
theorem dX12_round_56 : decode cX12_round 56 = .ok (.iload 4, 2) := by decide +kernel
theorem dX12_round_58 : decode cX12_round 58 = .ok (.iload_n 3, 1) := by decide +kernel
theorem dX12_round_59 : decode cX12_round 59 = .ok (.if_icmp .ne 14, 3) := by decide +kernel
theorem dX12_round_62 : decode cX12_round 62 = .ok (.aload_n 0, 1) := by decide +kernel
theorem dX12_round_63 : decode cX12_round 63 = .ok (.iload 5, 2) := by decide +kernel
theorem dX12_round_65 : decode cX12_round 65 = .ok (.bipush 6, 2) := by decide +kernel
theorem dX12_round_67 : decode cX12_round 67 = .ok (.invokevirtual 387, 3) := by decide +kernel
theorem dX12_round_70 : decode cX12_round 70 = .ok (.goto 6, 3) := by decide +kernel
theorem dX12_round_73 : decode cX12_round 73 = .ok (.ldc_w 353, 3) := by decide +kernel
theorem dX12_round_76 : decode cX12_round 76 = .ok (.istore 6, 2) := by decide +kernel
theorem dX12_round_78 : decode cX12_round 78 = .ok (.iconst 0, 1) := by decide +kernel
theorem dX12_round_79 : decode cX12_round 79 = .ok (.istore 7, 2) := by decide +kernel
theorem dX12_round_81 : decode cX12_round 81 = .ok (.iload 7, 2) := by decide +kernel
theorem dX12_round_83 : decode cX12_round 83 = .ok (.aload_n 0, 1) := by decide +kernel
theorem dX12_round_84 : decode cX12_round 84 = .ok (.getfield 254, 3) := by decide +kernel
theorem dX12_round_87 : decode cX12_round 87 = .ok (.if_icmp .ge 26, 3) := by decide +kernel
theorem dX12_round_90 : decode cX12_round 90 = .ok (.iload 6, 2) := by decide +kernel
theorem dX12_round_92 : decode cX12_round 92 = .ok (.aload_n 0, 1) := by decide +kernel
theorem dX12_round_93 : decode cX12_round 93 = .ok (.iload 4, 2) := by decide +kernel
theorem dX12_round_95 : decode cX12_round 95 = .ok (.iload 5, 2) := by decide +kernel
theorem dX12_round_97 : decode cX12_round 97 = .ok (.iload 7, 2) := by decide +kernel
theorem dX12_round_99 : decode cX12_round 99 = .ok (.invokevirtual 511, 3) := by decide +kernel
theorem dX12_round_102 : decode cX12_round 102 = .ok (.invokestatic 209, 3) := by decide +kernel
theorem dX12_round_105 : decode cX12_round 105 = .ok (.istore 6, 2) := by decide +kernel
theorem dX12_round_107 : decode cX12_round 107 = .ok (.iinc 7 1, 3) := by decide +kernel
theorem dX12_round_110 : decode cX12_round 110 = .ok (.goto (-29), 3) := by decide +kernel
theorem dX12_round_113 : decode cX12_round 113 = .ok (.aload_n 0, 1) := by decide +kernel
theorem dX12_round_114 : decode cX12_round 114 = .ok (.getfield 53, 3) := by decide +kernel
theorem dX12_round_117 : decode cX12_round 117 = .ok (.bipush 64, 2) := by decide +kernel
theorem dX12_round_119 : decode cX12_round 119 = .ok (.iload 5, 2) := by decide +kernel
theorem dX12_round_121 : decode cX12_round 121 = .ok (.imul, 1) := by decide +kernel
theorem dX12_round_122 : decode cX12_round 122 = .ok (.iload 4, 2) := by decide +kernel
theorem dX12_round_124 : decode cX12_round 124 = .ok (.iadd, 1) := by decide +kernel
theorem dX12_round_125 : decode cX12_round 125 = .ok (.iload 6, 2) := by decide +kernel
theorem dX12_round_127 : decode cX12_round 127 = .ok (.iastore, 1) := by decide +kernel
theorem dX12_round_128 : decode cX12_round 128 = .ok (.iinc 5 1, 3) := by decide +kernel
theorem dX12_round_131 : decode cX12_round 131 = .ok (.goto (-82), 3) := by decide +kernel
theorem dX12_round_134 : decode cX12_round 134 = .ok (.iinc 4 (-1), 3) := by decide +kernel
theorem dX12_round_137 : decode cX12_round 137 = .ok (.goto (-96), 3) := by decide +kernel
theorem dX12_round_140 : decode cX12_round 140 = .ok (.iconst 0, 1) := by decide +kernel
theorem dX12_round_141 : decode cX12_round 141 = .ok (.istore 4, 2) := by decide +kernel
theorem dX12_round_143 : decode cX12_round 143 = .ok (.bipush 6, 2) := by decide +kernel
theorem dX12_round_145 : decode cX12_round 145 = .ok (.istore 5, 2) := by decide +kernel
theorem dX12_round_147 : decode cX12_round 147 = .ok (.iconst 0, 1) := by decide +kernel
theorem dX12_round_148 : decode cX12_round 148 = .ok (.istore 6, 2) := by decide +kernel
theorem dX12_round_150 : decode cX12_round 150 = .ok (.iload 6, 2) := by decide +kernel
theorem dX12_round_152 : decode cX12_round 152 = .ok (.iload_n 2, 1) := by decide +kernel
theorem dX12_round_153 : decode cX12_round 153 = .ok (.if_icmp .gt 57, 3) := by decide +kernel
theorem dX12_round_156 : decode cX12_round 156 = .ok (.iconst 0, 1) := by decide +kernel
theorem dX12_round_157 : decode cX12_round 157 = .ok (.istore 7, 2) := by decide +kernel
theorem dX12_round_159 : decode cX12_round 159 = .ok (.aload_n 0, 1) := by decide +kernel
theorem dX12_round_160 : decode cX12_round 160 = .ok (.iload 4, 2) := by decide +kernel
theorem dX12_round_162 : decode cX12_round 162 = .ok (.iload 5, 2) := by decide +kernel
theorem dX12_round_164 : decode cX12_round 164 = .ok (.iload 7, 2) := by decide +kernel
theorem dX12_round_166 : decode cX12_round 166 = .ok (.invokevirtual 511, 3) := by decide +kernel
theorem dX12_round_169 : decode cX12_round 169 = .ok (.aload_n 0, 1) := by decide +kernel
theorem dX12_round_170 : decode cX12_round 170 = .ok (.getfield 53, 3) := by decide +kernel
theorem dX12_round_173 : decode cX12_round 173 = .ok (.bipush 64, 2) := by decide +kernel
theorem dX12_round_175 : decode cX12_round 175 = .ok (.iload 5, 2) := by decide +kernel
theorem dX12_round_177 : decode cX12_round 177 = .ok (.imul, 1) := by decide +kernel
theorem dX12_round_178 : decode cX12_round 178 = .ok (.iload 4, 2) := by decide +kernel
theorem dX12_round_180 : decode cX12_round 180 = .ok (.iadd, 1) := by decide +kernel
theorem dX12_round_181 : decode cX12_round 181 = .ok (.iaload, 1) := by decide +kernel
theorem dX12_round_182 : decode cX12_round 182 = .ok (.if_icmp .eq 9, 3) := by decide +kernel
theorem dX12_round_185 : decode cX12_round 185 = .ok (.iinc 7 1, 3) := by decide +kernel
theorem dX12_round_188 : decode cX12_round 188 = .ok (.goto (-29), 3) := by decide +kernel
theorem dX12_round_191 : decode cX12_round 191 = .ok (.iload 4, 2) := by decide +kernel
theorem dX12_round_193 : decode cX12_round 193 = .ok (.iconst 1, 1) := by decide +kernel
theorem dX12_round_194 : decode cX12_round 194 = .ok (.iload 7, 2) := by decide +kernel
theorem dX12_round_196 : decode cX12_round 196 = .ok (.ishl, 1) := by decide +kernel
theorem dX12_round_197 : decode cX12_round 197 = .ok (.ior, 1) := by decide +kernel
theorem dX12_round_198 : decode cX12_round 198 = .ok (.istore 4, 2) := by decide +kernel
theorem dX12_round_200 : decode cX12_round 200 = .ok (.iload 7, 2) := by decide +kernel
theorem dX12_round_202 : decode cX12_round 202 = .ok (.istore 5, 2) := by decide +kernel
theorem dX12_round_204 : decode cX12_round 204 = .ok (.iinc 6 1, 3) := by decide +kernel
theorem dX12_round_207 : decode cX12_round 207 = .ok (.goto (-57), 3) := by decide +kernel
theorem dX12_round_210 : decode cX12_round 210 = .ok (.iload_n 2, 1) := by decide +kernel
theorem dX12_round_211 : decode cX12_round 211 = .ok (.iconst (-1), 1) := by decide +kernel
theorem dX12_round_212 : decode cX12_round 212 = .ok (.if_icmp .ne 14, 3) := by decide +kernel
theorem dX12_round_215 : decode cX12_round 215 = .ok (.aload_n 0, 1) := by decide +kernel
theorem dX12_round_216 : decode cX12_round 216 = .ok (.getfield 53, 3) := by decide +kernel
theorem dX12_round_219 : decode cX12_round 219 = .ok (.sipush 384, 3) := by decide +kernel
theorem dX12_round_222 : decode cX12_round 222 = .ok (.iaload, 1) := by decide +kernel
theorem dX12_round_223 : decode cX12_round 223 = .ok (.goto 5, 3) := by decide +kernel
theorem dX12_round_226 : decode cX12_round 226 = .ok (.iload 5, 2) := by decide +kernel
theorem dX12_round_228 : decode cX12_round 228 = .ok (.ireturn, 1) := by decide +kernel
theorem dX12_middle_0 : decode cX12_middle 0 = .ok (.iconst (-1), 1) := by decide +kernel
theorem dX12_middle_1 : decode cX12_middle 1 = .ok (.istore_n 2, 1) := by decide +kernel
theorem dX12_middle_2 : decode cX12_middle 2 = .ok (.ldc_w 353, 3) := by decide +kernel
theorem dX12_middle_5 : decode cX12_middle 5 = .ok (.istore_n 3, 1) := by decide +kernel
theorem dX12_middle_6 : decode cX12_middle 6 = .ok (.iconst 0, 1) := by decide +kernel
theorem dX12_middle_7 : decode cX12_middle 7 = .ok (.istore 4, 2) := by decide +kernel
theorem dX12_middle_9 : decode cX12_middle 9 = .ok (.iload 4, 2) := by decide +kernel
theorem dX12_middle_11 : decode cX12_middle 11 = .ok (.bipush 100, 2) := by decide +kernel
theorem dX12_middle_13 : decode cX12_middle 13 = .ok (.if_icmp .ge 82, 3) := by decide +kernel
theorem dX12_middle_16 : decode cX12_middle 16 = .ok (.iconst 0, 1) := by decide +kernel
theorem dX12_middle_17 : decode cX12_middle 17 = .ok (.istore 5, 2) := by decide +kernel
theorem dX12_middle_19 : decode cX12_middle 19 = .ok (.iconst 0, 1) := by decide +kernel
theorem dX12_middle_20 : decode cX12_middle 20 = .ok (.istore 6, 2) := by decide +kernel
theorem dX12_middle_22 : decode cX12_middle 22 = .ok (.iload 6, 2) := by decide +kernel
theorem dX12_middle_24 : decode cX12_middle 24 = .ok (.aload_n 0, 1) := by decide +kernel
theorem dX12_middle_25 : decode cX12_middle 25 = .ok (.getfield 251, 3) := by decide +kernel
theorem dX12_middle_28 : decode cX12_middle 28 = .ok (.if_icmp .ge 41, 3) := by decide +kernel
theorem dX12_middle_31 : decode cX12_middle 31 = .ok (.iload 5, 2) := by decide +kernel
theorem dX12_middle_33 : decode cX12_middle 33 = .ok (.aload_n 0, 1) := by decide +kernel
theorem dX12_middle_34 : decode cX12_middle 34 = .ok (.getfield 41, 3) := by decide +kernel
theorem dX12_middle_37 : decode cX12_middle 37 = .ok (.iload 6, 2) := by decide +kernel
theorem dX12_middle_39 : decode cX12_middle 39 = .ok (.iaload, 1) := by decide +kernel
theorem dX12_middle_40 : decode cX12_middle 40 = .ok (.aload_n 0, 1) := by decide +kernel
theorem dX12_middle_41 : decode cX12_middle 41 = .ok (.getfield 44, 3) := by decide +kernel
theorem dX12_middle_44 : decode cX12_middle 44 = .ok (.iload 6, 2) := by decide +kernel
theorem dX12_middle_46 : decode cX12_middle 46 = .ok (.iaload, 1) := by decide +kernel
theorem dX12_middle_47 : decode cX12_middle 47 = .ok (.iload 4, 2) := by decide +kernel
theorem dX12_middle_49 : decode cX12_middle 49 = .ok (.bipush 10, 2) := by decide +kernel
theorem dX12_middle_51 : decode cX12_middle 51 = .ok (.idiv, 1) := by decide +kernel
theorem dX12_middle_52 : decode cX12_middle 52 = .ok (.iload 4, 2) := by decide +kernel
theorem dX12_middle_54 : decode cX12_middle 54 = .ok (.bipush 10, 2) := by decide +kernel
theorem dX12_middle_56 : decode cX12_middle 56 = .ok (.irem, 1) := by decide +kernel
theorem dX12_middle_57 : decode cX12_middle 57 = .ok (.invokestatic 290, 3) := by decide +kernel
theorem dX12_middle_60 : decode cX12_middle 60 = .ok (.iadd, 1) := by decide +kernel
theorem dX12_middle_61 : decode cX12_middle 61 = .ok (.istore 5, 2) := by decide +kernel
theorem dX12_middle_63 : decode cX12_middle 63 = .ok (.iinc 6 1, 3) := by decide +kernel
theorem dX12_middle_66 : decode cX12_middle 66 = .ok (.goto (-44), 3) := by decide +kernel
theorem dX12_middle_69 : decode cX12_middle 69 = .ok (.iload 5, 2) := by decide +kernel
theorem dX12_middle_71 : decode cX12_middle 71 = .ok (.iload_n 3, 1) := by decide +kernel
theorem dX12_middle_72 : decode cX12_middle 72 = .ok (.if_icmp .ge 8, 3) := by decide +kernel
theorem dX12_middle_75 : decode cX12_middle 75 = .ok (.iload 4, 2) := by decide +kernel
theorem dX12_middle_77 : decode cX12_middle 77 = .ok (.goto 4, 3) := by decide +kernel
theorem dX12_middle_80 : decode cX12_middle 80 = .ok (.iload_n 2, 1) := by decide +kernel
theorem dX12_middle_81 : decode cX12_middle 81 = .ok (.istore_n 2, 1) := by decide +kernel
theorem dX12_middle_82 : decode cX12_middle 82 = .ok (.iload_n 3, 1) := by decide +kernel
theorem dX12_middle_83 : decode cX12_middle 83 = .ok (.iload 5, 2) := by decide +kernel
theorem dX12_middle_85 : decode cX12_middle 85 = .ok (.invokestatic 209, 3) := by decide +kernel
theorem dX12_middle_88 : decode cX12_middle 88 = .ok (.istore_n 3, 1) := by decide +kernel
theorem dX12_middle_89 : decode cX12_middle 89 = .ok (.iinc 4 1, 3) := by decide +kernel
theorem dX12_middle_92 : decode cX12_middle 92 = .ok (.goto (-83), 3) := by decide +kernel
theorem dX12_middle_95 : decode cX12_middle 95 = .ok (.iload_n 1, 1) := by decide +kernel
theorem dX12_middle_96 : decode cX12_middle 96 = .ok (.ifCond .eq 7, 3) := by decide +kernel
theorem dX12_middle_99 : decode cX12_middle 99 = .ok (.iload_n 3, 1) := by decide +kernel
theorem dX12_middle_100 : decode cX12_middle 100 = .ok (.goto 4, 3) := by decide +kernel
theorem dX12_middle_103 : decode cX12_middle 103 = .ok (.iload_n 2, 1) := by decide +kernel
theorem dX12_middle_104 : decode cX12_middle 104 = .ok (.ireturn, 1) := by decide +kernel
theorem dX12_spot_0 : decode cX12_spot 0 = .ok (.iconst (-1), 1) := by decide +kernel
theorem dX12_spot_1 : decode cX12_spot 1 = .ok (.istore_n 2, 1) := by decide +kernel
theorem dX12_spot_2 : decode cX12_spot 2 = .ok (.iconst (-1), 1) := by decide +kernel
theorem dX12_spot_3 : decode cX12_spot 3 = .ok (.istore_n 3, 1) := by decide +kernel
theorem dX12_spot_4 : decode cX12_spot 4 = .ok (.iconst 0, 1) := by decide +kernel
theorem dX12_spot_5 : decode cX12_spot 5 = .ok (.istore 4, 2) := by decide +kernel
theorem dX12_spot_7 : decode cX12_spot 7 = .ok (.iload 4, 2) := by decide +kernel
theorem dX12_spot_9 : decode cX12_spot 9 = .ok (.bipush 100, 2) := by decide +kernel
theorem dX12_spot_11 : decode cX12_spot 11 = .ok (.if_icmp .ge 56, 3) := by decide +kernel
theorem dX12_spot_14 : decode cX12_spot 14 = .ok (.aload_n 0, 1) := by decide +kernel
theorem dX12_spot_15 : decode cX12_spot 15 = .ok (.iload 4, 2) := by decide +kernel
theorem dX12_spot_17 : decode cX12_spot 17 = .ok (.bipush 10, 2) := by decide +kernel
theorem dX12_spot_19 : decode cX12_spot 19 = .ok (.idiv, 1) := by decide +kernel
theorem dX12_spot_20 : decode cX12_spot 20 = .ok (.putfield 257, 3) := by decide +kernel
theorem dX12_spot_23 : decode cX12_spot 23 = .ok (.aload_n 0, 1) := by decide +kernel
theorem dX12_spot_24 : decode cX12_spot 24 = .ok (.iload 4, 2) := by decide +kernel
theorem dX12_spot_26 : decode cX12_spot 26 = .ok (.bipush 10, 2) := by decide +kernel
theorem dX12_spot_28 : decode cX12_spot 28 = .ok (.irem, 1) := by decide +kernel
theorem dX12_spot_29 : decode cX12_spot 29 = .ok (.putfield 260, 3) := by decide +kernel
theorem dX12_spot_32 : decode cX12_spot 32 = .ok (.aload_n 0, 1) := by decide +kernel
theorem dX12_spot_33 : decode cX12_spot 33 = .ok (.invokevirtual 322, 3) := by decide +kernel
theorem dX12_spot_36 : decode cX12_spot 36 = .ok (.invokestatic 412, 3) := by decide +kernel
theorem dX12_spot_39 : decode cX12_spot 39 = .ok (.istore 5, 2) := by decide +kernel
theorem dX12_spot_41 : decode cX12_spot 41 = .ok (.iload 5, 2) := by decide +kernel
theorem dX12_spot_43 : decode cX12_spot 43 = .ok (.iload_n 3, 1) := by decide +kernel
theorem dX12_spot_44 : decode cX12_spot 44 = .ok (.if_icmp .le 8, 3) := by decide +kernel
theorem dX12_spot_47 : decode cX12_spot 47 = .ok (.iload 4, 2) := by decide +kernel
theorem dX12_spot_49 : decode cX12_spot 49 = .ok (.goto 4, 3) := by decide +kernel
theorem dX12_spot_52 : decode cX12_spot 52 = .ok (.iload_n 2, 1) := by decide +kernel
theorem dX12_spot_53 : decode cX12_spot 53 = .ok (.istore_n 2, 1) := by decide +kernel
theorem dX12_spot_54 : decode cX12_spot 54 = .ok (.iload_n 3, 1) := by decide +kernel
theorem dX12_spot_55 : decode cX12_spot 55 = .ok (.iload 5, 2) := by decide +kernel
theorem dX12_spot_57 : decode cX12_spot 57 = .ok (.invokestatic 153, 3) := by decide +kernel
theorem dX12_spot_60 : decode cX12_spot 60 = .ok (.istore_n 3, 1) := by decide +kernel
theorem dX12_spot_61 : decode cX12_spot 61 = .ok (.iinc 4 1, 3) := by decide +kernel
theorem dX12_spot_64 : decode cX12_spot 64 = .ok (.goto (-57), 3) := by decide +kernel
theorem dX12_spot_67 : decode cX12_spot 67 = .ok (.iload_n 1, 1) := by decide +kernel
theorem dX12_spot_68 : decode cX12_spot 68 = .ok (.ifCond .eq 7, 3) := by decide +kernel
theorem dX12_spot_71 : decode cX12_spot 71 = .ok (.iload_n 3, 1) := by decide +kernel
theorem dX12_spot_72 : decode cX12_spot 72 = .ok (.goto 4, 3) := by decide +kernel
theorem dX12_spot_75 : decode cX12_spot 75 = .ok (.iload_n 2, 1) := by decide +kernel
theorem dX12_spot_76 : decode cX12_spot 76 = .ok (.ireturn, 1) := by decide +kernel
theorem dX12_twins_0 : decode cX12_twins 0 = .ok (.iconst 0, 1) := by decide +kernel
theorem dX12_twins_1 : decode cX12_twins 1 = .ok (.istore_n 1, 1) := by decide +kernel
theorem dX12_twins_2 : decode cX12_twins 2 = .ok (.iconst 0, 1) := by decide +kernel
theorem dX12_twins_3 : decode cX12_twins 3 = .ok (.istore_n 2, 1) := by decide +kernel
theorem dX12_twins_4 : decode cX12_twins 4 = .ok (.iload_n 2, 1) := by decide +kernel
theorem dX12_twins_5 : decode cX12_twins 5 = .ok (.aload_n 0, 1) := by decide +kernel
theorem dX12_twins_6 : decode cX12_twins 6 = .ok (.getfield 251, 3) := by decide +kernel
theorem dX12_twins_9 : decode cX12_twins 9 = .ok (.if_icmp .ge 93, 3) := by decide +kernel
theorem dX12_twins_12 : decode cX12_twins 12 = .ok (.iconst 0, 1) := by decide +kernel
theorem dX12_twins_13 : decode cX12_twins 13 = .ok (.istore_n 3, 1) := by decide +kernel
theorem dX12_twins_14 : decode cX12_twins 14 = .ok (.iload_n 3, 1) := by decide +kernel
theorem dX12_twins_15 : decode cX12_twins 15 = .ok (.iload_n 2, 1) := by decide +kernel
theorem dX12_twins_16 : decode cX12_twins 16 = .ok (.if_icmp .ge 80, 3) := by decide +kernel
theorem dX12_twins_19 : decode cX12_twins 19 = .ok (.iconst 1, 1) := by decide +kernel
theorem dX12_twins_20 : decode cX12_twins 20 = .ok (.istore 4, 2) := by decide +kernel
theorem dX12_twins_22 : decode cX12_twins 22 = .ok (.iconst 0, 1) := by decide +kernel
theorem dX12_twins_23 : decode cX12_twins 23 = .ok (.istore 5, 2) := by decide +kernel
theorem dX12_twins_25 : decode cX12_twins 25 = .ok (.iload 5, 2) := by decide +kernel
theorem dX12_twins_27 : decode cX12_twins 27 = .ok (.bipush 6, 2) := by decide +kernel
theorem dX12_twins_29 : decode cX12_twins 29 = .ok (.if_icmp .ge 48, 3) := by decide +kernel
theorem dX12_twins_32 : decode cX12_twins 32 = .ok (.iload 4, 2) := by decide +kernel
theorem dX12_twins_34 : decode cX12_twins 34 = .ok (.ifCond .eq 34, 3) := by decide +kernel
theorem dX12_twins_37 : decode cX12_twins 37 = .ok (.aload_n 0, 1) := by decide +kernel
theorem dX12_twins_38 : decode cX12_twins 38 = .ok (.getfield 47, 3) := by decide +kernel
theorem dX12_twins_41 : decode cX12_twins 41 = .ok (.bipush 6, 2) := by decide +kernel
theorem dX12_twins_43 : decode cX12_twins 43 = .ok (.iload_n 2, 1) := by decide +kernel
theorem dX12_twins_44 : decode cX12_twins 44 = .ok (.imul, 1) := by decide +kernel
theorem dX12_twins_45 : decode cX12_twins 45 = .ok (.iload 5, 2) := by decide +kernel
