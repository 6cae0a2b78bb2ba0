theorem dX12_mend_127 : decode cX12_mend 127 = .ok (.iload 6, 2) := by decide +kernel
theorem dX12_mend_129 : decode cX12_mend 129 = .ok (.isub, 1) := by decide +kernel
theorem dX12_mend_130 : decode cX12_mend 130 = .ok (.iconst 1, 1) := by decide +kernel
theorem dX12_mend_131 : decode cX12_mend 131 = .ok (.iadd, 1) := by decide +kernel
theorem dX12_mend_132 : decode cX12_mend 132 = .ok (.invokestatic 153, 3) := by decide +kernel
theorem dX12_mend_135 : decode cX12_mend 135 = .ok (.iadd, 1) := by decide +kernel
theorem dX12_mend_136 : decode cX12_mend 136 = .ok (.istore_n 3, 1) := by decide +kernel
theorem dX12_mend_137 : decode cX12_mend 137 = .ok (.iinc 5 1, 3) := by decide +kernel
theorem dX12_mend_140 : decode cX12_mend 140 = .ok (.goto (-105), 3) := by decide +kernel
theorem dX12_mend_143 : decode cX12_mend 143 = .ok (.iload_n 3, 1) := by decide +kernel
theorem dX12_mend_144 : decode cX12_mend 144 = .ok (.ireturn, 1) := by decide +kernel
theorem dX12_quiet_0 : decode cX12_quiet 0 = .ok (.aload_n 0, 1) := by decide +kernel
theorem dX12_quiet_1 : decode cX12_quiet 1 = .ok (.iconst 0, 1) := by decide +kernel
theorem dX12_quiet_2 : decode cX12_quiet 2 = .ok (.putfield 72, 3) := by decide +kernel
theorem dX12_quiet_5 : decode cX12_quiet 5 = .ok (.aload_n 0, 1) := by decide +kernel
theorem dX12_quiet_6 : decode cX12_quiet 6 = .ok (.iload_n 1, 1) := by decide +kernel
theorem dX12_quiet_7 : decode cX12_quiet 7 = .ok (.invokevirtual 300, 3) := by decide +kernel
theorem dX12_quiet_10 : decode cX12_quiet 10 = .ok (.ifCond .ne 6, 3) := by decide +kernel
theorem dX12_quiet_13 : decode cX12_quiet 13 = .ok (.bipush (-2), 2) := by decide +kernel
theorem dX12_quiet_15 : decode cX12_quiet 15 = .ok (.ireturn, 1) := by decide +kernel
theorem dX12_quiet_16 : decode cX12_quiet 16 = .ok (.iconst 0, 1) := by decide +kernel
theorem dX12_quiet_17 : decode cX12_quiet 17 = .ok (.istore_n 3, 1) := by decide +kernel
theorem dX12_quiet_18 : decode cX12_quiet 18 = .ok (.iconst (-1), 1) := by decide +kernel
theorem dX12_quiet_19 : decode cX12_quiet 19 = .ok (.istore 4, 2) := by decide +kernel
theorem dX12_quiet_21 : decode cX12_quiet 21 = .ok (.ldc_w 353, 3) := by decide +kernel
theorem dX12_quiet_24 : decode cX12_quiet 24 = .ok (.istore 5, 2) := by decide +kernel
theorem dX12_quiet_26 : decode cX12_quiet 26 = .ok (.iconst 0, 1) := by decide +kernel
theorem dX12_quiet_27 : decode cX12_quiet 27 = .ok (.istore 6, 2) := by decide +kernel
theorem dX12_quiet_29 : decode cX12_quiet 29 = .ok (.iload 6, 2) := by decide +kernel
theorem dX12_quiet_31 : decode cX12_quiet 31 = .ok (.bipush 100, 2) := by decide +kernel
theorem dX12_quiet_33 : decode cX12_quiet 33 = .ok (.if_icmp .ge 85, 3) := by decide +kernel
theorem dX12_quiet_36 : decode cX12_quiet 36 = .ok (.aload_n 0, 1) := by decide +kernel
theorem dX12_quiet_37 : decode cX12_quiet 37 = .ok (.iload 6, 2) := by decide +kernel
theorem dX12_quiet_39 : decode cX12_quiet 39 = .ok (.bipush 10, 2) := by decide +kernel
theorem dX12_quiet_41 : decode cX12_quiet 41 = .ok (.idiv, 1) := by decide +kernel
theorem dX12_quiet_42 : decode cX12_quiet 42 = .ok (.putfield 257, 3) := by decide +kernel
theorem dX12_quiet_45 : decode cX12_quiet 45 = .ok (.aload_n 0, 1) := by decide +kernel
theorem dX12_quiet_46 : decode cX12_quiet 46 = .ok (.iload 6, 2) := by decide +kernel
theorem dX12_quiet_48 : decode cX12_quiet 48 = .ok (.bipush 10, 2) := by decide +kernel
theorem dX12_quiet_50 : decode cX12_quiet 50 = .ok (.irem, 1) := by decide +kernel
theorem dX12_quiet_51 : decode cX12_quiet 51 = .ok (.putfield 260, 3) := by decide +kernel
theorem dX12_quiet_54 : decode cX12_quiet 54 = .ok (.aload_n 0, 1) := by decide +kernel
theorem dX12_quiet_55 : decode cX12_quiet 55 = .ok (.getfield 257, 3) := by decide +kernel
theorem dX12_quiet_58 : decode cX12_quiet 58 = .ok (.aload_n 0, 1) := by decide +kernel
theorem dX12_quiet_59 : decode cX12_quiet 59 = .ok (.getfield 260, 3) := by decide +kernel
theorem dX12_quiet_62 : decode cX12_quiet 62 = .ok (.aload_n 0, 1) := by decide +kernel
theorem dX12_quiet_63 : decode cX12_quiet 63 = .ok (.iconst 0, 1) := by decide +kernel
theorem dX12_quiet_64 : decode cX12_quiet 64 = .ok (.invokevirtual 244, 3) := by decide +kernel
theorem dX12_quiet_67 : decode cX12_quiet 67 = .ok (.aload_n 0, 1) := by decide +kernel
theorem dX12_quiet_68 : decode cX12_quiet 68 = .ok (.iconst 1, 1) := by decide +kernel
theorem dX12_quiet_69 : decode cX12_quiet 69 = .ok (.invokevirtual 244, 3) := by decide +kernel
theorem dX12_quiet_72 : decode cX12_quiet 72 = .ok (.invokestatic 290, 3) := by decide +kernel
theorem dX12_quiet_75 : decode cX12_quiet 75 = .ok (.istore 7, 2) := by decide +kernel
theorem dX12_quiet_77 : decode cX12_quiet 77 = .ok (.aload_n 0, 1) := by decide +kernel
theorem dX12_quiet_78 : decode cX12_quiet 78 = .ok (.invokevirtual 322, 3) := by decide +kernel
theorem dX12_quiet_81 : decode cX12_quiet 81 = .ok (.ifCond .ne 31, 3) := by decide +kernel
theorem dX12_quiet_84 : decode cX12_quiet 84 = .ok (.iinc 3 1, 3) := by decide +kernel
theorem dX12_quiet_87 : decode cX12_quiet 87 = .ok (.iload 7, 2) := by decide +kernel
theorem dX12_quiet_89 : decode cX12_quiet 89 = .ok (.iload 5, 2) := by decide +kernel
theorem dX12_quiet_91 : decode cX12_quiet 91 = .ok (.if_icmp .ge 8, 3) := by decide +kernel
theorem dX12_quiet_94 : decode cX12_quiet 94 = .ok (.iload 6, 2) := by decide +kernel
theorem dX12_quiet_96 : decode cX12_quiet 96 = .ok (.goto 5, 3) := by decide +kernel
theorem dX12_quiet_99 : decode cX12_quiet 99 = .ok (.iload 4, 2) := by decide +kernel
theorem dX12_quiet_101 : decode cX12_quiet 101 = .ok (.istore 4, 2) := by decide +kernel
theorem dX12_quiet_103 : decode cX12_quiet 103 = .ok (.iload 5, 2) := by decide +kernel
theorem dX12_quiet_105 : decode cX12_quiet 105 = .ok (.iload 7, 2) := by decide +kernel
theorem dX12_quiet_107 : decode cX12_quiet 107 = .ok (.invokestatic 209, 3) := by decide +kernel
theorem dX12_quiet_110 : decode cX12_quiet 110 = .ok (.istore 5, 2) := by decide +kernel
theorem dX12_quiet_112 : decode cX12_quiet 112 = .ok (.iinc 6 1, 3) := by decide +kernel
theorem dX12_quiet_115 : decode cX12_quiet 115 = .ok (.goto (-86), 3) := by decide +kernel
theorem dX12_quiet_118 : decode cX12_quiet 118 = .ok (.iload_n 2, 1) := by decide +kernel
theorem dX12_quiet_119 : decode cX12_quiet 119 = .ok (.ifCond .eq 8, 3) := by decide +kernel
theorem dX12_quiet_122 : decode cX12_quiet 122 = .ok (.iload 4, 2) := by decide +kernel
theorem dX12_quiet_124 : decode cX12_quiet 124 = .ok (.goto 4, 3) := by decide +kernel
theorem dX12_quiet_127 : decode cX12_quiet 127 = .ok (.iload_n 3, 1) := by decide +kernel
theorem dX12_quiet_128 : decode cX12_quiet 128 = .ok (.ireturn, 1) := by decide +kernel
theorem dX12_wrongsOf_0 : decode cX12_wrongsOf 0 = .ok (.iconst 0, 1) := by decide +kernel
theorem dX12_wrongsOf_1 : decode cX12_wrongsOf 1 = .ok (.istore_n 2, 1) := by decide +kernel
theorem dX12_wrongsOf_2 : decode cX12_wrongsOf 2 = .ok (.iconst 0, 1) := by decide +kernel
theorem dX12_wrongsOf_3 : decode cX12_wrongsOf 3 = .ok (.istore_n 3, 1) := by decide +kernel
theorem dX12_wrongsOf_4 : decode cX12_wrongsOf 4 = .ok (.iload_n 3, 1) := by decide +kernel
theorem dX12_wrongsOf_5 : decode cX12_wrongsOf 5 = .ok (.bipush 6, 2) := by decide +kernel
theorem dX12_wrongsOf_7 : decode cX12_wrongsOf 7 = .ok (.if_icmp .ge 23, 3) := by decide +kernel
theorem dX12_wrongsOf_10 : decode cX12_wrongsOf 10 = .ok (.iload_n 2, 1) := by decide +kernel
theorem dX12_wrongsOf_11 : decode cX12_wrongsOf 11 = .ok (.aload_n 0, 1) := by decide +kernel
theorem dX12_wrongsOf_12 : decode cX12_wrongsOf 12 = .ok (.getfield 47, 3) := by decide +kernel
theorem dX12_wrongsOf_15 : decode cX12_wrongsOf 15 = .ok (.bipush 6, 2) := by decide +kernel
theorem dX12_wrongsOf_17 : decode cX12_wrongsOf 17 = .ok (.iload_n 1, 1) := by decide +kernel
theorem dX12_wrongsOf_18 : decode cX12_wrongsOf 18 = .ok (.imul, 1) := by decide +kernel
theorem dX12_wrongsOf_19 : decode cX12_wrongsOf 19 = .ok (.iload_n 3, 1) := by decide +kernel
theorem dX12_wrongsOf_20 : decode cX12_wrongsOf 20 = .ok (.iadd, 1) := by decide +kernel
theorem dX12_wrongsOf_21 : decode cX12_wrongsOf 21 = .ok (.iaload, 1) := by decide +kernel
theorem dX12_wrongsOf_22 : decode cX12_wrongsOf 22 = .ok (.iadd, 1) := by decide +kernel
theorem dX12_wrongsOf_23 : decode cX12_wrongsOf 23 = .ok (.istore_n 2, 1) := by decide +kernel
theorem dX12_wrongsOf_24 : decode cX12_wrongsOf 24 = .ok (.iinc 3 1, 3) := by decide +kernel
theorem dX12_wrongsOf_27 : decode cX12_wrongsOf 27 = .ok (.goto (-23), 3) := by decide +kernel
theorem dX12_wrongsOf_30 : decode cX12_wrongsOf 30 = .ok (.iload_n 2, 1) := by decide +kernel
theorem dX12_wrongsOf_31 : decode cX12_wrongsOf 31 = .ok (.ireturn, 1) := by decide +kernel
theorem dX12_allWrongs_0 : decode cX12_allWrongs 0 = .ok (.iconst 0, 1) := by decide +kernel
theorem dX12_allWrongs_1 : decode cX12_allWrongs 1 = .ok (.istore_n 1, 1) := by decide +kernel
theorem dX12_allWrongs_2 : decode cX12_allWrongs 2 = .ok (.iconst 0, 1) := by decide +kernel
theorem dX12_allWrongs_3 : decode cX12_allWrongs 3 = .ok (.istore_n 2, 1) := by decide +kernel
theorem dX12_allWrongs_4 : decode cX12_allWrongs 4 = .ok (.iload_n 2, 1) := by decide +kernel
theorem dX12_allWrongs_5 : decode cX12_allWrongs 5 = .ok (.aload_n 0, 1) := by decide +kernel
theorem dX12_allWrongs_6 : decode cX12_allWrongs 6 = .ok (.getfield 251, 3) := by decide +kernel
theorem dX12_allWrongs_9 : decode cX12_allWrongs 9 = .ok (.if_icmp .ge 17, 3) := by decide +kernel
theorem dX12_allWrongs_12 : decode cX12_allWrongs 12 = .ok (.iload_n 1, 1) := by decide +kernel
theorem dX12_allWrongs_13 : decode cX12_allWrongs 13 = .ok (.aload_n 0, 1) := by decide +kernel
theorem dX12_allWrongs_14 : decode cX12_allWrongs 14 = .ok (.iload_n 2, 1) := by decide +kernel
theorem dX12_allWrongs_15 : decode cX12_allWrongs 15 = .ok (.invokevirtual 354, 3) := by decide +kernel
theorem dX12_allWrongs_18 : decode cX12_allWrongs 18 = .ok (.iadd, 1) := by decide +kernel
theorem dX12_allWrongs_19 : decode cX12_allWrongs 19 = .ok (.istore_n 1, 1) := by decide +kernel
theorem dX12_allWrongs_20 : decode cX12_allWrongs 20 = .ok (.iinc 2 1, 3) := by decide +kernel
theorem dX12_allWrongs_23 : decode cX12_allWrongs 23 = .ok (.goto (-19), 3) := by decide +kernel
theorem dX12_allWrongs_26 : decode cX12_allWrongs 26 = .ok (.iload_n 1, 1) := by decide +kernel
theorem dX12_allWrongs_27 : decode cX12_allWrongs 27 = .ok (.ireturn, 1) := by decide +kernel
theorem dX12_common_0 : decode cX12_common 0 = .ok (.iload_n 0, 1) := by decide +kernel
theorem dX12_common_1 : decode cX12_common 1 = .ok (.istore_n 2, 1) := by decide +kernel
theorem dX12_common_2 : decode cX12_common 2 = .ok (.iload_n 1, 1) := by decide +kernel
theorem dX12_common_3 : decode cX12_common 3 = .ok (.istore_n 3, 1) := by decide +kernel
theorem dX12_common_4 : decode cX12_common 4 = .ok (.iload_n 3, 1) := by decide +kernel
theorem dX12_common_5 : decode cX12_common 5 = .ok (.ifCond .eq 16, 3) := by decide +kernel
theorem dX12_common_8 : decode cX12_common 8 = .ok (.iload_n 2, 1) := by decide +kernel
theorem dX12_common_9 : decode cX12_common 9 = .ok (.iload_n 3, 1) := by decide +kernel
theorem dX12_common_10 : decode cX12_common 10 = .ok (.irem, 1) := by decide +kernel
theorem dX12_common_11 : decode cX12_common 11 = .ok (.istore 4, 2) := by decide +kernel
theorem dX12_common_13 : decode cX12_common 13 = .ok (.iload_n 3, 1) := by decide +kernel
theorem dX12_common_14 : decode cX12_common 14 = .ok (.istore_n 2, 1) := by decide +kernel
theorem dX12_common_15 : decode cX12_common 15 = .ok (.iload 4, 2) := by decide +kernel
theorem dX12_common_17 : decode cX12_common 17 = .ok (.istore_n 3, 1) := by decide +kernel
theorem dX12_common_18 : decode cX12_common 18 = .ok (.goto (-14), 3) := by decide +kernel
theorem dX12_common_21 : decode cX12_common 21 = .ok (.iload_n 2, 1) := by decide +kernel
theorem dX12_common_22 : decode cX12_common 22 = .ok (.ireturn, 1) := by decide +kernel
theorem dX12_part_0 : decode cX12_part 0 = .ok (.iload_n 2, 1) := by decide +kernel
theorem dX12_part_1 : decode cX12_part 1 = .ok (.ifCond .eq 7, 3) := by decide +kernel
theorem dX12_part_4 : decode cX12_part 4 = .ok (.iload_n 1, 1) := by decide +kernel
theorem dX12_part_5 : decode cX12_part 5 = .ok (.goto 4, 3) := by decide +kernel
theorem dX12_part_8 : decode cX12_part 8 = .ok (.iload_n 0, 1) := by decide +kernel
theorem dX12_part_9 : decode cX12_part 9 = .ok (.iload_n 1, 1) := by decide +kernel
theorem dX12_part_10 : decode cX12_part 10 = .ok (.iload_n 0, 1) := by decide +kernel
theorem dX12_part_11 : decode cX12_part 11 = .ok (.invokestatic 357, 3) := by decide +kernel
theorem dX12_part_14 : decode cX12_part 14 = .ok (.idiv, 1) := by decide +kernel
theorem dX12_part_15 : decode cX12_part 15 = .ok (.ireturn, 1) := by decide +kernel
theorem dX12_commonL_0 : decode cX12_commonL 0 = .ok (.lload_n 0, 1) := by decide +kernel
theorem dX12_commonL_1 : decode cX12_commonL 1 = .ok (.lstore 4, 2) := by decide +kernel
theorem dX12_commonL_3 : decode cX12_commonL 3 = .ok (.lload_n 2, 1) := by decide +kernel
theorem dX12_commonL_4 : decode cX12_commonL 4 = .ok (.lstore 6, 2) := by decide +kernel
theorem dX12_commonL_6 : decode cX12_commonL 6 = .ok (.lload 6, 2) := by decide +kernel
theorem dX12_commonL_8 : decode cX12_commonL 8 = .ok (.lconst 0, 1) := by decide +kernel
theorem dX12_commonL_9 : decode cX12_commonL 9 = .ok (.lcmp, 1) := by decide +kernel
theorem dX12_commonL_10 : decode cX12_commonL 10 = .ok (.ifCond .eq 21, 3) := by decide +kernel
theorem dX12_commonL_13 : decode cX12_commonL 13 = .ok (.lload 4, 2) := by decide +kernel
theorem dX12_commonL_15 : decode cX12_commonL 15 = .ok (.lload 6, 2) := by decide +kernel
theorem dX12_commonL_17 : decode cX12_commonL 17 = .ok (.lrem, 1) := by decide +kernel
theorem dX12_commonL_18 : decode cX12_commonL 18 = .ok (.lstore 8, 2) := by decide +kernel
theorem dX12_commonL_20 : decode cX12_commonL 20 = .ok (.lload 6, 2) := by decide +kernel
theorem dX12_commonL_22 : decode cX12_commonL 22 = .ok (.lstore 4, 2) := by decide +kernel
theorem dX12_commonL_24 : decode cX12_commonL 24 = .ok (.lload 8, 2) := by decide +kernel
theorem dX12_commonL_26 : decode cX12_commonL 26 = .ok (.lstore 6, 2) := by decide +kernel
theorem dX12_commonL_28 : decode cX12_commonL 28 = .ok (.goto (-22), 3) := by decide +kernel
theorem dX12_commonL_31 : decode cX12_commonL 31 = .ok (.lload 4, 2) := by decide +kernel
theorem dX12_commonL_33 : decode cX12_commonL 33 = .ok (.lreturn, 1) := by decide +kernel
theorem dX12_partL_0 : decode cX12_partL 0 = .ok (.iload 4, 2) := by decide +kernel
theorem dX12_partL_2 : decode cX12_partL 2 = .ok (.ifCond .eq 7, 3) := by decide +kernel
theorem dX12_partL_5 : decode cX12_partL 5 = .ok (.lload_n 2, 1) := by decide +kernel
theorem dX12_partL_6 : decode cX12_partL 6 = .ok (.goto 4, 3) := by decide +kernel
theorem dX12_partL_9 : decode cX12_partL 9 = .ok (.lload_n 0, 1) := by decide +kernel
theorem dX12_partL_10 : decode cX12_partL 10 = .ok (.lload_n 2, 1) := by decide +kernel
theorem dX12_partL_11 : decode cX12_partL 11 = .ok (.lload_n 0, 1) := by decide +kernel
theorem dX12_partL_12 : decode cX12_partL 12 = .ok (.invokestatic 360, 3) := by decide +kernel
theorem dX12_partL_15 : decode cX12_partL 15 = .ok (.ldiv, 1) := by decide +kernel
theorem dX12_partL_16 : decode cX12_partL 16 = .ok (.lreturn, 1) := by decide +kernel
theorem dX12_takeLeast_0 : decode cX12_takeLeast 0 = .ok (.iconst 0, 1) := by decide +kernel
theorem dX12_takeLeast_1 : decode cX12_takeLeast 1 = .ok (.istore_n 1, 1) := by decide +kernel
theorem dX12_takeLeast_2 : decode cX12_takeLeast 2 = .ok (.iconst 1, 1) := by decide +kernel
theorem dX12_takeLeast_3 : decode cX12_takeLeast 3 = .ok (.istore_n 2, 1) := by decide +kernel
theorem dX12_takeLeast_4 : decode cX12_takeLeast 4 = .ok (.iload_n 2, 1) := by decide +kernel
theorem dX12_takeLeast_5 : decode cX12_takeLeast 5 = .ok (.bipush 8, 2) := by decide +kernel
theorem dX12_takeLeast_7 : decode cX12_takeLeast 7 = .ok (.if_icmp .ge 30, 3) := by decide +kernel
theorem dX12_takeLeast_10 : decode cX12_takeLeast 10 = .ok (.aload_n 0, 1) := by decide +kernel
theorem dX12_takeLeast_11 : decode cX12_takeLeast 11 = .ok (.getfield 50, 3) := by decide +kernel
theorem dX12_takeLeast_14 : decode cX12_takeLeast 14 = .ok (.iload_n 2, 1) := by decide +kernel
theorem dX12_takeLeast_15 : decode cX12_takeLeast 15 = .ok (.iaload, 1) := by decide +kernel
theorem dX12_takeLeast_16 : decode cX12_takeLeast 16 = .ok (.aload_n 0, 1) := by decide +kernel
theorem dX12_takeLeast_17 : decode cX12_takeLeast 17 = .ok (.getfield 50, 3) := by decide +kernel
theorem dX12_takeLeast_20 : decode cX12_takeLeast 20 = .ok (.iload_n 1, 1) := by decide +kernel
theorem dX12_takeLeast_21 : decode cX12_takeLeast 21 = .ok (.iaload, 1) := by decide +kernel
theorem dX12_takeLeast_22 : decode cX12_takeLeast 22 = .ok (.if_icmp .ge 7, 3) := by decide +kernel
theorem dX12_takeLeast_25 : decode cX12_takeLeast 25 = .ok (.iload_n 2, 1) := by decide +kernel
theorem dX12_takeLeast_26 : decode cX12_takeLeast 26 = .ok (.goto 4, 3) := by decide +kernel
theorem dX12_takeLeast_29 : decode cX12_takeLeast 29 = .ok (.iload_n 1, 1) := by decide +kernel
theorem dX12_takeLeast_30 : decode cX12_takeLeast 30 = .ok (.istore_n 1, 1) := by decide +kernel
theorem dX12_takeLeast_31 : decode cX12_takeLeast 31 = .ok (.iinc 2 1, 3) := by decide +kernel
theorem dX12_takeLeast_34 : decode cX12_takeLeast 34 = .ok (.goto (-30), 3) := by decide +kernel
theorem dX12_takeLeast_37 : decode cX12_takeLeast 37 = .ok (.aload_n 0, 1) := by decide +kernel
theorem dX12_takeLeast_38 : decode cX12_takeLeast 38 = .ok (.getfield 50, 3) := by decide +kernel
theorem dX12_takeLeast_41 : decode cX12_takeLeast 41 = .ok (.iload_n 1, 1) := by decide +kernel
theorem dX12_takeLeast_42 : decode cX12_takeLeast 42 = .ok (.iaload, 1) := by decide +kernel
theorem dX12_takeLeast_43 : decode cX12_takeLeast 43 = .ok (.istore_n 2, 1) := by decide +kernel
theorem dX12_takeLeast_44 : decode cX12_takeLeast 44 = .ok (.aload_n 0, 1) := by decide +kernel
theorem dX12_takeLeast_45 : decode cX12_takeLeast 45 = .ok (.getfield 50, 3) := by decide +kernel
theorem dX12_takeLeast_48 : decode cX12_takeLeast 48 = .ok (.iload_n 1, 1) := by decide +kernel
theorem dX12_takeLeast_49 : decode cX12_takeLeast 49 = .ok (.ldc_w 353, 3) := by decide +kernel
theorem dX12_takeLeast_52 : decode cX12_takeLeast 52 = .ok (.iastore, 1) := by decide +kernel
theorem dX12_takeLeast_53 : decode cX12_takeLeast 53 = .ok (.iload_n 2, 1) := by decide +kernel
theorem dX12_takeLeast_54 : decode cX12_takeLeast 54 = .ok (.ireturn, 1) := by decide +kernel
theorem dX12_questions_0 : decode cX12_questions 0 = .ok (.iconst 0, 1) := by decide +kernel
theorem dX12_questions_1 : decode cX12_questions 1 = .ok (.istore_n 1, 1) := by decide +kernel
theorem dX12_questions_2 : decode cX12_questions 2 = .ok (.iload_n 1, 1) := by decide +kernel
theorem dX12_questions_3 : decode cX12_questions 3 = .ok (.bipush 8, 2) := by decide +kernel
theorem dX12_questions_5 : decode cX12_questions 5 = .ok (.if_icmp .ge 36, 3) := by decide +kernel
theorem dX12_questions_8 : decode cX12_questions 8 = .ok (.aload_n 0, 1) := by decide +kernel
theorem dX12_questions_9 : decode cX12_questions 9 = .ok (.getfield 50, 3) := by decide +kernel
theorem dX12_questions_12 : decode cX12_questions 12 = .ok (.iload_n 1, 1) := by decide +kernel
theorem dX12_questions_13 : decode cX12_questions 13 = .ok (.iload_n 1, 1) := by decide +kernel
theorem dX12_questions_14 : decode cX12_questions 14 = .ok (.aload_n 0, 1) := by decide +kernel
theorem dX12_questions_15 : decode cX12_questions 15 = .ok (.getfield 251, 3) := by decide +kernel
theorem dX12_questions_18 : decode cX12_questions 18 = .ok (.if_icmp .ge 13, 3) := by decide +kernel
theorem dX12_questions_21 : decode cX12_questions 21 = .ok (.iconst 1, 1) := by decide +kernel
theorem dX12_questions_22 : decode cX12_questions 22 = .ok (.aload_n 0, 1) := by decide +kernel
theorem dX12_questions_23 : decode cX12_questions 23 = .ok (.iload_n 1, 1) := by decide +kernel
theorem dX12_questions_24 : decode cX12_questions 24 = .ok (.invokevirtual 354, 3) := by decide +kernel
theorem dX12_questions_27 : decode cX12_questions 27 = .ok (.iadd, 1) := by decide +kernel
theorem dX12_questions_28 : decode cX12_questions 28 = .ok (.goto 6, 3) := by decide +kernel
theorem dX12_questions_31 : decode cX12_questions 31 = .ok (.ldc_w 353, 3) := by decide +kernel
theorem dX12_questions_34 : decode cX12_questions 34 = .ok (.iastore, 1) := by decide +kernel
theorem dX12_questions_35 : decode cX12_questions 35 = .ok (.iinc 1 1, 3) := by decide +kernel
theorem dX12_questions_38 : decode cX12_questions 38 = .ok (.goto (-36), 3) := by decide +kernel
theorem dX12_questions_41 : decode cX12_questions 41 = .ok (.iconst 0, 1) := by decide +kernel
theorem dX12_questions_42 : decode cX12_questions 42 = .ok (.istore_n 1, 1) := by decide +kernel
theorem dX12_questions_43 : decode cX12_questions 43 = .ok (.aload_n 0, 1) := by decide +kernel
theorem dX12_questions_44 : decode cX12_questions 44 = .ok (.getfield 251, 3) := by decide +kernel
theorem dX12_questions_47 : decode cX12_questions 47 = .ok (.istore_n 2, 1) := by decide +kernel
theorem dX12_questions_48 : decode cX12_questions 48 = .ok (.iload_n 2, 1) := by decide +kernel
theorem dX12_questions_49 : decode cX12_questions 49 = .ok (.iconst 1, 1) := by decide +kernel
theorem dX12_questions_50 : decode cX12_questions 50 = .ok (.if_icmp .le 55, 3) := by decide +kernel
theorem dX12_questions_53 : decode cX12_questions 53 = .ok (.aload_n 0, 1) := by decide +kernel
theorem dX12_questions_54 : decode cX12_questions 54 = .ok (.invokevirtual 364, 3) := by decide +kernel
theorem dX12_questions_57 : decode cX12_questions 57 = .ok (.istore_n 3, 1) := by decide +kernel
theorem dX12_questions_58 : decode cX12_questions 58 = .ok (.iload_n 3, 1) := by decide +kernel
theorem dX12_questions_59 : decode cX12_questions 59 = .ok (.aload_n 0, 1) := by decide +kernel
theorem dX12_questions_60 : decode cX12_questions 60 = .ok (.invokevirtual 364, 3) := by decide +kernel
theorem dX12_questions_63 : decode cX12_questions 63 = .ok (.iadd, 1) := by decide +kernel
theorem dX12_questions_64 : decode cX12_questions 64 = .ok (.istore_n 3, 1) := by decide +kernel
theorem dX12_questions_65 : decode cX12_questions 65 = .ok (.iload_n 1, 1) := by decide +kernel
theorem dX12_questions_66 : decode cX12_questions 66 = .ok (.iload_n 3, 1) := by decide +kernel
theorem dX12_questions_67 : decode cX12_questions 67 = .ok (.iadd, 1) := by decide +kernel
theorem dX12_questions_68 : decode cX12_questions 68 = .ok (.istore_n 1, 1) := by decide +kernel
theorem dX12_questions_69 : decode cX12_questions 69 = .ok (.iconst 0, 1) := by decide +kernel
theorem dX12_questions_70 : decode cX12_questions 70 = .ok (.istore 4, 2) := by decide +kernel
theorem dX12_questions_72 : decode cX12_questions 72 = .ok (.aload_n 0, 1) := by decide +kernel
theorem dX12_questions_73 : decode cX12_questions 73 = .ok (.getfield 50, 3) := by decide +kernel
theorem dX12_questions_76 : decode cX12_questions 76 = .ok (.iload 4, 2) := by decide +kernel
theorem dX12_questions_78 : decode cX12_questions 78 = .ok (.iaload, 1) := by decide +kernel
theorem dX12_questions_79 : decode cX12_questions 79 = .ok (.ldc_w 353, 3) := by decide +kernel
theorem dX12_questions_82 : decode cX12_questions 82 = .ok (.if_icmp .eq 9, 3) := by decide +kernel
theorem dX12_questions_85 : decode cX12_questions 85 = .ok (.iinc 4 1, 3) := by decide +kernel
theorem dX12_questions_88 : decode cX12_questions 88 = .ok (.goto (-16), 3) := by decide +kernel
theorem dX12_questions_91 : decode cX12_questions 91 = .ok (.aload_n 0, 1) := by decide +kernel
theorem dX12_questions_92 : decode cX12_questions 92 = .ok (.getfield 50, 3) := by decide +kernel
theorem dX12_questions_95 : decode cX12_questions 95 = .ok (.iload 4, 2) := by decide +kernel
theorem dX12_questions_97 : decode cX12_questions 97 = .ok (.iload_n 3, 1) := by decide +kernel
theorem dX12_questions_98 : decode cX12_questions 98 = .ok (.iastore, 1) := by decide +kernel
theorem dX12_questions_99 : decode cX12_questions 99 = .ok (.iinc 2 (-1), 3) := by decide +kernel
theorem dX12_questions_102 : decode cX12_questions 102 = .ok (.goto (-54), 3) := by decide +kernel
theorem dX12_questions_105 : decode cX12_questions 105 = .ok (.iload_n 1, 1) := by decide +kernel
theorem dX12_questions_106 : decode cX12_questions 106 = .ok (.ireturn, 1) := by decide +kernel
theorem dX12_asking_0 : decode cX12_asking 0 = .ok (.aload_n 0, 1) := by decide +kernel
theorem dX12_asking_1 : decode cX12_asking 1 = .ok (.iconst 0, 1) := by decide +kernel
theorem dX12_asking_2 : decode cX12_asking 2 = .ok (.putfield 72, 3) := by decide +kernel
theorem dX12_asking_5 : decode cX12_asking 5 = .ok (.aload_n 0, 1) := by decide +kernel
theorem dX12_asking_6 : decode cX12_asking 6 = .ok (.iload_n 1, 1) := by decide +kernel
theorem dX12_asking_7 : decode cX12_asking 7 = .ok (.invokevirtual 300, 3) := by decide +kernel
theorem dX12_asking_10 : decode cX12_asking 10 = .ok (.ifCond .eq 19, 3) := by decide +kernel
theorem dX12_asking_13 : decode cX12_asking 13 = .ok (.aload_n 0, 1) := by decide +kernel
theorem dX12_asking_14 : decode cX12_asking 14 = .ok (.getfield 251, 3) := by decide +kernel
theorem dX12_asking_17 : decode cX12_asking 17 = .ok (.ifCond .eq 12, 3) := by decide +kernel
theorem dX12_asking_20 : decode cX12_asking 20 = .ok (.iload_n 2, 1) := by decide +kernel
theorem dX12_asking_21 : decode cX12_asking 21 = .ok (.iconst 0, 1) := by decide +kernel
theorem dX12_asking_22 : decode cX12_asking 22 = .ok (.iconst 2, 1) := by decide +kernel
theorem dX12_asking_23 : decode cX12_asking 23 = .ok (.invokestatic 84, 3) := by decide +kernel
theorem dX12_asking_26 : decode cX12_asking 26 = .ok (.ifCond .ne 5, 3) := by decide +kernel
theorem dX12_asking_29 : decode cX12_asking 29 = .ok (.iconst (-1), 1) := by decide +kernel
theorem dX12_asking_30 : decode cX12_asking 30 = .ok (.ireturn, 1) := by decide +kernel
theorem dX12_asking_31 : decode cX12_asking 31 = .ok (.iload_n 2, 1) := by decide +kernel
theorem dX12_asking_32 : decode cX12_asking 32 = .ok (.iconst 2, 1) := by decide +kernel
theorem dX12_asking_33 : decode cX12_asking 33 = .ok (.if_icmp .ne 23, 3) := by decide +kernel
theorem dX12_asking_36 : decode cX12_asking 36 = .ok (.iconst 0, 1) := by decide +kernel
theorem dX12_asking_37 : decode cX12_asking 37 = .ok (.istore_n 3, 1) := by decide +kernel
theorem dX12_asking_38 : decode cX12_asking 38 = .ok (.iconst 1, 1) := by decide +kernel
theorem dX12_asking_39 : decode cX12_asking 39 = .ok (.iload_n 3, 1) := by decide +kernel
theorem dX12_asking_40 : decode cX12_asking 40 = .ok (.ishl, 1) := by decide +kernel
theorem dX12_asking_41 : decode cX12_asking 41 = .ok (.aload_n 0, 1) := by decide +kernel
theorem dX12_asking_42 : decode cX12_asking 42 = .ok (.getfield 251, 3) := by decide +kernel
theorem dX12_asking_45 : decode cX12_asking 45 = .ok (.if_icmp .ge 9, 3) := by decide +kernel
theorem dX12_asking_48 : decode cX12_asking 48 = .ok (.iinc 3 1, 3) := by decide +kernel
theorem dX12_asking_51 : decode cX12_asking 51 = .ok (.goto (-13), 3) := by decide +kernel
theorem dX12_asking_54 : decode cX12_asking 54 = .ok (.iload_n 3, 1) := by decide +kernel
theorem dX12_asking_55 : decode cX12_asking 55 = .ok (.ireturn, 1) := by decide +kernel
theorem dX12_asking_56 : decode cX12_asking 56 = .ok (.aload_n 0, 1) := by decide +kernel
theorem dX12_asking_57 : decode cX12_asking 57 = .ok (.invokevirtual 367, 3) := by decide +kernel
theorem dX12_asking_60 : decode cX12_asking 60 = .ok (.aload_n 0, 1) := by decide +kernel
theorem dX12_asking_61 : decode cX12_asking 61 = .ok (.getfield 251, 3) := by decide +kernel
theorem dX12_asking_64 : decode cX12_asking 64 = .ok (.aload_n 0, 1) := by decide +kernel
theorem dX12_asking_65 : decode cX12_asking 65 = .ok (.invokevirtual 370, 3) := by decide +kernel
theorem dX12_asking_68 : decode cX12_asking 68 = .ok (.iadd, 1) := by decide +kernel
theorem dX12_asking_69 : decode cX12_asking 69 = .ok (.iload_n 2, 1) := by decide +kernel
theorem dX12_asking_70 : decode cX12_asking 70 = .ok (.iconst 1, 1) := by decide +kernel
theorem dX12_asking_71 : decode cX12_asking 71 = .ok (.if_icmp .ne 7, 3) := by decide +kernel
theorem dX12_asking_74 : decode cX12_asking 74 = .ok (.iconst 1, 1) := by decide +kernel
theorem dX12_asking_75 : decode cX12_asking 75 = .ok (.goto 4, 3) := by decide +kernel
theorem dX12_asking_78 : decode cX12_asking 78 = .ok (.iconst 0, 1) := by decide +kernel
theorem dX12_asking_79 : decode cX12_asking 79 = .ok (.invokestatic 373, 3) := by decide +kernel
theorem dX12_asking_82 : decode cX12_asking 82 = .ok (.ireturn, 1) := by decide +kernel
theorem dX12_pardons_0 : decode cX12_pardons 0 = .ok (.iconst 0, 1) := by decide +kernel
theorem dX12_pardons_1 : decode cX12_pardons 1 = .ok (.istore_n 2, 1) := by decide +kernel
theorem dX12_pardons_2 : decode cX12_pardons 2 = .ok (.iconst 0, 1) := by decide +kernel
theorem dX12_pardons_3 : decode cX12_pardons 3 = .ok (.istore_n 3, 1) := by decide +kernel
theorem dX12_pardons_4 : decode cX12_pardons 4 = .ok (.iload_n 3, 1) := by decide +kernel
theorem dX12_pardons_5 : decode cX12_pardons 5 = .ok (.aload_n 0, 1) := by decide +kernel
theorem dX12_pardons_6 : decode cX12_pardons 6 = .ok (.iconst 5, 1) := by decide +kernel
theorem dX12_pardons_7 : decode cX12_pardons 7 = .ok (.invokevirtual 244, 3) := by decide +kernel
theorem dX12_pardons_10 : decode cX12_pardons 10 = .ok (.if_icmp .ge 32, 3) := by decide +kernel
theorem dX12_pardons_13 : decode cX12_pardons 13 = .ok (.iload_n 2, 1) := by decide +kernel
theorem dX12_pardons_14 : decode cX12_pardons 14 = .ok (.iload_n 1, 1) := by decide +kernel
theorem dX12_pardons_15 : decode cX12_pardons 15 = .ok (.iload_n 3, 1) := by decide +kernel
theorem dX12_pardons_16 : decode cX12_pardons 16 = .ok (.invokestatic 76, 3) := by decide +kernel
theorem dX12_pardons_19 : decode cX12_pardons 19 = .ok (.ifCond .eq 14, 3) := by decide +kernel
theorem dX12_pardons_22 : decode cX12_pardons 22 = .ok (.aload_n 0, 1) := by decide +kernel
theorem dX12_pardons_23 : decode cX12_pardons 23 = .ok (.bipush 89, 2) := by decide +kernel
theorem dX12_pardons_25 : decode cX12_pardons 25 = .ok (.iload_n 3, 1) := by decide +kernel
theorem dX12_pardons_26 : decode cX12_pardons 26 = .ok (.iadd, 1) := by decide +kernel
theorem dX12_pardons_27 : decode cX12_pardons 27 = .ok (.invokevirtual 244, 3) := by decide +kernel
theorem dX12_pardons_30 : decode cX12_pardons 30 = .ok (.goto 4, 3) := by decide +kernel
theorem dX12_pardons_33 : decode cX12_pardons 33 = .ok (.iconst 0, 1) := by decide +kernel
theorem dX12_pardons_34 : decode cX12_pardons 34 = .ok (.ior, 1) := by decide +kernel
theorem dX12_pardons_35 : decode cX12_pardons 35 = .ok (.istore_n 2, 1) := by decide +kernel
theorem dX12_pardons_36 : decode cX12_pardons 36 = .ok (.iinc 3 1, 3) := by decide +kernel
theorem dX12_pardons_39 : decode cX12_pardons 39 = .ok (.goto (-35), 3) := by decide +kernel
theorem dX12_pardons_42 : decode cX12_pardons 42 = .ok (.iload_n 2, 1) := by decide +kernel
theorem dX12_pardons_43 : decode cX12_pardons 43 = .ok (.ireturn, 1) := by decide +kernel
theorem dX12_pricesOf_0 : decode cX12_pricesOf 0 = .ok (.iconst 0, 1) := by decide +kernel
theorem dX12_pricesOf_1 : decode cX12_pricesOf 1 = .ok (.istore_n 2, 1) := by decide +kernel
theorem dX12_pricesOf_2 : decode cX12_pricesOf 2 = .ok (.iconst 0, 1) := by decide +kernel
theorem dX12_pricesOf_3 : decode cX12_pricesOf 3 = .ok (.istore_n 3, 1) := by decide +kernel
theorem dX12_pricesOf_4 : decode cX12_pricesOf 4 = .ok (.iload_n 3, 1) := by decide +kernel
theorem dX12_pricesOf_5 : decode cX12_pricesOf 5 = .ok (.aload_n 0, 1) := by decide +kernel
theorem dX12_pricesOf_6 : decode cX12_pricesOf 6 = .ok (.iconst 5, 1) := by decide +kernel
theorem dX12_pricesOf_7 : decode cX12_pricesOf 7 = .ok (.invokevirtual 244, 3) := by decide +kernel
theorem dX12_pricesOf_10 : decode cX12_pricesOf 10 = .ok (.if_icmp .ge 32, 3) := by decide +kernel
theorem dX12_pricesOf_13 : decode cX12_pricesOf 13 = .ok (.iload_n 2, 1) := by decide +kernel
theorem dX12_pricesOf_14 : decode cX12_pricesOf 14 = .ok (.iload_n 1, 1) := by decide +kernel
theorem dX12_pricesOf_15 : decode cX12_pricesOf 15 = .ok (.iload_n 3, 1) := by decide +kernel
theorem dX12_pricesOf_16 : decode cX12_pricesOf 16 = .ok (.invokestatic 76, 3) := by decide +kernel
theorem dX12_pricesOf_19 : decode cX12_pricesOf 19 = .ok (.ifCond .eq 14, 3) := by decide +kernel
theorem dX12_pricesOf_22 : decode cX12_pricesOf 22 = .ok (.aload_n 0, 1) := by decide +kernel
theorem dX12_pricesOf_23 : decode cX12_pricesOf 23 = .ok (.bipush 95, 2) := by decide +kernel
theorem dX12_pricesOf_25 : decode cX12_pricesOf 25 = .ok (.iload_n 3, 1) := by decide +kernel
theorem dX12_pricesOf_26 : decode cX12_pricesOf 26 = .ok (.iadd, 1) := by decide +kernel
theorem dX12_pricesOf_27 : decode cX12_pricesOf 27 = .ok (.invokevirtual 244, 3) := by decide +kernel
theorem dX12_pricesOf_30 : decode cX12_pricesOf 30 = .ok (.goto 4, 3) := by decide +kernel
theorem dX12_pricesOf_33 : decode cX12_pricesOf 33 = .ok (.iconst 0, 1) := by decide +kernel
theorem dX12_pricesOf_34 : decode cX12_pricesOf 34 = .ok (.iadd, 1) := by decide +kernel
theorem dX12_pricesOf_35 : decode cX12_pricesOf 35 = .ok (.istore_n 2, 1) := by decide +kernel
theorem dX12_pricesOf_36 : decode cX12_pricesOf 36 = .ok (.iinc 3 1, 3) := by decide +kernel
theorem dX12_pricesOf_39 : decode cX12_pricesOf 39 = .ok (.goto (-35), 3) := by decide +kernel
theorem dX12_pricesOf_42 : decode cX12_pricesOf 42 = .ok (.iload_n 2, 1) := by decide +kernel
theorem dX12_pricesOf_43 : decode cX12_pricesOf 43 = .ok (.ireturn, 1) := by decide +kernel
theorem dX12_mindedKinds_0 : decode cX12_mindedKinds 0 = .ok (.iconst 0, 1) := by decide +kernel
theorem dX12_mindedKinds_1 : decode cX12_mindedKinds 1 = .ok (.istore_n 1, 1) := by decide +kernel
theorem dX12_mindedKinds_2 : decode cX12_mindedKinds 2 = .ok (.iconst 0, 1) := by decide +kernel
theorem dX12_mindedKinds_3 : decode cX12_mindedKinds 3 = .ok (.istore_n 2, 1) := by decide +kernel
theorem dX12_mindedKinds_4 : decode cX12_mindedKinds 4 = .ok (.iload_n 2, 1) := by decide +kernel
theorem dX12_mindedKinds_5 : decode cX12_mindedKinds 5 = .ok (.aload_n 0, 1) := by decide +kernel
theorem dX12_mindedKinds_6 : decode cX12_mindedKinds 6 = .ok (.getfield 248, 3) := by decide +kernel
theorem dX12_mindedKinds_9 : decode cX12_mindedKinds 9 = .ok (.if_icmp .ge 63, 3) := by decide +kernel
theorem dX12_mindedKinds_12 : decode cX12_mindedKinds 12 = .ok (.iconst 0, 1) := by decide +kernel
theorem dX12_mindedKinds_13 : decode cX12_mindedKinds 13 = .ok (.istore_n 3, 1) := by decide +kernel
theorem dX12_mindedKinds_14 : decode cX12_mindedKinds 14 = .ok (.iload_n 3, 1) := by decide +kernel
theorem dX12_mindedKinds_15 : decode cX12_mindedKinds 15 = .ok (.aload_n 0, 1) := by decide +kernel
theorem dX12_mindedKinds_16 : decode cX12_mindedKinds 16 = .ok (.getfield 251, 3) := by decide +kernel
theorem dX12_mindedKinds_19 : decode cX12_mindedKinds 19 = .ok (.if_icmp .ge 47, 3) := by decide +kernel
theorem dX12_mindedKinds_22 : decode cX12_mindedKinds 22 = .ok (.iload_n 1, 1) := by decide +kernel
theorem dX12_mindedKinds_23 : decode cX12_mindedKinds 23 = .ok (.aload_n 0, 1) := by decide +kernel
theorem dX12_mindedKinds_24 : decode cX12_mindedKinds 24 = .ok (.getfield 47, 3) := by decide +kernel
theorem dX12_mindedKinds_27 : decode cX12_mindedKinds 27 = .ok (.bipush 6, 2) := by decide +kernel
theorem dX12_mindedKinds_29 : decode cX12_mindedKinds 29 = .ok (.iload_n 3, 1) := by decide +kernel
theorem dX12_mindedKinds_30 : decode cX12_mindedKinds 30 = .ok (.imul, 1) := by decide +kernel
theorem dX12_mindedKinds_31 : decode cX12_mindedKinds 31 = .ok (.aload_n 0, 1) := by decide +kernel
theorem dX12_mindedKinds_32 : decode cX12_mindedKinds 32 = .ok (.bipush 7, 2) := by decide +kernel
theorem dX12_mindedKinds_34 : decode cX12_mindedKinds 34 = .ok (.iload_n 2, 1) := by decide +kernel
theorem dX12_mindedKinds_35 : decode cX12_mindedKinds 35 = .ok (.iadd, 1) := by decide +kernel
theorem dX12_mindedKinds_36 : decode cX12_mindedKinds 36 = .ok (.invokevirtual 244, 3) := by decide +kernel
theorem dX12_mindedKinds_39 : decode cX12_mindedKinds 39 = .ok (.iadd, 1) := by decide +kernel
theorem dX12_mindedKinds_40 : decode cX12_mindedKinds 40 = .ok (.iaload, 1) := by decide +kernel
theorem dX12_mindedKinds_41 : decode cX12_mindedKinds 41 = .ok (.ifCond .le 16, 3) := by decide +kernel
theorem dX12_mindedKinds_44 : decode cX12_mindedKinds 44 = .ok (.iconst 1, 1) := by decide +kernel
theorem dX12_mindedKinds_45 : decode cX12_mindedKinds 45 = .ok (.aload_n 0, 1) := by decide +kernel
theorem dX12_mindedKinds_46 : decode cX12_mindedKinds 46 = .ok (.bipush 7, 2) := by decide +kernel
theorem dX12_mindedKinds_48 : decode cX12_mindedKinds 48 = .ok (.iload_n 2, 1) := by decide +kernel
theorem dX12_mindedKinds_49 : decode cX12_mindedKinds 49 = .ok (.iadd, 1) := by decide +kernel
theorem dX12_mindedKinds_50 : decode cX12_mindedKinds 50 = .ok (.invokevirtual 244, 3) := by decide +kernel
theorem dX12_mindedKinds_53 : decode cX12_mindedKinds 53 = .ok (.ishl, 1) := by decide +kernel
theorem dX12_mindedKinds_54 : decode cX12_mindedKinds 54 = .ok (.goto 4, 3) := by decide +kernel
theorem dX12_mindedKinds_57 : decode cX12_mindedKinds 57 = .ok (.iconst 0, 1) := by decide +kernel
theorem dX12_mindedKinds_58 : decode cX12_mindedKinds 58 = .ok (.ior, 1) := by decide +kernel
theorem dX12_mindedKinds_59 : decode cX12_mindedKinds 59 = .ok (.istore_n 1, 1) := by decide +kernel
theorem dX12_mindedKinds_60 : decode cX12_mindedKinds 60 = .ok (.iinc 3 1, 3) := by decide +kernel
theorem dX12_mindedKinds_63 : decode cX12_mindedKinds 63 = .ok (.goto (-49), 3) := by decide +kernel
theorem dX12_mindedKinds_66 : decode cX12_mindedKinds 66 = .ok (.iinc 2 1, 3) := by decide +kernel
theorem dX12_mindedKinds_69 : decode cX12_mindedKinds 69 = .ok (.goto (-65), 3) := by decide +kernel
theorem dX12_mindedKinds_72 : decode cX12_mindedKinds 72 = .ok (.iload_n 1, 1) := by decide +kernel
theorem dX12_mindedKinds_73 : decode cX12_mindedKinds 73 = .ok (.ireturn, 1) := by decide +kernel
theorem dX12_confess_0 : decode cX12_confess 0 = .ok (.aload_n 0, 1) := by decide +kernel
theorem dX12_confess_1 : decode cX12_confess 1 = .ok (.iconst 0, 1) := by decide +kernel
theorem dX12_confess_2 : decode cX12_confess 2 = .ok (.putfield 72, 3) := by decide +kernel
theorem dX12_confess_5 : decode cX12_confess 5 = .ok (.aload_n 0, 1) := by decide +kernel
theorem dX12_confess_6 : decode cX12_confess 6 = .ok (.iload_n 1, 1) := by decide +kernel
theorem dX12_confess_7 : decode cX12_confess 7 = .ok (.invokevirtual 300, 3) := by decide +kernel
theorem dX12_confess_10 : decode cX12_confess 10 = .ok (.ifCond .ne 5, 3) := by decide +kernel
theorem dX12_confess_13 : decode cX12_confess 13 = .ok (.iconst (-1), 1) := by decide +kernel
theorem dX12_confess_14 : decode cX12_confess 14 = .ok (.ireturn, 1) := by decide +kernel
theorem dX12_confess_15 : decode cX12_confess 15 = .ok (.aload_n 0, 1) := by decide +kernel
theorem dX12_confess_16 : decode cX12_confess 16 = .ok (.invokevirtual 377, 3) := by decide +kernel
theorem dX12_confess_19 : decode cX12_confess 19 = .ok (.istore_n 3, 1) := by decide +kernel
theorem dX12_confess_20 : decode cX12_confess 20 = .ok (.iconst (-1), 1) := by decide +kernel
theorem dX12_confess_21 : decode cX12_confess 21 = .ok (.istore 4, 2) := by decide +kernel
theorem dX12_confess_23 : decode cX12_confess 23 = .ok (.iconst 0, 1) := by decide +kernel
theorem dX12_confess_24 : decode cX12_confess 24 = .ok (.istore 5, 2) := by decide +kernel
theorem dX12_confess_26 : decode cX12_confess 26 = .ok (.iload 5, 2) := by decide +kernel
theorem dX12_confess_28 : decode cX12_confess 28 = .ok (.iconst 1, 1) := by decide +kernel
theorem dX12_confess_29 : decode cX12_confess 29 = .ok (.aload_n 0, 1) := by decide +kernel
theorem dX12_confess_30 : decode cX12_confess 30 = .ok (.iconst 5, 1) := by decide +kernel
theorem dX12_confess_31 : decode cX12_confess 31 = .ok (.invokevirtual 244, 3) := by decide +kernel
theorem dX12_confess_34 : decode cX12_confess 34 = .ok (.ishl, 1) := by decide +kernel
theorem dX12_confess_35 : decode cX12_confess 35 = .ok (.if_icmp .ge 64, 3) := by decide +kernel
theorem dX12_confess_38 : decode cX12_confess 38 = .ok (.iload 4, 2) := by decide +kernel
theorem dX12_confess_40 : decode cX12_confess 40 = .ok (.iconst (-1), 1) := by decide +kernel
theorem dX12_confess_41 : decode cX12_confess 41 = .ok (.if_icmp .eq 18, 3) := by decide +kernel
theorem dX12_confess_44 : decode cX12_confess 44 = .ok (.aload_n 0, 1) := by decide +kernel
theorem dX12_confess_45 : decode cX12_confess 45 = .ok (.iload 5, 2) := by decide +kernel
theorem dX12_confess_47 : decode cX12_confess 47 = .ok (.invokevirtual 380, 3) := by decide +kernel
theorem dX12_confess_50 : decode cX12_confess 50 = .ok (.aload_n 0, 1) := by decide +kernel
theorem dX12_confess_51 : decode cX12_confess 51 = .ok (.iload 4, 2) := by decide +kernel
theorem dX12_confess_53 : decode cX12_confess 53 = .ok (.invokevirtual 380, 3) := by decide +kernel
theorem dX12_confess_56 : decode cX12_confess 56 = .ok (.if_icmp .ge 7, 3) := by decide +kernel
theorem dX12_confess_59 : decode cX12_confess 59 = .ok (.iconst 1, 1) := by decide +kernel
theorem dX12_confess_60 : decode cX12_confess 60 = .ok (.goto 4, 3) := by decide +kernel
theorem dX12_confess_63 : decode cX12_confess 63 = .ok (.iconst 0, 1) := by decide +kernel
theorem dX12_confess_64 : decode cX12_confess 64 = .ok (.istore 6, 2) := by decide +kernel
theorem dX12_confess_66 : decode cX12_confess 66 = .ok (.iload 6, 2) := by decide +kernel
theorem dX12_confess_68 : decode cX12_confess 68 = .ok (.ifCond .eq 21, 3) := by decide +kernel
theorem dX12_confess_71 : decode cX12_confess 71 = .ok (.iload_n 3, 1) := by decide +kernel
theorem dX12_confess_72 : decode cX12_confess 72 = .ok (.aload_n 0, 1) := by decide +kernel
theorem dX12_confess_73 : decode cX12_confess 73 = .ok (.iload 5, 2) := by decide +kernel
theorem dX12_confess_75 : decode cX12_confess 75 = .ok (.invokevirtual 383, 3) := by decide +kernel
theorem dX12_confess_78 : decode cX12_confess 78 = .ok (.iconst (-1), 1) := by decide +kernel
theorem dX12_confess_79 : decode cX12_confess 79 = .ok (.ixor, 1) := by decide +kernel
theorem dX12_confess_80 : decode cX12_confess 80 = .ok (.iand, 1) := by decide +kernel
theorem dX12_confess_81 : decode cX12_confess 81 = .ok (.ifCond .ne 8, 3) := by decide +kernel
theorem dX12_confess_84 : decode cX12_confess 84 = .ok (.iload 5, 2) := by decide +kernel
theorem dX12_confess_86 : decode cX12_confess 86 = .ok (.goto 5, 3) := by decide +kernel
theorem dX12_confess_89 : decode cX12_confess 89 = .ok (.iload 4, 2) := by decide +kernel
theorem dX12_confess_91 : decode cX12_confess 91 = .ok (.istore 4, 2) := by decide +kernel
theorem dX12_confess_93 : decode cX12_confess 93 = .ok (.iinc 5 1, 3) := by decide +kernel
theorem dX12_confess_96 : decode cX12_confess 96 = .ok (.goto (-70), 3) := by decide +kernel
theorem dX12_confess_99 : decode cX12_confess 99 = .ok (.iload 4, 2) := by decide +kernel
theorem dX12_confess_101 : decode cX12_confess 101 = .ok (.iconst (-1), 1) := by decide +kernel
theorem dX12_confess_102 : decode cX12_confess 102 = .ok (.if_icmp .eq 7, 3) := by decide +kernel
theorem dX12_confess_105 : decode cX12_confess 105 = .ok (.iload_n 2, 1) := by decide +kernel
theorem dX12_confess_106 : decode cX12_confess 106 = .ok (.ifCond .eq 8, 3) := by decide +kernel
theorem dX12_confess_109 : decode cX12_confess 109 = .ok (.iload 4, 2) := by decide +kernel
theorem dX12_confess_111 : decode cX12_confess 111 = .ok (.goto 9, 3) := by decide +kernel
theorem dX12_confess_114 : decode cX12_confess 114 = .ok (.aload_n 0, 1) := by decide +kernel
theorem dX12_confess_115 : decode cX12_confess 115 = .ok (.iload 4, 2) := by decide +kernel
theorem dX12_confess_117 : decode cX12_confess 117 = .ok (.invokevirtual 380, 3) := by decide +kernel
theorem dX12_confess_120 : decode cX12_confess 120 = .ok (.ireturn, 1) := by decide +kernel
theorem dX12_townWay_0 : decode cX12_townWay 0 = .ok (.iload_n 1, 1) := by decide +kernel
theorem dX12_townWay_1 : decode cX12_townWay 1 = .ok (.bipush 6, 2) := by decide +kernel
theorem dX12_townWay_3 : decode cX12_townWay 3 = .ok (.if_icmp .ne 11, 3) := by decide +kernel
theorem dX12_townWay_6 : decode cX12_townWay 6 = .ok (.aload_n 0, 1) := by decide +kernel
theorem dX12_townWay_7 : decode cX12_townWay 7 = .ok (.iconst 0, 1) := by decide +kernel
theorem dX12_townWay_8 : decode cX12_townWay 8 = .ok (.invokevirtual 244, 3) := by decide +kernel
theorem dX12_townWay_11 : decode cX12_townWay 11 = .ok (.goto 11, 3) := by decide +kernel
theorem dX12_townWay_14 : decode cX12_townWay 14 = .ok (.aload_n 0, 1) := by decide +kernel
theorem dX12_townWay_15 : decode cX12_townWay 15 = .ok (.bipush 101, 2) := by decide +kernel
theorem dX12_townWay_17 : decode cX12_townWay 17 = .ok (.iload_n 1, 1) := by decide +kernel
theorem dX12_townWay_18 : decode cX12_townWay 18 = .ok (.iadd, 1) := by decide +kernel
theorem dX12_townWay_19 : decode cX12_townWay 19 = .ok (.invokevirtual 244, 3) := by decide +kernel
theorem dX12_townWay_22 : decode cX12_townWay 22 = .ok (.istore_n 3, 1) := by decide +kernel
theorem dX12_townWay_23 : decode cX12_townWay 23 = .ok (.iload_n 1, 1) := by decide +kernel
theorem dX12_townWay_24 : decode cX12_townWay 24 = .ok (.bipush 6, 2) := by decide +kernel
theorem dX12_townWay_26 : decode cX12_townWay 26 = .ok (.if_icmp .ne 11, 3) := by decide +kernel
theorem dX12_townWay_29 : decode cX12_townWay 29 = .ok (.aload_n 0, 1) := by decide +kernel
theorem dX12_townWay_30 : decode cX12_townWay 30 = .ok (.iconst 1, 1) := by decide +kernel
theorem dX12_townWay_31 : decode cX12_townWay 31 = .ok (.invokevirtual 244, 3) := by decide +kernel
theorem dX12_townWay_34 : decode cX12_townWay 34 = .ok (.goto 11, 3) := by decide +kernel
theorem dX12_townWay_37 : decode cX12_townWay 37 = .ok (.aload_n 0, 1) := by decide +kernel
theorem dX12_townWay_38 : decode cX12_townWay 38 = .ok (.bipush 107, 2) := by decide +kernel
theorem dX12_townWay_40 : decode cX12_townWay 40 = .ok (.iload_n 1, 1) := by decide +kernel
theorem dX12_townWay_41 : decode cX12_townWay 41 = .ok (.iadd, 1) := by decide +kernel
theorem dX12_townWay_42 : decode cX12_townWay 42 = .ok (.invokevirtual 244, 3) := by decide +kernel
theorem dX12_townWay_45 : decode cX12_townWay 45 = .ok (.istore 4, 2) := by decide +kernel
theorem dX12_townWay_47 : decode cX12_townWay 47 = .ok (.iload_n 2, 1) := by decide +kernel
theorem dX12_townWay_48 : decode cX12_townWay 48 = .ok (.bipush 6, 2) := by decide +kernel
theorem dX12_townWay_50 : decode cX12_townWay 50 = .ok (.if_icmp .ne 11, 3) := by decide +kernel
theorem dX12_townWay_53 : decode cX12_townWay 53 = .ok (.aload_n 0, 1) := by decide +kernel
theorem dX12_townWay_54 : decode cX12_townWay 54 = .ok (.iconst 0, 1) := by decide +kernel
theorem dX12_townWay_55 : decode cX12_townWay 55 = .ok (.invokevirtual 244, 3) := by decide +kernel
theorem dX12_townWay_58 : decode cX12_townWay 58 = .ok (.goto 11, 3) := by decide +kernel
theorem dX12_townWay_61 : decode cX12_townWay 61 = .ok (.aload_n 0, 1) := by decide +kernel
theorem dX12_townWay_62 : decode cX12_townWay 62 = .ok (.bipush 101, 2) := by decide +kernel
theorem dX12_townWay_64 : decode cX12_townWay 64 = .ok (.iload_n 2, 1) := by decide +kernel
theorem dX12_townWay_65 : decode cX12_townWay 65 = .ok (.iadd, 1) := by decide +kernel
theorem dX12_townWay_66 : decode cX12_townWay 66 = .ok (.invokevirtual 244, 3) := by decide +kernel
theorem dX12_townWay_69 : decode cX12_townWay 69 = .ok (.istore 5, 2) := by decide +kernel
theorem dX12_townWay_71 : decode cX12_townWay 71 = .ok (.iload_n 2, 1) := by decide +kernel
theorem dX12_townWay_72 : decode cX12_townWay 72 = .ok (.bipush 6, 2) := by decide +kernel
theorem dX12_townWay_74 : decode cX12_townWay 74 = .ok (.if_icmp .ne 11, 3) := by decide +kernel
theorem dX12_townWay_77 : decode cX12_townWay 77 = .ok (.aload_n 0, 1) := by decide +kernel
theorem dX12_townWay_78 : decode cX12_townWay 78 = .ok (.iconst 1, 1) := by decide +kernel
theorem dX12_townWay_79 : decode cX12_townWay 79 = .ok (.invokevirtual 244, 3) := by decide +kernel
theorem dX12_townWay_82 : decode cX12_townWay 82 = .ok (.goto 11, 3) := by decide +kernel
theorem dX12_townWay_85 : decode cX12_townWay 85 = .ok (.aload_n 0, 1) := by decide +kernel
theorem dX12_townWay_86 : decode cX12_townWay 86 = .ok (.bipush 107, 2) := by decide +kernel
theorem dX12_townWay_88 : decode cX12_townWay 88 = .ok (.iload_n 2, 1) := by decide +kernel
theorem dX12_townWay_89 : decode cX12_townWay 89 = .ok (.iadd, 1) := by decide +kernel
theorem dX12_townWay_90 : decode cX12_townWay 90 = .ok (.invokevirtual 244, 3) := by decide +kernel
theorem dX12_townWay_93 : decode cX12_townWay 93 = .ok (.istore 6, 2) := by decide +kernel
theorem dX12_townWay_95 : decode cX12_townWay 95 = .ok (.iload_n 3, 1) := by decide +kernel
theorem dX12_townWay_96 : decode cX12_townWay 96 = .ok (.iload 4, 2) := by decide +kernel
theorem dX12_townWay_98 : decode cX12_townWay 98 = .ok (.iload 5, 2) := by decide +kernel
theorem dX12_townWay_100 : decode cX12_townWay 100 = .ok (.iload 6, 2) := by decide +kernel
theorem dX12_townWay_102 : decode cX12_townWay 102 = .ok (.invokestatic 290, 3) := by decide +kernel
theorem dX12_townWay_105 : decode cX12_townWay 105 = .ok (.ireturn, 1) := by decide +kernel
theorem dX12_scoreBy_0 : decode cX12_scoreBy 0 = .ok (.iload_n 1, 1) := by decide +kernel
theorem dX12_scoreBy_1 : decode cX12_scoreBy 1 = .ok (.iload_n 3, 1) := by decide +kernel
theorem dX12_scoreBy_2 : decode cX12_scoreBy 2 = .ok (.invokestatic 76, 3) := by decide +kernel
theorem dX12_scoreBy_5 : decode cX12_scoreBy 5 = .ok (.ifCond .eq 7, 3) := by decide +kernel
theorem dX12_scoreBy_8 : decode cX12_scoreBy 8 = .ok (.ldc_w 386, 3) := by decide +kernel
theorem dX12_scoreBy_11 : decode cX12_scoreBy 11 = .ok (.ireturn, 1) := by decide +kernel
theorem dX12_scoreBy_12 : decode cX12_scoreBy 12 = .ok (.aload_n 0, 1) := by decide +kernel
theorem dX12_scoreBy_13 : decode cX12_scoreBy 13 = .ok (.bipush 113, 2) := by decide +kernel
theorem dX12_scoreBy_15 : decode cX12_scoreBy 15 = .ok (.iload_n 3, 1) := by decide +kernel
theorem dX12_scoreBy_16 : decode cX12_scoreBy 16 = .ok (.iadd, 1) := by decide +kernel
theorem dX12_scoreBy_17 : decode cX12_scoreBy 17 = .ok (.invokevirtual 244, 3) := by decide +kernel
theorem dX12_scoreBy_20 : decode cX12_scoreBy 20 = .ok (.aload_n 0, 1) := by decide +kernel
theorem dX12_scoreBy_21 : decode cX12_scoreBy 21 = .ok (.bipush 119, 2) := by decide +kernel
theorem dX12_scoreBy_23 : decode cX12_scoreBy 23 = .ok (.iload_n 3, 1) := by decide +kernel
theorem dX12_scoreBy_24 : decode cX12_scoreBy 24 = .ok (.iadd, 1) := by decide +kernel
theorem dX12_scoreBy_25 : decode cX12_scoreBy 25 = .ok (.invokevirtual 244, 3) := by decide +kernel
theorem dX12_scoreBy_28 : decode cX12_scoreBy 28 = .ok (.imul, 1) := by decide +kernel
theorem dX12_scoreBy_29 : decode cX12_scoreBy 29 = .ok (.bipush 10, 2) := by decide +kernel
theorem dX12_scoreBy_31 : decode cX12_scoreBy 31 = .ok (.aload_n 0, 1) := by decide +kernel
theorem dX12_scoreBy_32 : decode cX12_scoreBy 32 = .ok (.iload_n 2, 1) := by decide +kernel
theorem dX12_scoreBy_33 : decode cX12_scoreBy 33 = .ok (.iload_n 3, 1) := by decide +kernel
theorem dX12_scoreBy_34 : decode cX12_scoreBy 34 = .ok (.invokevirtual 387, 3) := by decide +kernel
theorem dX12_scoreBy_37 : decode cX12_scoreBy 37 = .ok (.imul, 1) := by decide +kernel
theorem dX12_scoreBy_38 : decode cX12_scoreBy 38 = .ok (.isub, 1) := by decide +kernel
theorem dX12_scoreBy_39 : decode cX12_scoreBy 39 = .ok (.istore 4, 2) := by decide +kernel
theorem dX12_scoreBy_41 : decode cX12_scoreBy 41 = .ok (.bipush 8, 2) := by decide +kernel
theorem dX12_scoreBy_43 : decode cX12_scoreBy 43 = .ok (.iload 4, 2) := by decide +kernel
theorem dX12_scoreBy_45 : decode cX12_scoreBy 45 = .ok (.imul, 1) := by decide +kernel
theorem dX12_scoreBy_46 : decode cX12_scoreBy 46 = .ok (.iconst 1, 1) := by decide +kernel
theorem dX12_scoreBy_47 : decode cX12_scoreBy 47 = .ok (.isub, 1) := by decide +kernel
theorem dX12_scoreBy_48 : decode cX12_scoreBy 48 = .ok (.aload_n 0, 1) := by decide +kernel
theorem dX12_scoreBy_49 : decode cX12_scoreBy 49 = .ok (.getfield 53, 3) := by decide +kernel
theorem dX12_scoreBy_52 : decode cX12_scoreBy 52 = .ok (.bipush 64, 2) := by decide +kernel
theorem dX12_scoreBy_54 : decode cX12_scoreBy 54 = .ok (.iload_n 3, 1) := by decide +kernel
theorem dX12_scoreBy_55 : decode cX12_scoreBy 55 = .ok (.imul, 1) := by decide +kernel
theorem dX12_scoreBy_56 : decode cX12_scoreBy 56 = .ok (.iload_n 1, 1) := by decide +kernel
theorem dX12_scoreBy_57 : decode cX12_scoreBy 57 = .ok (.iconst 1, 1) := by decide +kernel
theorem dX12_scoreBy_58 : decode cX12_scoreBy 58 = .ok (.iload_n 3, 1) := by decide +kernel
theorem dX12_scoreBy_59 : decode cX12_scoreBy 59 = .ok (.ishl, 1) := by decide +kernel
theorem dX12_scoreBy_60 : decode cX12_scoreBy 60 = .ok (.ior, 1) := by decide +kernel
theorem dX12_scoreBy_61 : decode cX12_scoreBy 61 = .ok (.iadd, 1) := by decide +kernel
theorem dX12_scoreBy_62 : decode cX12_scoreBy 62 = .ok (.iaload, 1) := by decide +kernel
theorem dX12_scoreBy_63 : decode cX12_scoreBy 63 = .ok (.iadd, 1) := by decide +kernel
theorem dX12_scoreBy_64 : decode cX12_scoreBy 64 = .ok (.ireturn, 1) := by decide +kernel
theorem dX12_findRoutes_0 : decode cX12_findRoutes 0 = .ok (.iconst 1, 1) := by decide +kernel
theorem dX12_findRoutes_1 : decode cX12_findRoutes 1 = .ok (.aload_n 0, 1) := by decide +kernel
theorem dX12_findRoutes_2 : decode cX12_findRoutes 2 = .ok (.getfield 254, 3) := by decide +kernel
theorem dX12_findRoutes_5 : decode cX12_findRoutes 5 = .ok (.ishl, 1) := by decide +kernel
theorem dX12_findRoutes_6 : decode cX12_findRoutes 6 = .ok (.iconst 1, 1) := by decide +kernel
theorem dX12_findRoutes_7 : decode cX12_findRoutes 7 = .ok (.isub, 1) := by decide +kernel
theorem dX12_findRoutes_8 : decode cX12_findRoutes 8 = .ok (.istore_n 1, 1) := by decide +kernel
theorem dX12_findRoutes_9 : decode cX12_findRoutes 9 = .ok (.iload_n 1, 1) := by decide +kernel
theorem dX12_findRoutes_10 : decode cX12_findRoutes 10 = .ok (.ifCond .lt 68, 3) := by decide +kernel
theorem dX12_findRoutes_13 : decode cX12_findRoutes 13 = .ok (.iconst 0, 1) := by decide +kernel
theorem dX12_findRoutes_14 : decode cX12_findRoutes 14 = .ok (.istore_n 2, 1) := by decide +kernel
theorem dX12_findRoutes_15 : decode cX12_findRoutes 15 = .ok (.iload_n 2, 1) := by decide +kernel
theorem dX12_findRoutes_16 : decode cX12_findRoutes 16 = .ok (.bipush 6, 2) := by decide +kernel
theorem dX12_findRoutes_18 : decode cX12_findRoutes 18 = .ok (.if_icmp .gt 54, 3) := by decide +kernel
theorem dX12_findRoutes_21 : decode cX12_findRoutes 21 = .ok (.iconst 0, 1) := by decide +kernel
theorem dX12_findRoutes_22 : decode cX12_findRoutes 22 = .ok (.istore_n 3, 1) := by decide +kernel
theorem dX12_findRoutes_23 : decode cX12_findRoutes 23 = .ok (.iconst 0, 1) := by decide +kernel
theorem dX12_findRoutes_24 : decode cX12_findRoutes 24 = .ok (.istore 4, 2) := by decide +kernel
theorem dX12_findRoutes_26 : decode cX12_findRoutes 26 = .ok (.iload 4, 2) := by decide +kernel
theorem dX12_findRoutes_28 : decode cX12_findRoutes 28 = .ok (.aload_n 0, 1) := by decide +kernel
theorem dX12_findRoutes_29 : decode cX12_findRoutes 29 = .ok (.getfield 254, 3) := by decide +kernel
theorem dX12_findRoutes_32 : decode cX12_findRoutes 32 = .ok (.if_icmp .ge 22, 3) := by decide +kernel
theorem dX12_findRoutes_35 : decode cX12_findRoutes 35 = .ok (.iload_n 3, 1) := by decide +kernel
theorem dX12_findRoutes_36 : decode cX12_findRoutes 36 = .ok (.aload_n 0, 1) := by decide +kernel
theorem dX12_findRoutes_37 : decode cX12_findRoutes 37 = .ok (.iload_n 1, 1) := by decide +kernel
theorem dX12_findRoutes_38 : decode cX12_findRoutes 38 = .ok (.iload_n 2, 1) := by decide +kernel
theorem dX12_findRoutes_39 : decode cX12_findRoutes 39 = .ok (.iload 4, 2) := by decide +kernel
theorem dX12_findRoutes_41 : decode cX12_findRoutes 41 = .ok (.invokevirtual 390, 3) := by decide +kernel
theorem dX12_findRoutes_44 : decode cX12_findRoutes 44 = .ok (.invokestatic 153, 3) := by decide +kernel
theorem dX12_findRoutes_47 : decode cX12_findRoutes 47 = .ok (.istore_n 3, 1) := by decide +kernel
theorem dX12_findRoutes_48 : decode cX12_findRoutes 48 = .ok (.iinc 4 1, 3) := by decide +kernel
theorem dX12_findRoutes_51 : decode cX12_findRoutes 51 = .ok (.goto (-25), 3) := by decide +kernel
theorem dX12_findRoutes_54 : decode cX12_findRoutes 54 = .ok (.aload_n 0, 1) := by decide +kernel
theorem dX12_findRoutes_55 : decode cX12_findRoutes 55 = .ok (.getfield 53, 3) := by decide +kernel
theorem dX12_findRoutes_58 : decode cX12_findRoutes 58 = .ok (.bipush 64, 2) := by decide +kernel
theorem dX12_findRoutes_60 : decode cX12_findRoutes 60 = .ok (.iload_n 2, 1) := by decide +kernel
theorem dX12_findRoutes_61 : decode cX12_findRoutes 61 = .ok (.imul, 1) := by decide +kernel
theorem dX12_findRoutes_62 : decode cX12_findRoutes 62 = .ok (.iload_n 1, 1) := by decide +kernel
theorem dX12_findRoutes_63 : decode cX12_findRoutes 63 = .ok (.iadd, 1) := by decide +kernel
theorem dX12_findRoutes_64 : decode cX12_findRoutes 64 = .ok (.iload_n 3, 1) := by decide +kernel
theorem dX12_findRoutes_65 : decode cX12_findRoutes 65 = .ok (.iastore, 1) := by decide +kernel
theorem dX12_findRoutes_66 : decode cX12_findRoutes 66 = .ok (.iinc 2 1, 3) := by decide +kernel
theorem dX12_findRoutes_69 : decode cX12_findRoutes 69 = .ok (.goto (-54), 3) := by decide +kernel
theorem dX12_findRoutes_72 : decode cX12_findRoutes 72 = .ok (.iinc 1 (-1), 3) := by decide +kernel
theorem dX12_findRoutes_75 : decode cX12_findRoutes 75 = .ok (.goto (-66), 3) := by decide +kernel
theorem dX12_findRoutes_78 : decode cX12_findRoutes 78 = .ok (.return_, 1) := by decide +kernel
theorem dX12_layRoute_0 : decode cX12_layRoute 0 = .ok (.aload_n 0, 1) := by decide +kernel
theorem dX12_layRoute_1 : decode cX12_layRoute 1 = .ok (.invokevirtual 393, 3) := by decide +kernel
theorem dX12_layRoute_4 : decode cX12_layRoute 4 = .ok (.iconst 0, 1) := by decide +kernel
theorem dX12_layRoute_5 : decode cX12_layRoute 5 = .ok (.istore_n 1, 1) := by decide +kernel
theorem dX12_layRoute_6 : decode cX12_layRoute 6 = .ok (.bipush 6, 2) := by decide +kernel
theorem dX12_layRoute_8 : decode cX12_layRoute 8 = .ok (.istore_n 2, 1) := by decide +kernel
theorem dX12_layRoute_9 : decode cX12_layRoute 9 = .ok (.aload_n 0, 1) := by decide +kernel
theorem dX12_layRoute_10 : decode cX12_layRoute 10 = .ok (.iconst 0, 1) := by decide +kernel
theorem dX12_layRoute_11 : decode cX12_layRoute 11 = .ok (.putfield 396, 3) := by decide +kernel
theorem dX12_layRoute_14 : decode cX12_layRoute 14 = .ok (.aload_n 0, 1) := by decide +kernel
theorem dX12_layRoute_15 : decode cX12_layRoute 15 = .ok (.getfield 53, 3) := by decide +kernel
theorem dX12_layRoute_18 : decode cX12_layRoute 18 = .ok (.bipush 64, 2) := by decide +kernel
theorem dX12_layRoute_20 : decode cX12_layRoute 20 = .ok (.iload_n 2, 1) := by decide +kernel
theorem dX12_layRoute_21 : decode cX12_layRoute 21 = .ok (.imul, 1) := by decide +kernel
theorem dX12_layRoute_22 : decode cX12_layRoute 22 = .ok (.iload_n 1, 1) := by decide +kernel
theorem dX12_layRoute_23 : decode cX12_layRoute 23 = .ok (.iadd, 1) := by decide +kernel
theorem dX12_layRoute_24 : decode cX12_layRoute 24 = .ok (.iaload, 1) := by decide +kernel
theorem dX12_layRoute_25 : decode cX12_layRoute 25 = .ok (.ifCond .le 63, 3) := by decide +kernel
theorem dX12_layRoute_28 : decode cX12_layRoute 28 = .ok (.iconst 0, 1) := by decide +kernel
theorem dX12_layRoute_29 : decode cX12_layRoute 29 = .ok (.istore_n 3, 1) := by decide +kernel
theorem dX12_layRoute_30 : decode cX12_layRoute 30 = .ok (.aload_n 0, 1) := by decide +kernel
theorem dX12_layRoute_31 : decode cX12_layRoute 31 = .ok (.iload_n 1, 1) := by decide +kernel
theorem dX12_layRoute_32 : decode cX12_layRoute 32 = .ok (.iload_n 2, 1) := by decide +kernel
theorem dX12_layRoute_33 : decode cX12_layRoute 33 = .ok (.iload_n 3, 1) := by decide +kernel
theorem dX12_layRoute_34 : decode cX12_layRoute 34 = .ok (.invokevirtual 390, 3) := by decide +kernel
theorem dX12_layRoute_37 : decode cX12_layRoute 37 = .ok (.aload_n 0, 1) := by decide +kernel
theorem dX12_layRoute_38 : decode cX12_layRoute 38 = .ok (.getfield 53, 3) := by decide +kernel
theorem dX12_layRoute_41 : decode cX12_layRoute 41 = .ok (.bipush 64, 2) := by decide +kernel
theorem dX12_layRoute_43 : decode cX12_layRoute 43 = .ok (.iload_n 2, 1) := by decide +kernel
theorem dX12_layRoute_44 : decode cX12_layRoute 44 = .ok (.imul, 1) := by decide +kernel
theorem dX12_layRoute_45 : decode cX12_layRoute 45 = .ok (.iload_n 1, 1) := by decide +kernel
theorem dX12_layRoute_46 : decode cX12_layRoute 46 = .ok (.iadd, 1) := by decide +kernel
theorem dX12_layRoute_47 : decode cX12_layRoute 47 = .ok (.iaload, 1) := by decide +kernel
theorem dX12_layRoute_48 : decode cX12_layRoute 48 = .ok (.if_icmp .eq 9, 3) := by decide +kernel
theorem dX12_layRoute_51 : decode cX12_layRoute 51 = .ok (.iinc 3 1, 3) := by decide +kernel
theorem dX12_layRoute_54 : decode cX12_layRoute 54 = .ok (.goto (-24), 3) := by decide +kernel
theorem dX12_layRoute_57 : decode cX12_layRoute 57 = .ok (.aload_n 0, 1) := by decide +kernel
theorem dX12_layRoute_58 : decode cX12_layRoute 58 = .ok (.getfield 56, 3) := by decide +kernel
theorem dX12_layRoute_61 : decode cX12_layRoute 61 = .ok (.aload_n 0, 1) := by decide +kernel
theorem dX12_layRoute_62 : decode cX12_layRoute 62 = .ok (.getfield 396, 3) := by decide +kernel
theorem dX12_layRoute_65 : decode cX12_layRoute 65 = .ok (.iload_n 3, 1) := by decide +kernel
theorem dX12_layRoute_66 : decode cX12_layRoute 66 = .ok (.iastore, 1) := by decide +kernel
theorem dX12_layRoute_67 : decode cX12_layRoute 67 = .ok (.aload_n 0, 1) := by decide +kernel
theorem dX12_layRoute_68 : decode cX12_layRoute 68 = .ok (.dup, 1) := by decide +kernel
theorem dX12_layRoute_69 : decode cX12_layRoute 69 = .ok (.getfield 396, 3) := by decide +kernel
theorem dX12_layRoute_72 : decode cX12_layRoute 72 = .ok (.iconst 1, 1) := by decide +kernel
theorem dX12_layRoute_73 : decode cX12_layRoute 73 = .ok (.iadd, 1) := by decide +kernel
theorem dX12_layRoute_74 : decode cX12_layRoute 74 = .ok (.putfield 396, 3) := by decide +kernel
theorem dX12_layRoute_77 : decode cX12_layRoute 77 = .ok (.iload_n 1, 1) := by decide +kernel
theorem dX12_layRoute_78 : decode cX12_layRoute 78 = .ok (.iconst 1, 1) := by decide +kernel
theorem dX12_layRoute_79 : decode cX12_layRoute 79 = .ok (.iload_n 3, 1) := by decide +kernel
theorem dX12_layRoute_80 : decode cX12_layRoute 80 = .ok (.ishl, 1) := by decide +kernel
theorem dX12_layRoute_81 : decode cX12_layRoute 81 = .ok (.ior, 1) := by decide +kernel
theorem dX12_layRoute_82 : decode cX12_layRoute 82 = .ok (.istore_n 1, 1) := by decide +kernel
theorem dX12_layRoute_83 : decode cX12_layRoute 83 = .ok (.iload_n 3, 1) := by decide +kernel
theorem dX12_layRoute_84 : decode cX12_layRoute 84 = .ok (.istore_n 2, 1) := by decide +kernel
theorem dX12_layRoute_85 : decode cX12_layRoute 85 = .ok (.goto (-71), 3) := by decide +kernel
theorem dX12_layRoute_88 : decode cX12_layRoute 88 = .ok (.return_, 1) := by decide +kernel
theorem dX12_route_0 : decode cX12_route 0 = .ok (.aload_n 0, 1) := by decide +kernel
theorem dX12_route_1 : decode cX12_route 1 = .ok (.iconst 0, 1) := by decide +kernel
theorem dX12_route_2 : decode cX12_route 2 = .ok (.putfield 72, 3) := by decide +kernel
theorem dX12_route_5 : decode cX12_route 5 = .ok (.aload_n 0, 1) := by decide +kernel
theorem dX12_route_6 : decode cX12_route 6 = .ok (.iload_n 1, 1) := by decide +kernel
theorem dX12_route_7 : decode cX12_route 7 = .ok (.invokevirtual 300, 3) := by decide +kernel
theorem dX12_route_10 : decode cX12_route 10 = .ok (.ifCond .ne 6, 3) := by decide +kernel
theorem dX12_route_13 : decode cX12_route 13 = .ok (.bipush (-2), 2) := by decide +kernel
theorem dX12_route_15 : decode cX12_route 15 = .ok (.ireturn, 1) := by decide +kernel
theorem dX12_route_16 : decode cX12_route 16 = .ok (.aload_n 0, 1) := by decide +kernel
theorem dX12_route_17 : decode cX12_route 17 = .ok (.invokevirtual 399, 3) := by decide +kernel
theorem dX12_route_20 : decode cX12_route 20 = .ok (.iload_n 2, 1) := by decide +kernel
theorem dX12_route_21 : decode cX12_route 21 = .ok (.bipush 10, 2) := by decide +kernel
theorem dX12_route_23 : decode cX12_route 23 = .ok (.if_icmp .lt 29, 3) := by decide +kernel
theorem dX12_route_26 : decode cX12_route 26 = .ok (.iload_n 2, 1) := by decide +kernel
theorem dX12_route_27 : decode cX12_route 27 = .ok (.bipush 10, 2) := by decide +kernel
theorem dX12_route_29 : decode cX12_route 29 = .ok (.isub, 1) := by decide +kernel
theorem dX12_route_30 : decode cX12_route 30 = .ok (.aload_n 0, 1) := by decide +kernel
theorem dX12_route_31 : decode cX12_route 31 = .ok (.getfield 396, 3) := by decide +kernel
theorem dX12_route_34 : decode cX12_route 34 = .ok (.if_icmp .ge 15, 3) := by decide +kernel
theorem dX12_route_37 : decode cX12_route 37 = .ok (.aload_n 0, 1) := by decide +kernel
theorem dX12_route_38 : decode cX12_route 38 = .ok (.getfield 56, 3) := by decide +kernel
theorem dX12_route_41 : decode cX12_route 41 = .ok (.iload_n 2, 1) := by decide +kernel
theorem dX12_route_42 : decode cX12_route 42 = .ok (.bipush 10, 2) := by decide +kernel
theorem dX12_route_44 : decode cX12_route 44 = .ok (.isub, 1) := by decide +kernel
theorem dX12_route_45 : decode cX12_route 45 = .ok (.iaload, 1) := by decide +kernel
theorem dX12_route_46 : decode cX12_route 46 = .ok (.goto 5, 3) := by decide +kernel
theorem dX12_route_49 : decode cX12_route 49 = .ok (.bipush (-2), 2) := by decide +kernel
theorem dX12_route_51 : decode cX12_route 51 = .ok (.ireturn, 1) := by decide +kernel
theorem dX12_route_52 : decode cX12_route 52 = .ok (.iload_n 2, 1) := by decide +kernel
theorem dX12_route_53 : decode cX12_route 53 = .ok (.ifCond .ne 22, 3) := by decide +kernel
theorem dX12_route_56 : decode cX12_route 56 = .ok (.aload_n 0, 1) := by decide +kernel
theorem dX12_route_57 : decode cX12_route 57 = .ok (.getfield 53, 3) := by decide +kernel
theorem dX12_route_60 : decode cX12_route 60 = .ok (.sipush 384, 3) := by decide +kernel
theorem dX12_route_63 : decode cX12_route 63 = .ok (.iaload, 1) := by decide +kernel
theorem dX12_route_64 : decode cX12_route 64 = .ok (.aload_n 0, 1) := by decide +kernel
theorem dX12_route_65 : decode cX12_route 65 = .ok (.getfield 396, 3) := by decide +kernel
theorem dX12_route_68 : decode cX12_route 68 = .ok (.iadd, 1) := by decide +kernel
theorem dX12_route_69 : decode cX12_route 69 = .ok (.bipush 8, 2) := by decide +kernel
theorem dX12_route_71 : decode cX12_route 71 = .ok (.idiv, 1) := by decide +kernel
theorem dX12_route_72 : decode cX12_route 72 = .ok (.goto 17, 3) := by decide +kernel
theorem dX12_route_75 : decode cX12_route 75 = .ok (.iload_n 2, 1) := by decide +kernel
theorem dX12_route_76 : decode cX12_route 76 = .ok (.iconst 1, 1) := by decide +kernel
theorem dX12_route_77 : decode cX12_route 77 = .ok (.if_icmp .ne 10, 3) := by decide +kernel
theorem dX12_route_80 : decode cX12_route 80 = .ok (.aload_n 0, 1) := by decide +kernel
theorem dX12_route_81 : decode cX12_route 81 = .ok (.getfield 396, 3) := by decide +kernel
theorem dX12_route_84 : decode cX12_route 84 = .ok (.goto 5, 3) := by decide +kernel
theorem dX12_route_87 : decode cX12_route 87 = .ok (.bipush (-2), 2) := by decide +kernel
theorem dX12_route_89 : decode cX12_route 89 = .ok (.ireturn, 1) := by decide +kernel
theorem dX12_nines_0 : decode cX12_nines 0 = .ok (.iconst 1, 1) := by decide +kernel
theorem dX12_nines_1 : decode cX12_nines 1 = .ok (.istore_n 1, 1) := by decide +kernel
theorem dX12_nines_2 : decode cX12_nines 2 = .ok (.iconst 0, 1) := by decide +kernel
theorem dX12_nines_3 : decode cX12_nines 3 = .ok (.istore_n 2, 1) := by decide +kernel
theorem dX12_nines_4 : decode cX12_nines 4 = .ok (.iload_n 2, 1) := by decide +kernel
theorem dX12_nines_5 : decode cX12_nines 5 = .ok (.iload_n 0, 1) := by decide +kernel
theorem dX12_nines_6 : decode cX12_nines 6 = .ok (.if_icmp .ge 14, 3) := by decide +kernel
theorem dX12_nines_9 : decode cX12_nines 9 = .ok (.iload_n 1, 1) := by decide +kernel
theorem dX12_nines_10 : decode cX12_nines 10 = .ok (.bipush 9, 2) := by decide +kernel
theorem dX12_nines_12 : decode cX12_nines 12 = .ok (.imul, 1) := by decide +kernel
theorem dX12_nines_13 : decode cX12_nines 13 = .ok (.istore_n 1, 1) := by decide +kernel
theorem dX12_nines_14 : decode cX12_nines 14 = .ok (.iinc 2 1, 3) := by decide +kernel
theorem dX12_nines_17 : decode cX12_nines 17 = .ok (.goto (-13), 3) := by decide +kernel
theorem dX12_nines_20 : decode cX12_nines 20 = .ok (.iload_n 1, 1) := by decide +kernel
theorem dX12_nines_21 : decode cX12_nines 21 = .ok (.ireturn, 1) := by decide +kernel
theorem dX12_asTold_0 : decode cX12_asTold 0 = .ok (.iconst 0, 1) := by decide +kernel
theorem dX12_asTold_1 : decode cX12_asTold 1 = .ok (.istore_n 1, 1) := by decide +kernel
theorem dX12_asTold_2 : decode cX12_asTold 2 = .ok (.iload_n 1, 1) := by decide +kernel
theorem dX12_asTold_3 : decode cX12_asTold 3 = .ok (.bipush 8, 2) := by decide +kernel
theorem dX12_asTold_5 : decode cX12_asTold 5 = .ok (.if_icmp .ge 37, 3) := by decide +kernel
theorem dX12_asTold_8 : decode cX12_asTold 8 = .ok (.aload_n 0, 1) := by decide +kernel
theorem dX12_asTold_9 : decode cX12_asTold 9 = .ok (.getfield 41, 3) := by decide +kernel
theorem dX12_asTold_12 : decode cX12_asTold 12 = .ok (.iload_n 1, 1) := by decide +kernel
theorem dX12_asTold_13 : decode cX12_asTold 13 = .ok (.aload_n 0, 1) := by decide +kernel
theorem dX12_asTold_14 : decode cX12_asTold 14 = .ok (.bipush 25, 2) := by decide +kernel
theorem dX12_asTold_16 : decode cX12_asTold 16 = .ok (.iload_n 1, 1) := by decide +kernel
theorem dX12_asTold_17 : decode cX12_asTold 17 = .ok (.iadd, 1) := by decide +kernel
theorem dX12_asTold_18 : decode cX12_asTold 18 = .ok (.invokevirtual 244, 3) := by decide +kernel
theorem dX12_asTold_21 : decode cX12_asTold 21 = .ok (.iastore, 1) := by decide +kernel
theorem dX12_asTold_22 : decode cX12_asTold 22 = .ok (.aload_n 0, 1) := by decide +kernel
theorem dX12_asTold_23 : decode cX12_asTold 23 = .ok (.getfield 44, 3) := by decide +kernel
theorem dX12_asTold_26 : decode cX12_asTold 26 = .ok (.iload_n 1, 1) := by decide +kernel
theorem dX12_asTold_27 : decode cX12_asTold 27 = .ok (.aload_n 0, 1) := by decide +kernel
theorem dX12_asTold_28 : decode cX12_asTold 28 = .ok (.bipush 33, 2) := by decide +kernel
theorem dX12_asTold_30 : decode cX12_asTold 30 = .ok (.iload_n 1, 1) := by decide +kernel
theorem dX12_asTold_31 : decode cX12_asTold 31 = .ok (.iadd, 1) := by decide +kernel
theorem dX12_asTold_32 : decode cX12_asTold 32 = .ok (.invokevirtual 244, 3) := by decide +kernel
theorem dX12_asTold_35 : decode cX12_asTold 35 = .ok (.iastore, 1) := by decide +kernel
theorem dX12_asTold_36 : decode cX12_asTold 36 = .ok (.iinc 1 1, 3) := by decide +kernel
theorem dX12_asTold_39 : decode cX12_asTold 39 = .ok (.goto (-37), 3) := by decide +kernel
theorem dX12_asTold_42 : decode cX12_asTold 42 = .ok (.iconst 0, 1) := by decide +kernel
theorem dX12_asTold_43 : decode cX12_asTold 43 = .ok (.istore_n 1, 1) := by decide +kernel
theorem dX12_asTold_44 : decode cX12_asTold 44 = .ok (.iload_n 1, 1) := by decide +kernel
theorem dX12_asTold_45 : decode cX12_asTold 45 = .ok (.bipush 48, 2) := by decide +kernel
theorem dX12_asTold_47 : decode cX12_asTold 47 = .ok (.if_icmp .ge 23, 3) := by decide +kernel
theorem dX12_asTold_50 : decode cX12_asTold 50 = .ok (.aload_n 0, 1) := by decide +kernel
theorem dX12_asTold_51 : decode cX12_asTold 51 = .ok (.getfield 47, 3) := by decide +kernel
theorem dX12_asTold_54 : decode cX12_asTold 54 = .ok (.iload_n 1, 1) := by decide +kernel
theorem dX12_asTold_55 : decode cX12_asTold 55 = .ok (.aload_n 0, 1) := by decide +kernel
theorem dX12_asTold_56 : decode cX12_asTold 56 = .ok (.bipush 41, 2) := by decide +kernel
theorem dX12_asTold_58 : decode cX12_asTold 58 = .ok (.iload_n 1, 1) := by decide +kernel
theorem dX12_asTold_59 : decode cX12_asTold 59 = .ok (.iadd, 1) := by decide +kernel
theorem dX12_asTold_60 : decode cX12_asTold 60 = .ok (.invokevirtual 244, 3) := by decide +kernel
theorem dX12_asTold_63 : decode cX12_asTold 63 = .ok (.iastore, 1) := by decide +kernel
theorem dX12_asTold_64 : decode cX12_asTold 64 = .ok (.iinc 1 1, 3) := by decide +kernel
theorem dX12_asTold_67 : decode cX12_asTold 67 = .ok (.goto (-23), 3) := by decide +kernel
theorem dX12_asTold_70 : decode cX12_asTold 70 = .ok (.return_, 1) := by decide +kernel
theorem dX12_turned_0 : decode cX12_turned 0 = .ok (.iconst 0, 1) := by decide +kernel
theorem dX12_turned_1 : decode cX12_turned 1 = .ok (.istore_n 3, 1) := by decide +kernel
theorem dX12_turned_2 : decode cX12_turned 2 = .ok (.iload_n 3, 1) := by decide +kernel
theorem dX12_turned_3 : decode cX12_turned 3 = .ok (.bipush 6, 2) := by decide +kernel
theorem dX12_turned_5 : decode cX12_turned 5 = .ok (.if_icmp .ge 25, 3) := by decide +kernel
theorem dX12_turned_8 : decode cX12_turned 8 = .ok (.iload_n 2, 1) := by decide +kernel
theorem dX12_turned_9 : decode cX12_turned 9 = .ok (.ifCond .eq 21, 3) := by decide +kernel
theorem dX12_turned_12 : decode cX12_turned 12 = .ok (.aload_n 0, 1) := by decide +kernel
theorem dX12_turned_13 : decode cX12_turned 13 = .ok (.getfield 47, 3) := by decide +kernel
theorem dX12_turned_16 : decode cX12_turned 16 = .ok (.bipush 6, 2) := by decide +kernel
theorem dX12_turned_18 : decode cX12_turned 18 = .ok (.iload_n 1, 1) := by decide +kernel
theorem dX12_turned_19 : decode cX12_turned 19 = .ok (.imul, 1) := by decide +kernel
theorem dX12_turned_20 : decode cX12_turned 20 = .ok (.iload_n 3, 1) := by decide +kernel
theorem dX12_turned_21 : decode cX12_turned 21 = .ok (.iadd, 1) := by decide +kernel
theorem dX12_turned_22 : decode cX12_turned 22 = .ok (.iconst 0, 1) := by decide +kernel
theorem dX12_turned_23 : decode cX12_turned 23 = .ok (.iastore, 1) := by decide +kernel
theorem dX12_turned_24 : decode cX12_turned 24 = .ok (.iinc 3 1, 3) := by decide +kernel
theorem dX12_turned_27 : decode cX12_turned 27 = .ok (.goto (-25), 3) := by decide +kernel
theorem dX12_turned_30 : decode cX12_turned 30 = .ok (.aload_n 0, 1) := by decide +kernel
theorem dX12_turned_31 : decode cX12_turned 31 = .ok (.getfield 41, 3) := by decide +kernel
theorem dX12_turned_34 : decode cX12_turned 34 = .ok (.iload_n 1, 1) := by decide +kernel
theorem dX12_turned_35 : decode cX12_turned 35 = .ok (.iload_n 2, 1) := by decide +kernel
theorem dX12_turned_36 : decode cX12_turned 36 = .ok (.ifCond .eq 12, 3) := by decide +kernel
theorem dX12_turned_39 : decode cX12_turned 39 = .ok (.aload_n 0, 1) := by decide +kernel
theorem dX12_turned_40 : decode cX12_turned 40 = .ok (.getfield 41, 3) := by decide +kernel
theorem dX12_turned_43 : decode cX12_turned 43 = .ok (.iload_n 1, 1) := by decide +kernel
theorem dX12_turned_44 : decode cX12_turned 44 = .ok (.iaload, 1) := by decide +kernel
theorem dX12_turned_45 : decode cX12_turned 45 = .ok (.goto 7, 3) := by decide +kernel
theorem dX12_turned_48 : decode cX12_turned 48 = .ok (.aload_n 0, 1) := by decide +kernel
theorem dX12_turned_49 : decode cX12_turned 49 = .ok (.getfield 257, 3) := by decide +kernel
theorem dX12_turned_52 : decode cX12_turned 52 = .ok (.iastore, 1) := by decide +kernel
theorem dX12_turned_53 : decode cX12_turned 53 = .ok (.aload_n 0, 1) := by decide +kernel
theorem dX12_turned_54 : decode cX12_turned 54 = .ok (.getfield 44, 3) := by decide +kernel
theorem dX12_turned_57 : decode cX12_turned 57 = .ok (.iload_n 1, 1) := by decide +kernel
theorem dX12_turned_58 : decode cX12_turned 58 = .ok (.iload_n 2, 1) := by decide +kernel
theorem dX12_turned_59 : decode cX12_turned 59 = .ok (.ifCond .eq 12, 3) := by decide +kernel
theorem dX12_turned_62 : decode cX12_turned 62 = .ok (.aload_n 0, 1) := by decide +kernel
theorem dX12_turned_63 : decode cX12_turned 63 = .ok (.getfield 44, 3) := by decide +kernel
theorem dX12_turned_66 : decode cX12_turned 66 = .ok (.iload_n 1, 1) := by decide +kernel
theorem dX12_turned_67 : decode cX12_turned 67 = .ok (.iaload, 1) := by decide +kernel
theorem dX12_turned_68 : decode cX12_turned 68 = .ok (.goto 7, 3) := by decide +kernel
theorem dX12_turned_71 : decode cX12_turned 71 = .ok (.aload_n 0, 1) := by decide +kernel
theorem dX12_turned_72 : decode cX12_turned 72 = .ok (.getfield 260, 3) := by decide +kernel
theorem dX12_turned_75 : decode cX12_turned 75 = .ok (.iastore, 1) := by decide +kernel
theorem dX12_turned_76 : decode cX12_turned 76 = .ok (.return_, 1) := by decide +kernel
theorem dX12_endOf_0 : decode cX12_endOf 0 = .ok (.aload_n 0, 1) := by decide +kernel
theorem dX12_endOf_1 : decode cX12_endOf 1 = .ok (.invokevirtual 402, 3) := by decide +kernel
theorem dX12_endOf_4 : decode cX12_endOf 4 = .ok (.iload_n 1, 1) := by decide +kernel
theorem dX12_endOf_5 : decode cX12_endOf 5 = .ok (.invokestatic 405, 3) := by decide +kernel
theorem dX12_endOf_8 : decode cX12_endOf 8 = .ok (.istore_n 3, 1) := by decide +kernel
theorem dX12_endOf_9 : decode cX12_endOf 9 = .ok (.iconst 0, 1) := by decide +kernel
theorem dX12_endOf_10 : decode cX12_endOf 10 = .ok (.istore 4, 2) := by decide +kernel
theorem dX12_endOf_12 : decode cX12_endOf 12 = .ok (.iload 4, 2) := by decide +kernel
theorem dX12_endOf_14 : decode cX12_endOf 14 = .ok (.iload_n 1, 1) := by decide +kernel
theorem dX12_endOf_15 : decode cX12_endOf 15 = .ok (.if_icmp .ge 66, 3) := by decide +kernel
theorem dX12_endOf_18 : decode cX12_endOf 18 = .ok (.iload_n 3, 1) := by decide +kernel
theorem dX12_endOf_19 : decode cX12_endOf 19 = .ok (.bipush 9, 2) := by decide +kernel
theorem dX12_endOf_21 : decode cX12_endOf 21 = .ok (.idiv, 1) := by decide +kernel
theorem dX12_endOf_22 : decode cX12_endOf 22 = .ok (.istore_n 3, 1) := by decide +kernel
theorem dX12_endOf_23 : decode cX12_endOf 23 = .ok (.iload_n 2, 1) := by decide +kernel
theorem dX12_endOf_24 : decode cX12_endOf 24 = .ok (.iload_n 3, 1) := by decide +kernel
theorem dX12_endOf_25 : decode cX12_endOf 25 = .ok (.idiv, 1) := by decide +kernel
theorem dX12_endOf_26 : decode cX12_endOf 26 = .ok (.bipush 9, 2) := by decide +kernel
theorem dX12_endOf_28 : decode cX12_endOf 28 = .ok (.irem, 1) := by decide +kernel
theorem dX12_endOf_29 : decode cX12_endOf 29 = .ok (.istore 5, 2) := by decide +kernel
theorem dX12_endOf_31 : decode cX12_endOf 31 = .ok (.iload 5, 2) := by decide +kernel
theorem dX12_endOf_33 : decode cX12_endOf 33 = .ok (.bipush 8, 2) := by decide +kernel
theorem dX12_endOf_35 : decode cX12_endOf 35 = .ok (.if_icmp .ge 15, 3) := by decide +kernel
theorem dX12_endOf_38 : decode cX12_endOf 38 = .ok (.iload 5, 2) := by decide +kernel
theorem dX12_endOf_40 : decode cX12_endOf 40 = .ok (.aload_n 0, 1) := by decide +kernel
theorem dX12_endOf_41 : decode cX12_endOf 41 = .ok (.getfield 251, 3) := by decide +kernel
theorem dX12_endOf_44 : decode cX12_endOf 44 = .ok (.if_icmp .lt 6, 3) := by decide +kernel
theorem dX12_endOf_47 : decode cX12_endOf 47 = .ok (.bipush (-99), 2) := by decide +kernel
theorem dX12_endOf_49 : decode cX12_endOf 49 = .ok (.ireturn, 1) := by decide +kernel
theorem dX12_endOf_50 : decode cX12_endOf 50 = .ok (.iload 5, 2) := by decide +kernel
theorem dX12_endOf_52 : decode cX12_endOf 52 = .ok (.bipush 8, 2) := by decide +kernel
theorem dX12_endOf_54 : decode cX12_endOf 54 = .ok (.if_icmp .ge 21, 3) := by decide +kernel
theorem dX12_endOf_57 : decode cX12_endOf 57 = .ok (.aload_n 0, 1) := by decide +kernel
theorem dX12_endOf_58 : decode cX12_endOf 58 = .ok (.iload 5, 2) := by decide +kernel
theorem dX12_endOf_60 : decode cX12_endOf 60 = .ok (.iload 4, 2) := by decide +kernel
theorem dX12_endOf_62 : decode cX12_endOf 62 = .ok (.iconst 2, 1) := by decide +kernel
theorem dX12_endOf_63 : decode cX12_endOf 63 = .ok (.irem, 1) := by decide +kernel
theorem dX12_endOf_64 : decode cX12_endOf 64 = .ok (.ifCond .ne 7, 3) := by decide +kernel
theorem dX12_endOf_67 : decode cX12_endOf 67 = .ok (.iconst 1, 1) := by decide +kernel
theorem dX12_endOf_68 : decode cX12_endOf 68 = .ok (.goto 4, 3) := by decide +kernel
theorem dX12_endOf_71 : decode cX12_endOf 71 = .ok (.iconst 0, 1) := by decide +kernel
theorem dX12_endOf_72 : decode cX12_endOf 72 = .ok (.invokevirtual 408, 3) := by decide +kernel
theorem dX12_endOf_75 : decode cX12_endOf 75 = .ok (.iinc 4 1, 3) := by decide +kernel
theorem dX12_endOf_78 : decode cX12_endOf 78 = .ok (.goto (-66), 3) := by decide +kernel
theorem dX12_endOf_81 : decode cX12_endOf 81 = .ok (.aload_n 0, 1) := by decide +kernel
theorem dX12_endOf_82 : decode cX12_endOf 82 = .ok (.invokevirtual 322, 3) := by decide +kernel
theorem dX12_endOf_85 : decode cX12_endOf 85 = .ok (.invokestatic 412, 3) := by decide +kernel
theorem dX12_endOf_88 : decode cX12_endOf 88 = .ok (.ireturn, 1) := by decide +kernel
theorem dX12_fold_0 : decode cX12_fold 0 = .ok (.bipush (-99), 2) := by decide +kernel
theorem dX12_fold_2 : decode cX12_fold 2 = .ok (.istore_n 3, 1) := by decide +kernel
theorem dX12_fold_3 : decode cX12_fold 3 = .ok (.aload_n 0, 1) := by decide +kernel
theorem dX12_fold_4 : decode cX12_fold 4 = .ok (.iconst (-1), 1) := by decide +kernel
theorem dX12_fold_5 : decode cX12_fold 5 = .ok (.putfield 415, 3) := by decide +kernel
theorem dX12_fold_8 : decode cX12_fold 8 = .ok (.iconst 0, 1) := by decide +kernel
theorem dX12_fold_9 : decode cX12_fold 9 = .ok (.istore 4, 2) := by decide +kernel
theorem dX12_fold_11 : decode cX12_fold 11 = .ok (.iload 4, 2) := by decide +kernel
theorem dX12_fold_13 : decode cX12_fold 13 = .ok (.bipush 9, 2) := by decide +kernel
theorem dX12_fold_15 : decode cX12_fold 15 = .ok (.if_icmp .ge 61, 3) := by decide +kernel
theorem dX12_fold_18 : decode cX12_fold 18 = .ok (.aload_n 0, 1) := by decide +kernel
theorem dX12_fold_19 : decode cX12_fold 19 = .ok (.getfield 59, 3) := by decide +kernel
theorem dX12_fold_22 : decode cX12_fold 22 = .ok (.iload_n 1, 1) := by decide +kernel
theorem dX12_fold_23 : decode cX12_fold 23 = .ok (.iload 4, 2) := by decide +kernel
theorem dX12_fold_25 : decode cX12_fold 25 = .ok (.iadd, 1) := by decide +kernel
theorem dX12_fold_26 : decode cX12_fold 26 = .ok (.iaload, 1) := by decide +kernel
theorem dX12_fold_27 : decode cX12_fold 27 = .ok (.istore 5, 2) := by decide +kernel
theorem dX12_fold_29 : decode cX12_fold 29 = .ok (.iload 5, 2) := by decide +kernel
theorem dX12_fold_31 : decode cX12_fold 31 = .ok (.bipush (-99), 2) := by decide +kernel
theorem dX12_fold_33 : decode cX12_fold 33 = .ok (.if_icmp .eq 37, 3) := by decide +kernel
theorem dX12_fold_36 : decode cX12_fold 36 = .ok (.iload_n 3, 1) := by decide +kernel
theorem dX12_fold_37 : decode cX12_fold 37 = .ok (.bipush (-99), 2) := by decide +kernel
theorem dX12_fold_39 : decode cX12_fold 39 = .ok (.if_icmp .eq 22, 3) := by decide +kernel
theorem dX12_fold_42 : decode cX12_fold 42 = .ok (.iload_n 2, 1) := by decide +kernel
theorem dX12_fold_43 : decode cX12_fold 43 = .ok (.ifCond .eq 12, 3) := by decide +kernel
theorem dX12_fold_46 : decode cX12_fold 46 = .ok (.iload 5, 2) := by decide +kernel
theorem dX12_fold_48 : decode cX12_fold 48 = .ok (.iload_n 3, 1) := by decide +kernel
theorem dX12_fold_49 : decode cX12_fold 49 = .ok (.if_icmp .le 21, 3) := by decide +kernel
theorem dX12_fold_52 : decode cX12_fold 52 = .ok (.goto 9, 3) := by decide +kernel
theorem dX12_fold_55 : decode cX12_fold 55 = .ok (.iload 5, 2) := by decide +kernel
theorem dX12_fold_57 : decode cX12_fold 57 = .ok (.iload_n 3, 1) := by decide +kernel
theorem dX12_fold_58 : decode cX12_fold 58 = .ok (.if_icmp .ge 12, 3) := by decide +kernel
theorem dX12_fold_61 : decode cX12_fold 61 = .ok (.iload 5, 2) := by decide +kernel
theorem dX12_fold_63 : decode cX12_fold 63 = .ok (.istore_n 3, 1) := by decide +kernel
theorem dX12_fold_64 : decode cX12_fold 64 = .ok (.aload_n 0, 1) := by decide +kernel
theorem dX12_fold_65 : decode cX12_fold 65 = .ok (.iload 4, 2) := by decide +kernel
theorem dX12_fold_67 : decode cX12_fold 67 = .ok (.putfield 415, 3) := by decide +kernel
theorem dX12_fold_70 : decode cX12_fold 70 = .ok (.iinc 4 1, 3) := by decide +kernel
theorem dX12_fold_73 : decode cX12_fold 73 = .ok (.goto (-62), 3) := by decide +kernel
theorem dX12_fold_76 : decode cX12_fold 76 = .ok (.iload_n 3, 1) := by decide +kernel
theorem dX12_fold_77 : decode cX12_fold 77 = .ok (.ireturn, 1) := by decide +kernel
theorem dX12_byTurns_0 : decode cX12_byTurns 0 = .ok (.aload_n 0, 1) := by decide +kernel
theorem dX12_byTurns_1 : decode cX12_byTurns 1 = .ok (.iconst 0, 1) := by decide +kernel
theorem dX12_byTurns_2 : decode cX12_byTurns 2 = .ok (.putfield 72, 3) := by decide +kernel
theorem dX12_byTurns_5 : decode cX12_byTurns 5 = .ok (.iload_n 2, 1) := by decide +kernel
theorem dX12_byTurns_6 : decode cX12_byTurns 6 = .ok (.iconst 0, 1) := by decide +kernel
theorem dX12_byTurns_7 : decode cX12_byTurns 7 = .ok (.iconst 4, 1) := by decide +kernel
theorem dX12_byTurns_8 : decode cX12_byTurns 8 = .ok (.invokestatic 84, 3) := by decide +kernel
theorem dX12_byTurns_11 : decode cX12_byTurns 11 = .ok (.ifCond .eq 11, 3) := by decide +kernel
theorem dX12_byTurns_14 : decode cX12_byTurns 14 = .ok (.aload_n 0, 1) := by decide +kernel
theorem dX12_byTurns_15 : decode cX12_byTurns 15 = .ok (.iload_n 1, 1) := by decide +kernel
theorem dX12_byTurns_16 : decode cX12_byTurns 16 = .ok (.invokevirtual 300, 3) := by decide +kernel
theorem dX12_byTurns_19 : decode cX12_byTurns 19 = .ok (.ifCond .ne 6, 3) := by decide +kernel
theorem dX12_byTurns_22 : decode cX12_byTurns 22 = .ok (.bipush (-9), 2) := by decide +kernel
theorem dX12_byTurns_24 : decode cX12_byTurns 24 = .ok (.ireturn, 1) := by decide +kernel
theorem dX12_byTurns_25 : decode cX12_byTurns 25 = .ok (.iload_n 2, 1) := by decide +kernel
theorem dX12_byTurns_26 : decode cX12_byTurns 26 = .ok (.invokestatic 405, 3) := by decide +kernel
theorem dX12_byTurns_29 : decode cX12_byTurns 29 = .ok (.istore 4, 2) := by decide +kernel
theorem dX12_byTurns_31 : decode cX12_byTurns 31 = .ok (.iconst 0, 1) := by decide +kernel
theorem dX12_byTurns_32 : decode cX12_byTurns 32 = .ok (.istore 5, 2) := by decide +kernel
theorem dX12_byTurns_34 : decode cX12_byTurns 34 = .ok (.iload 5, 2) := by decide +kernel
theorem dX12_byTurns_36 : decode cX12_byTurns 36 = .ok (.iload 4, 2) := by decide +kernel
theorem dX12_byTurns_38 : decode cX12_byTurns 38 = .ok (.if_icmp .ge 23, 3) := by decide +kernel
theorem dX12_byTurns_41 : decode cX12_byTurns 41 = .ok (.aload_n 0, 1) := by decide +kernel
theorem dX12_byTurns_42 : decode cX12_byTurns 42 = .ok (.getfield 59, 3) := by decide +kernel
theorem dX12_byTurns_45 : decode cX12_byTurns 45 = .ok (.iload 5, 2) := by decide +kernel
theorem dX12_byTurns_47 : decode cX12_byTurns 47 = .ok (.aload_n 0, 1) := by decide +kernel
theorem dX12_byTurns_48 : decode cX12_byTurns 48 = .ok (.iload_n 2, 1) := by decide +kernel
theorem dX12_byTurns_49 : decode cX12_byTurns 49 = .ok (.iload 5, 2) := by decide +kernel
theorem dX12_byTurns_51 : decode cX12_byTurns 51 = .ok (.invokevirtual 418, 3) := by decide +kernel
theorem dX12_byTurns_54 : decode cX12_byTurns 54 = .ok (.iastore, 1) := by decide +kernel
theorem dX12_byTurns_55 : decode cX12_byTurns 55 = .ok (.iinc 5 1, 3) := by decide +kernel
theorem dX12_byTurns_58 : decode cX12_byTurns 58 = .ok (.goto (-24), 3) := by decide +kernel
theorem dX12_byTurns_61 : decode cX12_byTurns 61 = .ok (.aload_n 0, 1) := by decide +kernel
theorem dX12_byTurns_62 : decode cX12_byTurns 62 = .ok (.iconst (-1), 1) := by decide +kernel
theorem dX12_byTurns_63 : decode cX12_byTurns 63 = .ok (.putfield 415, 3) := by decide +kernel
theorem dX12_byTurns_66 : decode cX12_byTurns 66 = .ok (.iload_n 2, 1) := by decide +kernel
theorem dX12_byTurns_67 : decode cX12_byTurns 67 = .ok (.iconst 1, 1) := by decide +kernel
theorem dX12_byTurns_68 : decode cX12_byTurns 68 = .ok (.isub, 1) := by decide +kernel
theorem dX12_byTurns_69 : decode cX12_byTurns 69 = .ok (.istore 5, 2) := by decide +kernel
theorem dX12_byTurns_71 : decode cX12_byTurns 71 = .ok (.iload 5, 2) := by decide +kernel
theorem dX12_byTurns_73 : decode cX12_byTurns 73 = .ok (.ifCond .lt 61, 3) := by decide +kernel
theorem dX12_byTurns_76 : decode cX12_byTurns 76 = .ok (.iload 4, 2) := by decide +kernel
theorem dX12_byTurns_78 : decode cX12_byTurns 78 = .ok (.bipush 9, 2) := by decide +kernel
theorem dX12_byTurns_80 : decode cX12_byTurns 80 = .ok (.idiv, 1) := by decide +kernel
theorem dX12_byTurns_81 : decode cX12_byTurns 81 = .ok (.istore 4, 2) := by decide +kernel
theorem dX12_byTurns_83 : decode cX12_byTurns 83 = .ok (.iconst 0, 1) := by decide +kernel
theorem dX12_byTurns_84 : decode cX12_byTurns 84 = .ok (.istore 6, 2) := by decide +kernel
theorem dX12_byTurns_86 : decode cX12_byTurns 86 = .ok (.iload 6, 2) := by decide +kernel
theorem dX12_byTurns_88 : decode cX12_byTurns 88 = .ok (.iload 4, 2) := by decide +kernel
theorem dX12_byTurns_90 : decode cX12_byTurns 90 = .ok (.if_icmp .ge 38, 3) := by decide +kernel
theorem dX12_byTurns_93 : decode cX12_byTurns 93 = .ok (.aload_n 0, 1) := by decide +kernel
theorem dX12_byTurns_94 : decode cX12_byTurns 94 = .ok (.getfield 59, 3) := by decide +kernel
theorem dX12_byTurns_97 : decode cX12_byTurns 97 = .ok (.iload 6, 2) := by decide +kernel
theorem dX12_byTurns_99 : decode cX12_byTurns 99 = .ok (.aload_n 0, 1) := by decide +kernel
theorem dX12_byTurns_100 : decode cX12_byTurns 100 = .ok (.bipush 9, 2) := by decide +kernel
theorem dX12_byTurns_102 : decode cX12_byTurns 102 = .ok (.iload 6, 2) := by decide +kernel
theorem dX12_byTurns_104 : decode cX12_byTurns 104 = .ok (.imul, 1) := by decide +kernel
theorem dX12_byTurns_105 : decode cX12_byTurns 105 = .ok (.iload 5, 2) := by decide +kernel
theorem dX12_byTurns_107 : decode cX12_byTurns 107 = .ok (.iconst 2, 1) := by decide +kernel
theorem dX12_byTurns_108 : decode cX12_byTurns 108 = .ok (.irem, 1) := by decide +kernel
theorem dX12_byTurns_109 : decode cX12_byTurns 109 = .ok (.iconst 1, 1) := by decide +kernel
theorem dX12_byTurns_110 : decode cX12_byTurns 110 = .ok (.if_icmp .ne 7, 3) := by decide +kernel
theorem dX12_byTurns_113 : decode cX12_byTurns 113 = .ok (.iconst 1, 1) := by decide +kernel
theorem dX12_byTurns_114 : decode cX12_byTurns 114 = .ok (.goto 4, 3) := by decide +kernel
theorem dX12_byTurns_117 : decode cX12_byTurns 117 = .ok (.iconst 0, 1) := by decide +kernel
theorem dX12_byTurns_118 : decode cX12_byTurns 118 = .ok (.invokevirtual 421, 3) := by decide +kernel
theorem dX12_byTurns_121 : decode cX12_byTurns 121 = .ok (.iastore, 1) := by decide +kernel
theorem dX12_byTurns_122 : decode cX12_byTurns 122 = .ok (.iinc 6 1, 3) := by decide +kernel
theorem dX12_byTurns_125 : decode cX12_byTurns 125 = .ok (.goto (-39), 3) := by decide +kernel
theorem dX12_byTurns_128 : decode cX12_byTurns 128 = .ok (.iinc 5 (-1), 3) := by decide +kernel
theorem dX12_byTurns_131 : decode cX12_byTurns 131 = .ok (.goto (-60), 3) := by decide +kernel
theorem dX12_byTurns_134 : decode cX12_byTurns 134 = .ok (.iload_n 3, 1) := by decide +kernel
theorem dX12_byTurns_135 : decode cX12_byTurns 135 = .ok (.ifCond .eq 10, 3) := by decide +kernel
theorem dX12_byTurns_138 : decode cX12_byTurns 138 = .ok (.aload_n 0, 1) := by decide +kernel
theorem dX12_byTurns_139 : decode cX12_byTurns 139 = .ok (.getfield 415, 3) := by decide +kernel
theorem dX12_byTurns_142 : decode cX12_byTurns 142 = .ok (.goto 9, 3) := by decide +kernel
theorem dX12_byTurns_145 : decode cX12_byTurns 145 = .ok (.aload_n 0, 1) := by decide +kernel
theorem dX12_byTurns_146 : decode cX12_byTurns 146 = .ok (.getfield 59, 3) := by decide +kernel
theorem dX12_byTurns_149 : decode cX12_byTurns 149 = .ok (.iconst 0, 1) := by decide +kernel
theorem dX12_byTurns_150 : decode cX12_byTurns 150 = .ok (.iaload, 1) := by decide +kernel
theorem dX12_byTurns_151 : decode cX12_byTurns 151 = .ok (.ireturn, 1) := by decide +kernel
theorem dX12_factOf_0 : decode cX12_factOf 0 = .ok (.aload_n 0, 1) := by decide +kernel
theorem dX12_factOf_1 : decode cX12_factOf 1 = .ok (.getfield 32, 3) := by decide +kernel
theorem dX12_factOf_4 : decode cX12_factOf 4 = .ok (.bipush 18, 2) := by decide +kernel
theorem dX12_factOf_6 : decode cX12_factOf 6 = .ok (.aload_n 0, 1) := by decide +kernel
theorem dX12_factOf_7 : decode cX12_factOf 7 = .ok (.getfield 425, 3) := by decide +kernel
theorem dX12_factOf_10 : decode cX12_factOf 10 = .ok (.imul, 1) := by decide +kernel
theorem dX12_factOf_11 : decode cX12_factOf 11 = .ok (.iconst 2, 1) := by decide +kernel
theorem dX12_factOf_12 : decode cX12_factOf 12 = .ok (.iadd, 1) := by decide +kernel
theorem dX12_factOf_13 : decode cX12_factOf 13 = .ok (.iconst 2, 1) := by decide +kernel
theorem dX12_factOf_14 : decode cX12_factOf 14 = .ok (.iload_n 1, 1) := by decide +kernel
theorem dX12_factOf_15 : decode cX12_factOf 15 = .ok (.imul, 1) := by decide +kernel
theorem dX12_factOf_16 : decode cX12_factOf 16 = .ok (.iadd, 1) := by decide +kernel
theorem dX12_factOf_17 : decode cX12_factOf 17 = .ok (.iload_n 2, 1) := by decide +kernel
theorem dX12_factOf_18 : decode cX12_factOf 18 = .ok (.iadd, 1) := by decide +kernel
theorem dX12_factOf_19 : decode cX12_factOf 19 = .ok (.iaload, 1) := by decide +kernel
theorem dX12_factOf_20 : decode cX12_factOf 20 = .ok (.ireturn, 1) := by decide +kernel
theorem dX12_lies_0 : decode cX12_lies 0 = .ok (.aload_n 0, 1) := by decide +kernel
theorem dX12_lies_1 : decode cX12_lies 1 = .ok (.getfield 32, 3) := by decide +kernel
theorem dX12_lies_4 : decode cX12_lies 4 = .ok (.bipush 18, 2) := by decide +kernel
theorem dX12_lies_6 : decode cX12_lies 6 = .ok (.aload_n 0, 1) := by decide +kernel
theorem dX12_lies_7 : decode cX12_lies 7 = .ok (.getfield 425, 3) := by decide +kernel
theorem dX12_lies_10 : decode cX12_lies 10 = .ok (.imul, 1) := by decide +kernel
theorem dX12_lies_11 : decode cX12_lies 11 = .ok (.iaload, 1) := by decide +kernel
theorem dX12_lies_12 : decode cX12_lies 12 = .ok (.ireturn, 1) := by decide +kernel
theorem dX12_facts_0 : decode cX12_facts 0 = .ok (.aload_n 0, 1) := by decide +kernel
theorem dX12_facts_1 : decode cX12_facts 1 = .ok (.getfield 32, 3) := by decide +kernel
theorem dX12_facts_4 : decode cX12_facts 4 = .ok (.bipush 18, 2) := by decide +kernel
theorem dX12_facts_6 : decode cX12_facts 6 = .ok (.aload_n 0, 1) := by decide +kernel
theorem dX12_facts_7 : decode cX12_facts 7 = .ok (.getfield 425, 3) := by decide +kernel
theorem dX12_facts_10 : decode cX12_facts 10 = .ok (.imul, 1) := by decide +kernel
theorem dX12_facts_11 : decode cX12_facts 11 = .ok (.iconst 1, 1) := by decide +kernel
theorem dX12_facts_12 : decode cX12_facts 12 = .ok (.iadd, 1) := by decide +kernel
theorem dX12_facts_13 : decode cX12_facts 13 = .ok (.iaload, 1) := by decide +kernel
theorem dX12_facts_14 : decode cX12_facts 14 = .ok (.ireturn, 1) := by decide +kernel
theorem dX12_hasLog_0 : decode cX12_hasLog 0 = .ok (.aload_n 0, 1) := by decide +kernel
theorem dX12_hasLog_1 : decode cX12_hasLog 1 = .ok (.iload_n 1, 1) := by decide +kernel
theorem dX12_hasLog_2 : decode cX12_hasLog 2 = .ok (.putfield 425, 3) := by decide +kernel
theorem dX12_hasLog_5 : decode cX12_hasLog 5 = .ok (.aload_n 0, 1) := by decide +kernel
theorem dX12_hasLog_6 : decode cX12_hasLog 6 = .ok (.iconst 2, 1) := by decide +kernel
theorem dX12_hasLog_7 : decode cX12_hasLog 7 = .ok (.iload_n 1, 1) := by decide +kernel
theorem dX12_hasLog_8 : decode cX12_hasLog 8 = .ok (.invokevirtual 231, 3) := by decide +kernel
theorem dX12_hasLog_11 : decode cX12_hasLog 11 = .ok (.ireturn, 1) := by decide +kernel
theorem dX12_log_0 : decode cX12_log 0 = .ok (.aload_n 0, 1) := by decide +kernel
theorem dX12_log_1 : decode cX12_log 1 = .ok (.iconst 0, 1) := by decide +kernel
theorem dX12_log_2 : decode cX12_log 2 = .ok (.putfield 72, 3) := by decide +kernel
theorem dX12_log_5 : decode cX12_log 5 = .ok (.aload_n 0, 1) := by decide +kernel
theorem dX12_log_6 : decode cX12_log 6 = .ok (.iload_n 1, 1) := by decide +kernel
theorem dX12_log_7 : decode cX12_log 7 = .ok (.invokevirtual 428, 3) := by decide +kernel
theorem dX12_log_10 : decode cX12_log 10 = .ok (.ifCond .ne 5, 3) := by decide +kernel
theorem dX12_log_13 : decode cX12_log 13 = .ok (.iconst (-1), 1) := by decide +kernel
theorem dX12_log_14 : decode cX12_log 14 = .ok (.ireturn, 1) := by decide +kernel
theorem dX12_log_15 : decode cX12_log 15 = .ok (.iload_n 2, 1) := by decide +kernel
theorem dX12_log_16 : decode cX12_log 16 = .ok (.bipush 10, 2) := by decide +kernel
theorem dX12_log_18 : decode cX12_log 18 = .ok (.irem, 1) := by decide +kernel
theorem dX12_log_19 : decode cX12_log 19 = .ok (.istore_n 3, 1) := by decide +kernel
theorem dX12_log_20 : decode cX12_log 20 = .ok (.iload_n 2, 1) := by decide +kernel
theorem dX12_log_21 : decode cX12_log 21 = .ok (.bipush 10, 2) := by decide +kernel
theorem dX12_log_23 : decode cX12_log 23 = .ok (.idiv, 1) := by decide +kernel
theorem dX12_log_24 : decode cX12_log 24 = .ok (.tableswitch 77 0 2 #[28, 53, 53], 28) := by decide +kernel
theorem dX12_log_52 : decode cX12_log 52 = .ok (.iload_n 2, 1) := by decide +kernel
theorem dX12_log_53 : decode cX12_log 53 = .ok (.ifCond .ne 10, 3) := by decide +kernel
theorem dX12_log_56 : decode cX12_log 56 = .ok (.aload_n 0, 1) := by decide +kernel
theorem dX12_log_57 : decode cX12_log 57 = .ok (.invokevirtual 431, 3) := by decide +kernel
theorem dX12_log_60 : decode cX12_log 60 = .ok (.goto 16, 3) := by decide +kernel
theorem dX12_log_63 : decode cX12_log 63 = .ok (.iload_n 2, 1) := by decide +kernel
theorem dX12_log_64 : decode cX12_log 64 = .ok (.iconst 1, 1) := by decide +kernel
theorem dX12_log_65 : decode cX12_log 65 = .ok (.if_icmp .ne 10, 3) := by decide +kernel
theorem dX12_log_68 : decode cX12_log 68 = .ok (.aload_n 0, 1) := by decide +kernel
theorem dX12_log_69 : decode cX12_log 69 = .ok (.invokevirtual 434, 3) := by decide +kernel
theorem dX12_log_72 : decode cX12_log 72 = .ok (.goto 4, 3) := by decide +kernel
theorem dX12_log_75 : decode cX12_log 75 = .ok (.iconst (-1), 1) := by decide +kernel
theorem dX12_log_76 : decode cX12_log 76 = .ok (.ireturn, 1) := by decide +kernel
theorem dX12_log_77 : decode cX12_log 77 = .ok (.iload_n 3, 1) := by decide +kernel
theorem dX12_log_78 : decode cX12_log 78 = .ok (.aload_n 0, 1) := by decide +kernel
theorem dX12_log_79 : decode cX12_log 79 = .ok (.invokevirtual 434, 3) := by decide +kernel
theorem dX12_log_82 : decode cX12_log 82 = .ok (.if_icmp .ge 17, 3) := by decide +kernel
theorem dX12_log_85 : decode cX12_log 85 = .ok (.aload_n 0, 1) := by decide +kernel
theorem dX12_log_86 : decode cX12_log 86 = .ok (.iload_n 3, 1) := by decide +kernel
theorem dX12_log_87 : decode cX12_log 87 = .ok (.iload_n 2, 1) := by decide +kernel
theorem dX12_log_88 : decode cX12_log 88 = .ok (.bipush 10, 2) := by decide +kernel
theorem dX12_log_90 : decode cX12_log 90 = .ok (.idiv, 1) := by decide +kernel
theorem dX12_log_91 : decode cX12_log 91 = .ok (.iconst 1, 1) := by decide +kernel
theorem dX12_log_92 : decode cX12_log 92 = .ok (.isub, 1) := by decide +kernel
theorem dX12_log_93 : decode cX12_log 93 = .ok (.invokevirtual 437, 3) := by decide +kernel
theorem dX12_log_96 : decode cX12_log 96 = .ok (.goto 4, 3) := by decide +kernel
theorem dX12_log_99 : decode cX12_log 99 = .ok (.iconst (-1), 1) := by decide +kernel
theorem dX12_log_100 : decode cX12_log 100 = .ok (.ireturn, 1) := by decide +kernel
theorem dX12_log_101 : decode cX12_log 101 = .ok (.iconst (-1), 1) := by decide +kernel
theorem dX12_log_102 : decode cX12_log 102 = .ok (.ireturn, 1) := by decide +kernel
theorem dX12_halts_0 : decode cX12_halts 0 = .ok (.iload_n 0, 1) := by decide +kernel
theorem dX12_halts_1 : decode cX12_halts 1 = .ok (.iload_n 1, 1) := by decide +kernel
theorem dX12_halts_2 : decode cX12_halts 2 = .ok (.iand, 1) := by decide +kernel
theorem dX12_halts_3 : decode cX12_halts 3 = .ok (.ifCond .eq 7, 3) := by decide +kernel
theorem dX12_halts_6 : decode cX12_halts 6 = .ok (.iconst 1, 1) := by decide +kernel
theorem dX12_halts_7 : decode cX12_halts 7 = .ok (.goto 4, 3) := by decide +kernel
theorem dX12_halts_10 : decode cX12_halts 10 = .ok (.iconst 0, 1) := by decide +kernel
theorem dX12_halts_11 : decode cX12_halts 11 = .ok (.ireturn, 1) := by decide +kernel
theorem dX12_liesOf_0 : decode cX12_liesOf 0 = .ok (.iconst 0, 1) := by decide +kernel
theorem dX12_liesOf_1 : decode cX12_liesOf 1 = .ok (.istore_n 2, 1) := by decide +kernel
theorem dX12_liesOf_2 : decode cX12_liesOf 2 = .ok (.iconst 0, 1) := by decide +kernel
theorem dX12_liesOf_3 : decode cX12_liesOf 3 = .ok (.istore_n 3, 1) := by decide +kernel
theorem dX12_liesOf_4 : decode cX12_liesOf 4 = .ok (.iload_n 3, 1) := by decide +kernel
theorem dX12_liesOf_5 : decode cX12_liesOf 5 = .ok (.aload_n 0, 1) := by decide +kernel
theorem dX12_liesOf_6 : decode cX12_liesOf 6 = .ok (.invokevirtual 434, 3) := by decide +kernel
theorem dX12_liesOf_9 : decode cX12_liesOf 9 = .ok (.if_icmp .ge 65, 3) := by decide +kernel
theorem dX12_liesOf_12 : decode cX12_liesOf 12 = .ok (.iload_n 1, 1) := by decide +kernel
theorem dX12_liesOf_13 : decode cX12_liesOf 13 = .ok (.aload_n 0, 1) := by decide +kernel
theorem dX12_liesOf_14 : decode cX12_liesOf 14 = .ok (.iload_n 3, 1) := by decide +kernel
theorem dX12_liesOf_15 : decode cX12_liesOf 15 = .ok (.iconst 1, 1) := by decide +kernel
theorem dX12_liesOf_16 : decode cX12_liesOf 16 = .ok (.invokevirtual 437, 3) := by decide +kernel
theorem dX12_liesOf_19 : decode cX12_liesOf 19 = .ok (.invokestatic 440, 3) := by decide +kernel
theorem dX12_liesOf_22 : decode cX12_liesOf 22 = .ok (.aload_n 0, 1) := by decide +kernel
theorem dX12_liesOf_23 : decode cX12_liesOf 23 = .ok (.iload_n 3, 1) := by decide +kernel
theorem dX12_liesOf_24 : decode cX12_liesOf 24 = .ok (.iconst 0, 1) := by decide +kernel
theorem dX12_liesOf_25 : decode cX12_liesOf 25 = .ok (.invokevirtual 437, 3) := by decide +kernel
theorem dX12_liesOf_28 : decode cX12_liesOf 28 = .ok (.iconst 1, 1) := by decide +kernel
theorem dX12_liesOf_29 : decode cX12_liesOf 29 = .ok (.if_icmp .ne 7, 3) := by decide +kernel
theorem dX12_liesOf_32 : decode cX12_liesOf 32 = .ok (.iconst 1, 1) := by decide +kernel
theorem dX12_liesOf_33 : decode cX12_liesOf 33 = .ok (.goto 4, 3) := by decide +kernel
theorem dX12_liesOf_36 : decode cX12_liesOf 36 = .ok (.iconst 0, 1) := by decide +kernel
theorem dX12_liesOf_37 : decode cX12_liesOf 37 = .ok (.if_icmp .ne 7, 3) := by decide +kernel
theorem dX12_liesOf_40 : decode cX12_liesOf 40 = .ok (.iconst 1, 1) := by decide +kernel
theorem dX12_liesOf_41 : decode cX12_liesOf 41 = .ok (.goto 4, 3) := by decide +kernel
theorem dX12_liesOf_44 : decode cX12_liesOf 44 = .ok (.iconst 0, 1) := by decide +kernel
theorem dX12_liesOf_45 : decode cX12_liesOf 45 = .ok (.istore 4, 2) := by decide +kernel
theorem dX12_liesOf_47 : decode cX12_liesOf 47 = .ok (.iload_n 2, 1) := by decide +kernel
theorem dX12_liesOf_48 : decode cX12_liesOf 48 = .ok (.iload 4, 2) := by decide +kernel
theorem dX12_liesOf_50 : decode cX12_liesOf 50 = .ok (.ifCond .ne 11, 3) := by decide +kernel
theorem dX12_liesOf_53 : decode cX12_liesOf 53 = .ok (.iload_n 3, 1) := by decide +kernel
theorem dX12_liesOf_54 : decode cX12_liesOf 54 = .ok (.aload_n 0, 1) := by decide +kernel
theorem dX12_liesOf_55 : decode cX12_liesOf 55 = .ok (.getfield 443, 3) := by decide +kernel
theorem dX12_liesOf_58 : decode cX12_liesOf 58 = .ok (.if_icmp .ne 7, 3) := by decide +kernel
theorem dX12_liesOf_61 : decode cX12_liesOf 61 = .ok (.iconst 0, 1) := by decide +kernel
theorem dX12_liesOf_62 : decode cX12_liesOf 62 = .ok (.goto 4, 3) := by decide +kernel
theorem dX12_liesOf_65 : decode cX12_liesOf 65 = .ok (.iconst 1, 1) := by decide +kernel
theorem dX12_liesOf_66 : decode cX12_liesOf 66 = .ok (.iadd, 1) := by decide +kernel
theorem dX12_liesOf_67 : decode cX12_liesOf 67 = .ok (.istore_n 2, 1) := by decide +kernel
theorem dX12_liesOf_68 : decode cX12_liesOf 68 = .ok (.iinc 3 1, 3) := by decide +kernel
theorem dX12_liesOf_71 : decode cX12_liesOf 71 = .ok (.goto (-67), 3) := by decide +kernel
theorem dX12_liesOf_74 : decode cX12_liesOf 74 = .ok (.iload_n 2, 1) := by decide +kernel
theorem dX12_liesOf_75 : decode cX12_liesOf 75 = .ok (.ireturn, 1) := by decide +kernel
theorem dX12_findHearts_0 : decode cX12_findHearts 0 = .ok (.aload_n 0, 1) := by decide +kernel
theorem dX12_findHearts_1 : decode cX12_findHearts 1 = .ok (.iconst 0, 1) := by decide +kernel
theorem dX12_findHearts_2 : decode cX12_findHearts 2 = .ok (.putfield 446, 3) := by decide +kernel
theorem dX12_findHearts_5 : decode cX12_findHearts 5 = .ok (.iconst 0, 1) := by decide +kernel
theorem dX12_findHearts_6 : decode cX12_findHearts 6 = .ok (.istore_n 1, 1) := by decide +kernel
