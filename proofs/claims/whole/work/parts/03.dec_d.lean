theorem dX6_init_0 : decode cX6_init 0 = .ok (.aload_n 0, 1) := by decide +kernel
theorem dX6_init_1 : decode cX6_init 1 = .ok (.invokespecial 3, 3) := by decide +kernel
theorem dX6_init_4 : decode cX6_init 4 = .ok (.aload_n 0, 1) := by decide +kernel
theorem dX6_init_5 : decode cX6_init 5 = .ok (.new 9, 3) := by decide +kernel
theorem dX6_init_8 : decode cX6_init 8 = .ok (.dup, 1) := by decide +kernel
theorem dX6_init_9 : decode cX6_init 9 = .ok (.invokespecial 11, 3) := by decide +kernel
theorem dX6_init_12 : decode cX6_init 12 = .ok (.putfield 12, 3) := by decide +kernel
theorem dX6_init_15 : decode cX6_init 15 = .ok (.aload_n 0, 1) := by decide +kernel
theorem dX6_init_16 : decode cX6_init 16 = .ok (.new 18, 3) := by decide +kernel
theorem dX6_init_19 : decode cX6_init 19 = .ok (.dup, 1) := by decide +kernel
theorem dX6_init_20 : decode cX6_init 20 = .ok (.invokespecial 20, 3) := by decide +kernel
theorem dX6_init_23 : decode cX6_init 23 = .ok (.putfield 21, 3) := by decide +kernel
theorem dX6_init_26 : decode cX6_init 26 = .ok (.aload_n 0, 1) := by decide +kernel
theorem dX6_init_27 : decode cX6_init 27 = .ok (.new 25, 3) := by decide +kernel
theorem dX6_init_30 : decode cX6_init 30 = .ok (.dup, 1) := by decide +kernel
theorem dX6_init_31 : decode cX6_init 31 = .ok (.invokespecial 27, 3) := by decide +kernel
theorem dX6_init_34 : decode cX6_init 34 = .ok (.putfield 28, 3) := by decide +kernel
theorem dX6_init_37 : decode cX6_init 37 = .ok (.aload_n 0, 1) := by decide +kernel
theorem dX6_init_38 : decode cX6_init 38 = .ok (.sipush 600, 3) := by decide +kernel
theorem dX6_init_41 : decode cX6_init 41 = .ok (.newarray .byte, 2) := by decide +kernel
theorem dX6_init_43 : decode cX6_init 43 = .ok (.putfield 32, 3) := by decide +kernel
theorem dX6_init_46 : decode cX6_init 46 = .ok (.aload_n 0, 1) := by decide +kernel
theorem dX6_init_47 : decode cX6_init 47 = .ok (.iconst 4, 1) := by decide +kernel
theorem dX6_init_48 : decode cX6_init 48 = .ok (.newarray .int, 2) := by decide +kernel
theorem dX6_init_50 : decode cX6_init 50 = .ok (.putfield 36, 3) := by decide +kernel
theorem dX6_init_53 : decode cX6_init 53 = .ok (.return_, 1) := by decide +kernel
theorem dX6_takeTape_0 : decode cX6_takeTape 0 = .ok (.aload_n 1, 1) := by decide +kernel
theorem dX6_takeTape_1 : decode cX6_takeTape 1 = .ok (.getfield 40, 3) := by decide +kernel
theorem dX6_takeTape_4 : decode cX6_takeTape 4 = .ok (.iconst 0, 1) := by decide +kernel
theorem dX6_takeTape_5 : decode cX6_takeTape 5 = .ok (.aload_n 0, 1) := by decide +kernel
theorem dX6_takeTape_6 : decode cX6_takeTape 6 = .ok (.getfield 32, 3) := by decide +kernel
theorem dX6_takeTape_9 : decode cX6_takeTape 9 = .ok (.iconst 0, 1) := by decide +kernel
theorem dX6_takeTape_10 : decode cX6_takeTape 10 = .ok (.sipush 600, 3) := by decide +kernel
theorem dX6_takeTape_13 : decode cX6_takeTape 13 = .ok (.invokestatic 43, 3) := by decide +kernel
theorem dX6_takeTape_16 : decode cX6_takeTape 16 = .ok (.aload_n 0, 1) := by decide +kernel
theorem dX6_takeTape_17 : decode cX6_takeTape 17 = .ok (.aload_n 1, 1) := by decide +kernel
theorem dX6_takeTape_18 : decode cX6_takeTape 18 = .ok (.getfield 49, 3) := by decide +kernel
theorem dX6_takeTape_21 : decode cX6_takeTape 21 = .ok (.putfield 53, 3) := by decide +kernel
theorem dX6_takeTape_24 : decode cX6_takeTape 24 = .ok (.aload_n 1, 1) := by decide +kernel
theorem dX6_takeTape_25 : decode cX6_takeTape 25 = .ok (.iconst 0, 1) := by decide +kernel
theorem dX6_takeTape_26 : decode cX6_takeTape 26 = .ok (.putfield 49, 3) := by decide +kernel
theorem dX6_takeTape_29 : decode cX6_takeTape 29 = .ok (.return_, 1) := by decide +kernel
theorem dX6_read_0 : decode cX6_read 0 = .ok (.aload_n 0, 1) := by decide +kernel
theorem dX6_read_1 : decode cX6_read 1 = .ok (.getfield 12, 3) := by decide +kernel
theorem dX6_read_4 : decode cX6_read 4 = .ok (.invokevirtual 54, 3) := by decide +kernel
theorem dX6_read_7 : decode cX6_read 7 = .ok (.aload_n 0, 1) := by decide +kernel
theorem dX6_read_8 : decode cX6_read 8 = .ok (.getfield 21, 3) := by decide +kernel
theorem dX6_read_11 : decode cX6_read 11 = .ok (.iconst 0, 1) := by decide +kernel
theorem dX6_read_12 : decode cX6_read 12 = .ok (.putfield 57, 3) := by decide +kernel
theorem dX6_read_15 : decode cX6_read 15 = .ok (.aload_n 0, 1) := by decide +kernel
theorem dX6_read_16 : decode cX6_read 16 = .ok (.getfield 28, 3) := by decide +kernel
theorem dX6_read_19 : decode cX6_read 19 = .ok (.invokevirtual 60, 3) := by decide +kernel
theorem dX6_read_22 : decode cX6_read 22 = .ok (.aload_n 0, 1) := by decide +kernel
theorem dX6_read_23 : decode cX6_read 23 = .ok (.iconst 0, 1) := by decide +kernel
theorem dX6_read_24 : decode cX6_read 24 = .ok (.putfield 61, 3) := by decide +kernel
theorem dX6_read_27 : decode cX6_read 27 = .ok (.aload_n 0, 1) := by decide +kernel
theorem dX6_read_28 : decode cX6_read 28 = .ok (.iconst (-1), 1) := by decide +kernel
theorem dX6_read_29 : decode cX6_read 29 = .ok (.putfield 64, 3) := by decide +kernel
theorem dX6_read_32 : decode cX6_read 32 = .ok (.aload_n 0, 1) := by decide +kernel
theorem dX6_read_33 : decode cX6_read 33 = .ok (.iconst 0, 1) := by decide +kernel
theorem dX6_read_34 : decode cX6_read 34 = .ok (.putfield 67, 3) := by decide +kernel
theorem dX6_read_37 : decode cX6_read 37 = .ok (.aload_n 0, 1) := by decide +kernel
theorem dX6_read_38 : decode cX6_read 38 = .ok (.iconst 0, 1) := by decide +kernel
theorem dX6_read_39 : decode cX6_read 39 = .ok (.putfield 70, 3) := by decide +kernel
theorem dX6_read_42 : decode cX6_read 42 = .ok (.aload_n 0, 1) := by decide +kernel
theorem dX6_read_43 : decode cX6_read 43 = .ok (.iload_n 1, 1) := by decide +kernel
theorem dX6_read_44 : decode cX6_read 44 = .ok (.invokevirtual 73, 3) := by decide +kernel
theorem dX6_read_47 : decode cX6_read 47 = .ok (.ifCond .ne 16, 3) := by decide +kernel
theorem dX6_read_50 : decode cX6_read 50 = .ok (.aload_n 0, 1) := by decide +kernel
theorem dX6_read_51 : decode cX6_read 51 = .ok (.iconst 1, 1) := by decide +kernel
theorem dX6_read_52 : decode cX6_read 52 = .ok (.putfield 61, 3) := by decide +kernel
theorem dX6_read_55 : decode cX6_read 55 = .ok (.aload_n 0, 1) := by decide +kernel
theorem dX6_read_56 : decode cX6_read 56 = .ok (.aload_n 0, 1) := by decide +kernel
theorem dX6_read_57 : decode cX6_read 57 = .ok (.getfield 77, 3) := by decide +kernel
theorem dX6_read_60 : decode cX6_read 60 = .ok (.putfield 64, 3) := by decide +kernel
theorem dX6_read_63 : decode cX6_read 63 = .ok (.aload_n 0, 1) := by decide +kernel
theorem dX6_read_64 : decode cX6_read 64 = .ok (.getfield 70, 3) := by decide +kernel
theorem dX6_read_67 : decode cX6_read 67 = .ok (.aload_n 0, 1) := by decide +kernel
theorem dX6_read_68 : decode cX6_read 68 = .ok (.getfield 12, 3) := by decide +kernel
theorem dX6_read_71 : decode cX6_read 71 = .ok (.getfield 80, 3) := by decide +kernel
theorem dX6_read_74 : decode cX6_read 74 = .ok (.ishr, 1) := by decide +kernel
theorem dX6_read_75 : decode cX6_read 75 = .ok (.ifCond .eq 12, 3) := by decide +kernel
theorem dX6_read_78 : decode cX6_read 78 = .ok (.aload_n 0, 1) := by decide +kernel
theorem dX6_read_79 : decode cX6_read 79 = .ok (.iconst 4, 1) := by decide +kernel
theorem dX6_read_80 : decode cX6_read 80 = .ok (.aload_n 0, 1) := by decide +kernel
theorem dX6_read_81 : decode cX6_read 81 = .ok (.getfield 53, 3) := by decide +kernel
theorem dX6_read_84 : decode cX6_read 84 = .ok (.invokevirtual 83, 3) := by decide +kernel
theorem dX6_read_87 : decode cX6_read 87 = .ok (.return_, 1) := by decide +kernel
theorem dX6_readLines_0 : decode cX6_readLines 0 = .ok (.iconst 0, 1) := by decide +kernel
theorem dX6_readLines_1 : decode cX6_readLines 1 = .ok (.istore_n 2, 1) := by decide +kernel
theorem dX6_readLines_2 : decode cX6_readLines 2 = .ok (.iload_n 2, 1) := by decide +kernel
theorem dX6_readLines_3 : decode cX6_readLines 3 = .ok (.sipush 600, 3) := by decide +kernel
theorem dX6_readLines_6 : decode cX6_readLines 6 = .ok (.if_icmp .gt 54, 3) := by decide +kernel
theorem dX6_readLines_9 : decode cX6_readLines 9 = .ok (.aload_n 0, 1) := by decide +kernel
theorem dX6_readLines_10 : decode cX6_readLines 10 = .ok (.invokevirtual 87, 3) := by decide +kernel
theorem dX6_readLines_13 : decode cX6_readLines 13 = .ok (.aload_n 0, 1) := by decide +kernel
theorem dX6_readLines_14 : decode cX6_readLines 14 = .ok (.getfield 90, 3) := by decide +kernel
theorem dX6_readLines_17 : decode cX6_readLines 17 = .ok (.ifCond .ne 5, 3) := by decide +kernel
theorem dX6_readLines_20 : decode cX6_readLines 20 = .ok (.iconst 1, 1) := by decide +kernel
theorem dX6_readLines_21 : decode cX6_readLines 21 = .ok (.ireturn, 1) := by decide +kernel
theorem dX6_readLines_22 : decode cX6_readLines 22 = .ok (.aload_n 0, 1) := by decide +kernel
theorem dX6_readLines_23 : decode cX6_readLines 23 = .ok (.getfield 90, 3) := by decide +kernel
theorem dX6_readLines_26 : decode cX6_readLines 26 = .ok (.iconst 1, 1) := by decide +kernel
theorem dX6_readLines_27 : decode cX6_readLines 27 = .ok (.if_icmp .ne 11, 3) := by decide +kernel
theorem dX6_readLines_30 : decode cX6_readLines 30 = .ok (.aload_n 0, 1) := by decide +kernel
theorem dX6_readLines_31 : decode cX6_readLines 31 = .ok (.iload_n 1, 1) := by decide +kernel
theorem dX6_readLines_32 : decode cX6_readLines 32 = .ok (.invokevirtual 93, 3) := by decide +kernel
theorem dX6_readLines_35 : decode cX6_readLines 35 = .ok (.goto 4, 3) := by decide +kernel
theorem dX6_readLines_38 : decode cX6_readLines 38 = .ok (.iconst (-1), 1) := by decide +kernel
theorem dX6_readLines_39 : decode cX6_readLines 39 = .ok (.istore_n 3, 1) := by decide +kernel
theorem dX6_readLines_40 : decode cX6_readLines 40 = .ok (.iload_n 3, 1) := by decide +kernel
theorem dX6_readLines_41 : decode cX6_readLines 41 = .ok (.ifCond .lt 11, 3) := by decide +kernel
theorem dX6_readLines_44 : decode cX6_readLines 44 = .ok (.aload_n 0, 1) := by decide +kernel
theorem dX6_readLines_45 : decode cX6_readLines 45 = .ok (.iload_n 3, 1) := by decide +kernel
theorem dX6_readLines_46 : decode cX6_readLines 46 = .ok (.invokevirtual 97, 3) := by decide +kernel
theorem dX6_readLines_49 : decode cX6_readLines 49 = .ok (.ifCond .ne 5, 3) := by decide +kernel
theorem dX6_readLines_52 : decode cX6_readLines 52 = .ok (.iconst 0, 1) := by decide +kernel
theorem dX6_readLines_53 : decode cX6_readLines 53 = .ok (.ireturn, 1) := by decide +kernel
theorem dX6_readLines_54 : decode cX6_readLines 54 = .ok (.iinc 2 1, 3) := by decide +kernel
theorem dX6_readLines_57 : decode cX6_readLines 57 = .ok (.goto (-55), 3) := by decide +kernel
theorem dX6_readLines_60 : decode cX6_readLines 60 = .ok (.iconst 0, 1) := by decide +kernel
theorem dX6_readLines_61 : decode cX6_readLines 61 = .ok (.ireturn, 1) := by decide +kernel
theorem dX6_readLine_0 : decode cX6_readLine 0 = .ok (.aload_n 0, 1) := by decide +kernel
theorem dX6_readLine_1 : decode cX6_readLine 1 = .ok (.iload_n 1, 1) := by decide +kernel
theorem dX6_readLine_2 : decode cX6_readLine 2 = .ok (.invokevirtual 100, 3) := by decide +kernel
theorem dX6_readLine_5 : decode cX6_readLine 5 = .ok (.ifCond .eq 12, 3) := by decide +kernel
theorem dX6_readLine_8 : decode cX6_readLine 8 = .ok (.aload_n 0, 1) := by decide +kernel
theorem dX6_readLine_9 : decode cX6_readLine 9 = .ok (.iconst 3, 1) := by decide +kernel
theorem dX6_readLine_10 : decode cX6_readLine 10 = .ok (.aload_n 0, 1) := by decide +kernel
theorem dX6_readLine_11 : decode cX6_readLine 11 = .ok (.getfield 77, 3) := by decide +kernel
theorem dX6_readLine_14 : decode cX6_readLine 14 = .ok (.invokevirtual 83, 3) := by decide +kernel
theorem dX6_readLine_17 : decode cX6_readLine 17 = .ok (.getstatic 103, 3) := by decide +kernel
theorem dX6_readLine_20 : decode cX6_readLine 20 = .ok (.iload_n 1, 1) := by decide +kernel
theorem dX6_readLine_21 : decode cX6_readLine 21 = .ok (.invokestatic 106, 3) := by decide +kernel
theorem dX6_readLine_24 : decode cX6_readLine 24 = .ok (.istore_n 2, 1) := by decide +kernel
theorem dX6_readLine_25 : decode cX6_readLine 25 = .ok (.iconst 0, 1) := by decide +kernel
theorem dX6_readLine_26 : decode cX6_readLine 26 = .ok (.istore_n 3, 1) := by decide +kernel
theorem dX6_readLine_27 : decode cX6_readLine 27 = .ok (.iload_n 3, 1) := by decide +kernel
theorem dX6_readLine_28 : decode cX6_readLine 28 = .ok (.iload_n 2, 1) := by decide +kernel
theorem dX6_readLine_29 : decode cX6_readLine 29 = .ok (.if_icmp .ge 80, 3) := by decide +kernel
theorem dX6_readLine_32 : decode cX6_readLine 32 = .ok (.aload_n 0, 1) := by decide +kernel
theorem dX6_readLine_33 : decode cX6_readLine 33 = .ok (.invokevirtual 87, 3) := by decide +kernel
theorem dX6_readLine_36 : decode cX6_readLine 36 = .ok (.aload_n 0, 1) := by decide +kernel
theorem dX6_readLine_37 : decode cX6_readLine 37 = .ok (.getfield 90, 3) := by decide +kernel
theorem dX6_readLine_40 : decode cX6_readLine 40 = .ok (.iconst 2, 1) := by decide +kernel
theorem dX6_readLine_41 : decode cX6_readLine 41 = .ok (.if_icmp .eq 5, 3) := by decide +kernel
theorem dX6_readLine_44 : decode cX6_readLine 44 = .ok (.iconst 0, 1) := by decide +kernel
theorem dX6_readLine_45 : decode cX6_readLine 45 = .ok (.ireturn, 1) := by decide +kernel
theorem dX6_readLine_46 : decode cX6_readLine 46 = .ok (.aload_n 0, 1) := by decide +kernel
theorem dX6_readLine_47 : decode cX6_readLine 47 = .ok (.getfield 111, 3) := by decide +kernel
theorem dX6_readLine_50 : decode cX6_readLine 50 = .ok (.getstatic 114, 3) := by decide +kernel
theorem dX6_readLine_53 : decode cX6_readLine 53 = .ok (.iconst 4, 1) := by decide +kernel
theorem dX6_readLine_54 : decode cX6_readLine 54 = .ok (.iload_n 1, 1) := by decide +kernel
theorem dX6_readLine_55 : decode cX6_readLine 55 = .ok (.imul, 1) := by decide +kernel
theorem dX6_readLine_56 : decode cX6_readLine 56 = .ok (.iload_n 3, 1) := by decide +kernel
theorem dX6_readLine_57 : decode cX6_readLine 57 = .ok (.iadd, 1) := by decide +kernel
theorem dX6_readLine_58 : decode cX6_readLine 58 = .ok (.invokestatic 106, 3) := by decide +kernel
theorem dX6_readLine_61 : decode cX6_readLine 61 = .ok (.if_icmp .lt 21, 3) := by decide +kernel
theorem dX6_readLine_64 : decode cX6_readLine 64 = .ok (.aload_n 0, 1) := by decide +kernel
theorem dX6_readLine_65 : decode cX6_readLine 65 = .ok (.getfield 111, 3) := by decide +kernel
theorem dX6_readLine_68 : decode cX6_readLine 68 = .ok (.getstatic 117, 3) := by decide +kernel
theorem dX6_readLine_71 : decode cX6_readLine 71 = .ok (.iconst 4, 1) := by decide +kernel
theorem dX6_readLine_72 : decode cX6_readLine 72 = .ok (.iload_n 1, 1) := by decide +kernel
theorem dX6_readLine_73 : decode cX6_readLine 73 = .ok (.imul, 1) := by decide +kernel
theorem dX6_readLine_74 : decode cX6_readLine 74 = .ok (.iload_n 3, 1) := by decide +kernel
theorem dX6_readLine_75 : decode cX6_readLine 75 = .ok (.iadd, 1) := by decide +kernel
theorem dX6_readLine_76 : decode cX6_readLine 76 = .ok (.invokestatic 106, 3) := by decide +kernel
theorem dX6_readLine_79 : decode cX6_readLine 79 = .ok (.if_icmp .le 12, 3) := by decide +kernel
theorem dX6_readLine_82 : decode cX6_readLine 82 = .ok (.aload_n 0, 1) := by decide +kernel
theorem dX6_readLine_83 : decode cX6_readLine 83 = .ok (.iconst 2, 1) := by decide +kernel
theorem dX6_readLine_84 : decode cX6_readLine 84 = .ok (.aload_n 0, 1) := by decide +kernel
theorem dX6_readLine_85 : decode cX6_readLine 85 = .ok (.getfield 77, 3) := by decide +kernel
theorem dX6_readLine_88 : decode cX6_readLine 88 = .ok (.invokevirtual 83, 3) := by decide +kernel
theorem dX6_readLine_91 : decode cX6_readLine 91 = .ok (.aload_n 0, 1) := by decide +kernel
theorem dX6_readLine_92 : decode cX6_readLine 92 = .ok (.getfield 36, 3) := by decide +kernel
theorem dX6_readLine_95 : decode cX6_readLine 95 = .ok (.iload_n 3, 1) := by decide +kernel
theorem dX6_readLine_96 : decode cX6_readLine 96 = .ok (.aload_n 0, 1) := by decide +kernel
theorem dX6_readLine_97 : decode cX6_readLine 97 = .ok (.getfield 111, 3) := by decide +kernel
theorem dX6_readLine_100 : decode cX6_readLine 100 = .ok (.invokestatic 120, 3) := by decide +kernel
theorem dX6_readLine_103 : decode cX6_readLine 103 = .ok (.iinc 3 1, 3) := by decide +kernel
theorem dX6_readLine_106 : decode cX6_readLine 106 = .ok (.goto (-79), 3) := by decide +kernel
theorem dX6_readLine_109 : decode cX6_readLine 109 = .ok (.aload_n 0, 1) := by decide +kernel
theorem dX6_readLine_110 : decode cX6_readLine 110 = .ok (.invokevirtual 87, 3) := by decide +kernel
theorem dX6_readLine_113 : decode cX6_readLine 113 = .ok (.aload_n 0, 1) := by decide +kernel
theorem dX6_readLine_114 : decode cX6_readLine 114 = .ok (.getfield 90, 3) := by decide +kernel
theorem dX6_readLine_117 : decode cX6_readLine 117 = .ok (.iconst 3, 1) := by decide +kernel
theorem dX6_readLine_118 : decode cX6_readLine 118 = .ok (.if_icmp .eq 5, 3) := by decide +kernel
theorem dX6_readLine_121 : decode cX6_readLine 121 = .ok (.iconst 0, 1) := by decide +kernel
theorem dX6_readLine_122 : decode cX6_readLine 122 = .ok (.ireturn, 1) := by decide +kernel
theorem dX6_readLine_123 : decode cX6_readLine 123 = .ok (.aload_n 0, 1) := by decide +kernel
theorem dX6_readLine_124 : decode cX6_readLine 124 = .ok (.getfield 61, 3) := by decide +kernel
theorem dX6_readLine_127 : decode cX6_readLine 127 = .ok (.ifCond .ne 9, 3) := by decide +kernel
theorem dX6_readLine_130 : decode cX6_readLine 130 = .ok (.aload_n 0, 1) := by decide +kernel
theorem dX6_readLine_131 : decode cX6_readLine 131 = .ok (.iload_n 1, 1) := by decide +kernel
theorem dX6_readLine_132 : decode cX6_readLine 132 = .ok (.iload_n 2, 1) := by decide +kernel
theorem dX6_readLine_133 : decode cX6_readLine 133 = .ok (.invokevirtual 124, 3) := by decide +kernel
theorem dX6_readLine_136 : decode cX6_readLine 136 = .ok (.iconst 1, 1) := by decide +kernel
theorem dX6_readLine_137 : decode cX6_readLine 137 = .ok (.ireturn, 1) := by decide +kernel
theorem dX6_blame_0 : decode cX6_blame 0 = .ok (.aload_n 0, 1) := by decide +kernel
theorem dX6_blame_1 : decode cX6_blame 1 = .ok (.getfield 61, 3) := by decide +kernel
theorem dX6_blame_4 : decode cX6_blame 4 = .ok (.ifCond .ne 13, 3) := by decide +kernel
theorem dX6_blame_7 : decode cX6_blame 7 = .ok (.aload_n 0, 1) := by decide +kernel
theorem dX6_blame_8 : decode cX6_blame 8 = .ok (.iload_n 1, 1) := by decide +kernel
theorem dX6_blame_9 : decode cX6_blame 9 = .ok (.putfield 61, 3) := by decide +kernel
theorem dX6_blame_12 : decode cX6_blame 12 = .ok (.aload_n 0, 1) := by decide +kernel
theorem dX6_blame_13 : decode cX6_blame 13 = .ok (.iload_n 2, 1) := by decide +kernel
theorem dX6_blame_14 : decode cX6_blame 14 = .ok (.putfield 64, 3) := by decide +kernel
theorem dX6_blame_17 : decode cX6_blame 17 = .ok (.return_, 1) := by decide +kernel
theorem dX6_isOneTooMany_0 : decode cX6_isOneTooMany 0 = .ok (.iload_n 1, 1) := by decide +kernel
theorem dX6_isOneTooMany_1 : decode cX6_isOneTooMany 1 = .ok (.tableswitch 145 0 13 #[71, 73, 71, 91, 71, 109, 127, 145, 145, 145, 145, 145, 145, 71], 71) := by decide +kernel
theorem dX6_isOneTooMany_72 : decode cX6_isOneTooMany 72 = .ok (.iconst 0, 1) := by decide +kernel
theorem dX6_isOneTooMany_73 : decode cX6_isOneTooMany 73 = .ok (.ireturn, 1) := by decide +kernel
theorem dX6_isOneTooMany_74 : decode cX6_isOneTooMany 74 = .ok (.aload_n 0, 1) := by decide +kernel
theorem dX6_isOneTooMany_75 : decode cX6_isOneTooMany 75 = .ok (.getfield 12, 3) := by decide +kernel
theorem dX6_isOneTooMany_78 : decode cX6_isOneTooMany 78 = .ok (.getfield 80, 3) := by decide +kernel
theorem dX6_isOneTooMany_81 : decode cX6_isOneTooMany 81 = .ok (.bipush 8, 2) := by decide +kernel
theorem dX6_isOneTooMany_83 : decode cX6_isOneTooMany 83 = .ok (.if_icmp .lt 7, 3) := by decide +kernel
theorem dX6_isOneTooMany_86 : decode cX6_isOneTooMany 86 = .ok (.iconst 1, 1) := by decide +kernel
theorem dX6_isOneTooMany_87 : decode cX6_isOneTooMany 87 = .ok (.goto 4, 3) := by decide +kernel
theorem dX6_isOneTooMany_90 : decode cX6_isOneTooMany 90 = .ok (.iconst 0, 1) := by decide +kernel
theorem dX6_isOneTooMany_91 : decode cX6_isOneTooMany 91 = .ok (.ireturn, 1) := by decide +kernel
theorem dX6_isOneTooMany_92 : decode cX6_isOneTooMany 92 = .ok (.aload_n 0, 1) := by decide +kernel
theorem dX6_isOneTooMany_93 : decode cX6_isOneTooMany 93 = .ok (.getfield 12, 3) := by decide +kernel
theorem dX6_isOneTooMany_96 : decode cX6_isOneTooMany 96 = .ok (.getfield 127, 3) := by decide +kernel
theorem dX6_isOneTooMany_99 : decode cX6_isOneTooMany 99 = .ok (.bipush 6, 2) := by decide +kernel
theorem dX6_isOneTooMany_101 : decode cX6_isOneTooMany 101 = .ok (.if_icmp .lt 7, 3) := by decide +kernel
theorem dX6_isOneTooMany_104 : decode cX6_isOneTooMany 104 = .ok (.iconst 1, 1) := by decide +kernel
theorem dX6_isOneTooMany_105 : decode cX6_isOneTooMany 105 = .ok (.goto 4, 3) := by decide +kernel
theorem dX6_isOneTooMany_108 : decode cX6_isOneTooMany 108 = .ok (.iconst 0, 1) := by decide +kernel
theorem dX6_isOneTooMany_109 : decode cX6_isOneTooMany 109 = .ok (.ireturn, 1) := by decide +kernel
theorem dX6_isOneTooMany_110 : decode cX6_isOneTooMany 110 = .ok (.aload_n 0, 1) := by decide +kernel
theorem dX6_isOneTooMany_111 : decode cX6_isOneTooMany 111 = .ok (.getfield 12, 3) := by decide +kernel
theorem dX6_isOneTooMany_114 : decode cX6_isOneTooMany 114 = .ok (.getfield 130, 3) := by decide +kernel
theorem dX6_isOneTooMany_117 : decode cX6_isOneTooMany 117 = .ok (.bipush 6, 2) := by decide +kernel
theorem dX6_isOneTooMany_119 : decode cX6_isOneTooMany 119 = .ok (.if_icmp .lt 7, 3) := by decide +kernel
theorem dX6_isOneTooMany_122 : decode cX6_isOneTooMany 122 = .ok (.iconst 1, 1) := by decide +kernel
theorem dX6_isOneTooMany_123 : decode cX6_isOneTooMany 123 = .ok (.goto 4, 3) := by decide +kernel
theorem dX6_isOneTooMany_126 : decode cX6_isOneTooMany 126 = .ok (.iconst 0, 1) := by decide +kernel
theorem dX6_isOneTooMany_127 : decode cX6_isOneTooMany 127 = .ok (.ireturn, 1) := by decide +kernel
theorem dX6_isOneTooMany_128 : decode cX6_isOneTooMany 128 = .ok (.aload_n 0, 1) := by decide +kernel
theorem dX6_isOneTooMany_129 : decode cX6_isOneTooMany 129 = .ok (.getfield 12, 3) := by decide +kernel
theorem dX6_isOneTooMany_132 : decode cX6_isOneTooMany 132 = .ok (.getfield 133, 3) := by decide +kernel
theorem dX6_isOneTooMany_135 : decode cX6_isOneTooMany 135 = .ok (.bipush 6, 2) := by decide +kernel
theorem dX6_isOneTooMany_137 : decode cX6_isOneTooMany 137 = .ok (.if_icmp .lt 7, 3) := by decide +kernel
theorem dX6_isOneTooMany_140 : decode cX6_isOneTooMany 140 = .ok (.iconst 1, 1) := by decide +kernel
theorem dX6_isOneTooMany_141 : decode cX6_isOneTooMany 141 = .ok (.goto 4, 3) := by decide +kernel
theorem dX6_isOneTooMany_144 : decode cX6_isOneTooMany 144 = .ok (.iconst 0, 1) := by decide +kernel
theorem dX6_isOneTooMany_145 : decode cX6_isOneTooMany 145 = .ok (.ireturn, 1) := by decide +kernel
theorem dX6_isOneTooMany_146 : decode cX6_isOneTooMany 146 = .ok (.iload_n 1, 1) := by decide +kernel
theorem dX6_isOneTooMany_147 : decode cX6_isOneTooMany 147 = .ok (.bipush 13, 2) := by decide +kernel
theorem dX6_isOneTooMany_149 : decode cX6_isOneTooMany 149 = .ok (.if_icmp .ge 23, 3) := by decide +kernel
theorem dX6_isOneTooMany_152 : decode cX6_isOneTooMany 152 = .ok (.aload_n 0, 1) := by decide +kernel
theorem dX6_isOneTooMany_153 : decode cX6_isOneTooMany 153 = .ok (.getfield 21, 3) := by decide +kernel
theorem dX6_isOneTooMany_156 : decode cX6_isOneTooMany 156 = .ok (.getfield 57, 3) := by decide +kernel
theorem dX6_isOneTooMany_159 : decode cX6_isOneTooMany 159 = .ok (.bipush 40, 2) := by decide +kernel
theorem dX6_isOneTooMany_161 : decode cX6_isOneTooMany 161 = .ok (.if_icmp .lt 7, 3) := by decide +kernel
theorem dX6_isOneTooMany_164 : decode cX6_isOneTooMany 164 = .ok (.iconst 1, 1) := by decide +kernel
theorem dX6_isOneTooMany_165 : decode cX6_isOneTooMany 165 = .ok (.goto 24, 3) := by decide +kernel
theorem dX6_isOneTooMany_168 : decode cX6_isOneTooMany 168 = .ok (.iconst 0, 1) := by decide +kernel
theorem dX6_isOneTooMany_169 : decode cX6_isOneTooMany 169 = .ok (.goto 20, 3) := by decide +kernel
theorem dX6_isOneTooMany_172 : decode cX6_isOneTooMany 172 = .ok (.aload_n 0, 1) := by decide +kernel
theorem dX6_isOneTooMany_173 : decode cX6_isOneTooMany 173 = .ok (.getfield 28, 3) := by decide +kernel
theorem dX6_isOneTooMany_176 : decode cX6_isOneTooMany 176 = .ok (.getfield 136, 3) := by decide +kernel
theorem dX6_isOneTooMany_179 : decode cX6_isOneTooMany 179 = .ok (.bipush 8, 2) := by decide +kernel
theorem dX6_isOneTooMany_181 : decode cX6_isOneTooMany 181 = .ok (.if_icmp .lt 7, 3) := by decide +kernel
theorem dX6_isOneTooMany_184 : decode cX6_isOneTooMany 184 = .ok (.iconst 1, 1) := by decide +kernel
theorem dX6_isOneTooMany_185 : decode cX6_isOneTooMany 185 = .ok (.goto 4, 3) := by decide +kernel
theorem dX6_isOneTooMany_188 : decode cX6_isOneTooMany 188 = .ok (.iconst 0, 1) := by decide +kernel
theorem dX6_isOneTooMany_189 : decode cX6_isOneTooMany 189 = .ok (.ireturn, 1) := by decide +kernel
theorem dX6_keep_0 : decode cX6_keep 0 = .ok (.iload_n 1, 1) := by decide +kernel
theorem dX6_keep_1 : decode cX6_keep 1 = .ok (.bipush 13, 2) := by decide +kernel
theorem dX6_keep_3 : decode cX6_keep 3 = .ok (.if_icmp .lt 11, 3) := by decide +kernel
theorem dX6_keep_6 : decode cX6_keep 6 = .ok (.aload_n 0, 1) := by decide +kernel
theorem dX6_keep_7 : decode cX6_keep 7 = .ok (.iload_n 1, 1) := by decide +kernel
theorem dX6_keep_8 : decode cX6_keep 8 = .ok (.invokevirtual 137, 3) := by decide +kernel
theorem dX6_keep_11 : decode cX6_keep 11 = .ok (.goto 33, 3) := by decide +kernel
theorem dX6_keep_14 : decode cX6_keep 14 = .ok (.iload_n 1, 1) := by decide +kernel
theorem dX6_keep_15 : decode cX6_keep 15 = .ok (.bipush 7, 2) := by decide +kernel
theorem dX6_keep_17 : decode cX6_keep 17 = .ok (.if_icmp .lt 22, 3) := by decide +kernel
theorem dX6_keep_20 : decode cX6_keep 20 = .ok (.aload_n 0, 1) := by decide +kernel
theorem dX6_keep_21 : decode cX6_keep 21 = .ok (.getfield 21, 3) := by decide +kernel
theorem dX6_keep_24 : decode cX6_keep 24 = .ok (.iload_n 1, 1) := by decide +kernel
theorem dX6_keep_25 : decode cX6_keep 25 = .ok (.bipush 7, 2) := by decide +kernel
theorem dX6_keep_27 : decode cX6_keep 27 = .ok (.isub, 1) := by decide +kernel
theorem dX6_keep_28 : decode cX6_keep 28 = .ok (.aload_n 0, 1) := by decide +kernel
theorem dX6_keep_29 : decode cX6_keep 29 = .ok (.getfield 36, 3) := by decide +kernel
theorem dX6_keep_32 : decode cX6_keep 32 = .ok (.iload_n 2, 1) := by decide +kernel
theorem dX6_keep_33 : decode cX6_keep 33 = .ok (.invokevirtual 141, 3) := by decide +kernel
theorem dX6_keep_36 : decode cX6_keep 36 = .ok (.goto 8, 3) := by decide +kernel
theorem dX6_keep_39 : decode cX6_keep 39 = .ok (.aload_n 0, 1) := by decide +kernel
theorem dX6_keep_40 : decode cX6_keep 40 = .ok (.iload_n 1, 1) := by decide +kernel
theorem dX6_keep_41 : decode cX6_keep 41 = .ok (.invokevirtual 145, 3) := by decide +kernel
theorem dX6_keep_44 : decode cX6_keep 44 = .ok (.return_, 1) := by decide +kernel
theorem dX6_keepOfLog_0 : decode cX6_keepOfLog 0 = .ok (.iload_n 1, 1) := by decide +kernel
theorem dX6_keepOfLog_1 : decode cX6_keepOfLog 1 = .ok (.bipush 13, 2) := by decide +kernel
theorem dX6_keepOfLog_3 : decode cX6_keepOfLog 3 = .ok (.if_icmp .ne 19, 3) := by decide +kernel
theorem dX6_keepOfLog_6 : decode cX6_keepOfLog 6 = .ok (.aload_n 0, 1) := by decide +kernel
theorem dX6_keepOfLog_7 : decode cX6_keepOfLog 7 = .ok (.getfield 28, 3) := by decide +kernel
theorem dX6_keepOfLog_10 : decode cX6_keepOfLog 10 = .ok (.aload_n 0, 1) := by decide +kernel
theorem dX6_keepOfLog_11 : decode cX6_keepOfLog 11 = .ok (.getfield 36, 3) := by decide +kernel
theorem dX6_keepOfLog_14 : decode cX6_keepOfLog 14 = .ok (.iconst 0, 1) := by decide +kernel
theorem dX6_keepOfLog_15 : decode cX6_keepOfLog 15 = .ok (.iaload, 1) := by decide +kernel
theorem dX6_keepOfLog_16 : decode cX6_keepOfLog 16 = .ok (.putfield 148, 3) := by decide +kernel
theorem dX6_keepOfLog_19 : decode cX6_keepOfLog 19 = .ok (.goto 27, 3) := by decide +kernel
theorem dX6_keepOfLog_22 : decode cX6_keepOfLog 22 = .ok (.aload_n 0, 1) := by decide +kernel
theorem dX6_keepOfLog_23 : decode cX6_keepOfLog 23 = .ok (.getfield 28, 3) := by decide +kernel
theorem dX6_keepOfLog_26 : decode cX6_keepOfLog 26 = .ok (.iload_n 1, 1) := by decide +kernel
theorem dX6_keepOfLog_27 : decode cX6_keepOfLog 27 = .ok (.bipush 14, 2) := by decide +kernel
theorem dX6_keepOfLog_29 : decode cX6_keepOfLog 29 = .ok (.if_icmp .ne 7, 3) := by decide +kernel
theorem dX6_keepOfLog_32 : decode cX6_keepOfLog 32 = .ok (.iconst 1, 1) := by decide +kernel
theorem dX6_keepOfLog_33 : decode cX6_keepOfLog 33 = .ok (.goto 4, 3) := by decide +kernel
theorem dX6_keepOfLog_36 : decode cX6_keepOfLog 36 = .ok (.iconst 0, 1) := by decide +kernel
theorem dX6_keepOfLog_37 : decode cX6_keepOfLog 37 = .ok (.aload_n 0, 1) := by decide +kernel
theorem dX6_keepOfLog_38 : decode cX6_keepOfLog 38 = .ok (.getfield 36, 3) := by decide +kernel
theorem dX6_keepOfLog_41 : decode cX6_keepOfLog 41 = .ok (.iconst 0, 1) := by decide +kernel
theorem dX6_keepOfLog_42 : decode cX6_keepOfLog 42 = .ok (.iaload, 1) := by decide +kernel
theorem dX6_keepOfLog_43 : decode cX6_keepOfLog 43 = .ok (.invokevirtual 151, 3) := by decide +kernel
theorem dX6_keepOfLog_46 : decode cX6_keepOfLog 46 = .ok (.return_, 1) := by decide +kernel
theorem dX6_keepOfFair_0 : decode cX6_keepOfFair 0 = .ok (.iload_n 1, 1) := by decide +kernel
theorem dX6_keepOfFair_1 : decode cX6_keepOfFair 1 = .ok (.tableswitch 241 0 5 #[39, 129, 68, 171, 84, 206], 39) := by decide +kernel
theorem dX6_keepOfFair_40 : decode cX6_keepOfFair 40 = .ok (.aload_n 0, 1) := by decide +kernel
theorem dX6_keepOfFair_41 : decode cX6_keepOfFair 41 = .ok (.getfield 12, 3) := by decide +kernel
theorem dX6_keepOfFair_44 : decode cX6_keepOfFair 44 = .ok (.aload_n 0, 1) := by decide +kernel
theorem dX6_keepOfFair_45 : decode cX6_keepOfFair 45 = .ok (.getfield 36, 3) := by decide +kernel
theorem dX6_keepOfFair_48 : decode cX6_keepOfFair 48 = .ok (.iconst 0, 1) := by decide +kernel
theorem dX6_keepOfFair_49 : decode cX6_keepOfFair 49 = .ok (.iaload, 1) := by decide +kernel
theorem dX6_keepOfFair_50 : decode cX6_keepOfFair 50 = .ok (.putfield 153, 3) := by decide +kernel
theorem dX6_keepOfFair_53 : decode cX6_keepOfFair 53 = .ok (.aload_n 0, 1) := by decide +kernel
theorem dX6_keepOfFair_54 : decode cX6_keepOfFair 54 = .ok (.getfield 12, 3) := by decide +kernel
theorem dX6_keepOfFair_57 : decode cX6_keepOfFair 57 = .ok (.aload_n 0, 1) := by decide +kernel
theorem dX6_keepOfFair_58 : decode cX6_keepOfFair 58 = .ok (.getfield 36, 3) := by decide +kernel
theorem dX6_keepOfFair_61 : decode cX6_keepOfFair 61 = .ok (.iconst 1, 1) := by decide +kernel
theorem dX6_keepOfFair_62 : decode cX6_keepOfFair 62 = .ok (.iaload, 1) := by decide +kernel
theorem dX6_keepOfFair_63 : decode cX6_keepOfFair 63 = .ok (.putfield 156, 3) := by decide +kernel
theorem dX6_keepOfFair_66 : decode cX6_keepOfFair 66 = .ok (.goto 208, 3) := by decide +kernel
theorem dX6_keepOfFair_69 : decode cX6_keepOfFair 69 = .ok (.aload_n 0, 1) := by decide +kernel
theorem dX6_keepOfFair_70 : decode cX6_keepOfFair 70 = .ok (.getfield 12, 3) := by decide +kernel
theorem dX6_keepOfFair_73 : decode cX6_keepOfFair 73 = .ok (.aload_n 0, 1) := by decide +kernel
theorem dX6_keepOfFair_74 : decode cX6_keepOfFair 74 = .ok (.getfield 36, 3) := by decide +kernel
theorem dX6_keepOfFair_77 : decode cX6_keepOfFair 77 = .ok (.iconst 0, 1) := by decide +kernel
theorem dX6_keepOfFair_78 : decode cX6_keepOfFair 78 = .ok (.iaload, 1) := by decide +kernel
theorem dX6_keepOfFair_79 : decode cX6_keepOfFair 79 = .ok (.putfield 159, 3) := by decide +kernel
theorem dX6_keepOfFair_82 : decode cX6_keepOfFair 82 = .ok (.goto 192, 3) := by decide +kernel
theorem dX6_keepOfFair_85 : decode cX6_keepOfFair 85 = .ok (.aload_n 0, 1) := by decide +kernel
theorem dX6_keepOfFair_86 : decode cX6_keepOfFair 86 = .ok (.getfield 12, 3) := by decide +kernel
theorem dX6_keepOfFair_89 : decode cX6_keepOfFair 89 = .ok (.aload_n 0, 1) := by decide +kernel
theorem dX6_keepOfFair_90 : decode cX6_keepOfFair 90 = .ok (.getfield 36, 3) := by decide +kernel
theorem dX6_keepOfFair_93 : decode cX6_keepOfFair 93 = .ok (.iconst 0, 1) := by decide +kernel
theorem dX6_keepOfFair_94 : decode cX6_keepOfFair 94 = .ok (.iaload, 1) := by decide +kernel
theorem dX6_keepOfFair_95 : decode cX6_keepOfFair 95 = .ok (.aload_n 0, 1) := by decide +kernel
theorem dX6_keepOfFair_96 : decode cX6_keepOfFair 96 = .ok (.getfield 36, 3) := by decide +kernel
theorem dX6_keepOfFair_99 : decode cX6_keepOfFair 99 = .ok (.iconst 1, 1) := by decide +kernel
theorem dX6_keepOfFair_100 : decode cX6_keepOfFair 100 = .ok (.iaload, 1) := by decide +kernel
theorem dX6_keepOfFair_101 : decode cX6_keepOfFair 101 = .ok (.aload_n 0, 1) := by decide +kernel
theorem dX6_keepOfFair_102 : decode cX6_keepOfFair 102 = .ok (.getfield 36, 3) := by decide +kernel
theorem dX6_keepOfFair_105 : decode cX6_keepOfFair 105 = .ok (.iconst 2, 1) := by decide +kernel
theorem dX6_keepOfFair_106 : decode cX6_keepOfFair 106 = .ok (.iaload, 1) := by decide +kernel
theorem dX6_keepOfFair_107 : decode cX6_keepOfFair 107 = .ok (.invokevirtual 162, 3) := by decide +kernel
theorem dX6_keepOfFair_110 : decode cX6_keepOfFair 110 = .ok (.aload_n 0, 1) := by decide +kernel
theorem dX6_keepOfFair_111 : decode cX6_keepOfFair 111 = .ok (.dup, 1) := by decide +kernel
theorem dX6_keepOfFair_112 : decode cX6_keepOfFair 112 = .ok (.getfield 70, 3) := by decide +kernel
theorem dX6_keepOfFair_115 : decode cX6_keepOfFair 115 = .ok (.iconst 1, 1) := by decide +kernel
theorem dX6_keepOfFair_116 : decode cX6_keepOfFair 116 = .ok (.aload_n 0, 1) := by decide +kernel
theorem dX6_keepOfFair_117 : decode cX6_keepOfFair 117 = .ok (.getfield 36, 3) := by decide +kernel
theorem dX6_keepOfFair_120 : decode cX6_keepOfFair 120 = .ok (.iconst 0, 1) := by decide +kernel
theorem dX6_keepOfFair_121 : decode cX6_keepOfFair 121 = .ok (.iaload, 1) := by decide +kernel
theorem dX6_keepOfFair_122 : decode cX6_keepOfFair 122 = .ok (.ishl, 1) := by decide +kernel
theorem dX6_keepOfFair_123 : decode cX6_keepOfFair 123 = .ok (.ior, 1) := by decide +kernel
theorem dX6_keepOfFair_124 : decode cX6_keepOfFair 124 = .ok (.putfield 70, 3) := by decide +kernel
theorem dX6_keepOfFair_127 : decode cX6_keepOfFair 127 = .ok (.goto 147, 3) := by decide +kernel
theorem dX6_keepOfFair_130 : decode cX6_keepOfFair 130 = .ok (.aload_n 0, 1) := by decide +kernel
theorem dX6_keepOfFair_131 : decode cX6_keepOfFair 131 = .ok (.getfield 12, 3) := by decide +kernel
theorem dX6_keepOfFair_134 : decode cX6_keepOfFair 134 = .ok (.aload_n 0, 1) := by decide +kernel
theorem dX6_keepOfFair_135 : decode cX6_keepOfFair 135 = .ok (.getfield 12, 3) := by decide +kernel
theorem dX6_keepOfFair_138 : decode cX6_keepOfFair 138 = .ok (.getfield 80, 3) := by decide +kernel
theorem dX6_keepOfFair_141 : decode cX6_keepOfFair 141 = .ok (.aload_n 0, 1) := by decide +kernel
theorem dX6_keepOfFair_142 : decode cX6_keepOfFair 142 = .ok (.getfield 36, 3) := by decide +kernel
theorem dX6_keepOfFair_145 : decode cX6_keepOfFair 145 = .ok (.iconst 0, 1) := by decide +kernel
theorem dX6_keepOfFair_146 : decode cX6_keepOfFair 146 = .ok (.iaload, 1) := by decide +kernel
theorem dX6_keepOfFair_147 : decode cX6_keepOfFair 147 = .ok (.aload_n 0, 1) := by decide +kernel
theorem dX6_keepOfFair_148 : decode cX6_keepOfFair 148 = .ok (.getfield 36, 3) := by decide +kernel
theorem dX6_keepOfFair_151 : decode cX6_keepOfFair 151 = .ok (.iconst 1, 1) := by decide +kernel
theorem dX6_keepOfFair_152 : decode cX6_keepOfFair 152 = .ok (.iaload, 1) := by decide +kernel
theorem dX6_keepOfFair_153 : decode cX6_keepOfFair 153 = .ok (.invokevirtual 166, 3) := by decide +kernel
theorem dX6_keepOfFair_156 : decode cX6_keepOfFair 156 = .ok (.aload_n 0, 1) := by decide +kernel
theorem dX6_keepOfFair_157 : decode cX6_keepOfFair 157 = .ok (.getfield 12, 3) := by decide +kernel
theorem dX6_keepOfFair_160 : decode cX6_keepOfFair 160 = .ok (.dup, 1) := by decide +kernel
theorem dX6_keepOfFair_161 : decode cX6_keepOfFair 161 = .ok (.getfield 80, 3) := by decide +kernel
theorem dX6_keepOfFair_164 : decode cX6_keepOfFair 164 = .ok (.iconst 1, 1) := by decide +kernel
theorem dX6_keepOfFair_165 : decode cX6_keepOfFair 165 = .ok (.iadd, 1) := by decide +kernel
theorem dX6_keepOfFair_166 : decode cX6_keepOfFair 166 = .ok (.putfield 80, 3) := by decide +kernel
theorem dX6_keepOfFair_169 : decode cX6_keepOfFair 169 = .ok (.goto 105, 3) := by decide +kernel
theorem dX6_keepOfFair_172 : decode cX6_keepOfFair 172 = .ok (.aload_n 0, 1) := by decide +kernel
theorem dX6_keepOfFair_173 : decode cX6_keepOfFair 173 = .ok (.aload_n 0, 1) := by decide +kernel
theorem dX6_keepOfFair_174 : decode cX6_keepOfFair 174 = .ok (.getfield 12, 3) := by decide +kernel
theorem dX6_keepOfFair_177 : decode cX6_keepOfFair 177 = .ok (.getfield 169, 3) := by decide +kernel
theorem dX6_keepOfFair_180 : decode cX6_keepOfFair 180 = .ok (.aload_n 0, 1) := by decide +kernel
theorem dX6_keepOfFair_181 : decode cX6_keepOfFair 181 = .ok (.getfield 12, 3) := by decide +kernel
theorem dX6_keepOfFair_184 : decode cX6_keepOfFair 184 = .ok (.getfield 127, 3) := by decide +kernel
theorem dX6_keepOfFair_187 : decode cX6_keepOfFair 187 = .ok (.iconst 3, 1) := by decide +kernel
theorem dX6_keepOfFair_188 : decode cX6_keepOfFair 188 = .ok (.invokevirtual 172, 3) := by decide +kernel
theorem dX6_keepOfFair_191 : decode cX6_keepOfFair 191 = .ok (.aload_n 0, 1) := by decide +kernel
theorem dX6_keepOfFair_192 : decode cX6_keepOfFair 192 = .ok (.getfield 12, 3) := by decide +kernel
theorem dX6_keepOfFair_195 : decode cX6_keepOfFair 195 = .ok (.dup, 1) := by decide +kernel
theorem dX6_keepOfFair_196 : decode cX6_keepOfFair 196 = .ok (.getfield 127, 3) := by decide +kernel
theorem dX6_keepOfFair_199 : decode cX6_keepOfFair 199 = .ok (.iconst 1, 1) := by decide +kernel
theorem dX6_keepOfFair_200 : decode cX6_keepOfFair 200 = .ok (.iadd, 1) := by decide +kernel
theorem dX6_keepOfFair_201 : decode cX6_keepOfFair 201 = .ok (.putfield 127, 3) := by decide +kernel
theorem dX6_keepOfFair_204 : decode cX6_keepOfFair 204 = .ok (.goto 70, 3) := by decide +kernel
theorem dX6_keepOfFair_207 : decode cX6_keepOfFair 207 = .ok (.aload_n 0, 1) := by decide +kernel
theorem dX6_keepOfFair_208 : decode cX6_keepOfFair 208 = .ok (.aload_n 0, 1) := by decide +kernel
theorem dX6_keepOfFair_209 : decode cX6_keepOfFair 209 = .ok (.getfield 12, 3) := by decide +kernel
theorem dX6_keepOfFair_212 : decode cX6_keepOfFair 212 = .ok (.getfield 175, 3) := by decide +kernel
theorem dX6_keepOfFair_215 : decode cX6_keepOfFair 215 = .ok (.aload_n 0, 1) := by decide +kernel
theorem dX6_keepOfFair_216 : decode cX6_keepOfFair 216 = .ok (.getfield 12, 3) := by decide +kernel
theorem dX6_keepOfFair_219 : decode cX6_keepOfFair 219 = .ok (.getfield 130, 3) := by decide +kernel
theorem dX6_keepOfFair_222 : decode cX6_keepOfFair 222 = .ok (.iconst 2, 1) := by decide +kernel
theorem dX6_keepOfFair_223 : decode cX6_keepOfFair 223 = .ok (.invokevirtual 172, 3) := by decide +kernel
theorem dX6_keepOfFair_226 : decode cX6_keepOfFair 226 = .ok (.aload_n 0, 1) := by decide +kernel
theorem dX6_keepOfFair_227 : decode cX6_keepOfFair 227 = .ok (.getfield 12, 3) := by decide +kernel
theorem dX6_keepOfFair_230 : decode cX6_keepOfFair 230 = .ok (.dup, 1) := by decide +kernel
theorem dX6_keepOfFair_231 : decode cX6_keepOfFair 231 = .ok (.getfield 130, 3) := by decide +kernel
theorem dX6_keepOfFair_234 : decode cX6_keepOfFair 234 = .ok (.iconst 1, 1) := by decide +kernel
theorem dX6_keepOfFair_235 : decode cX6_keepOfFair 235 = .ok (.iadd, 1) := by decide +kernel
theorem dX6_keepOfFair_236 : decode cX6_keepOfFair 236 = .ok (.putfield 130, 3) := by decide +kernel
theorem dX6_keepOfFair_239 : decode cX6_keepOfFair 239 = .ok (.goto 35, 3) := by decide +kernel
theorem dX6_keepOfFair_242 : decode cX6_keepOfFair 242 = .ok (.aload_n 0, 1) := by decide +kernel
theorem dX6_keepOfFair_243 : decode cX6_keepOfFair 243 = .ok (.aload_n 0, 1) := by decide +kernel
theorem dX6_keepOfFair_244 : decode cX6_keepOfFair 244 = .ok (.getfield 12, 3) := by decide +kernel
theorem dX6_keepOfFair_247 : decode cX6_keepOfFair 247 = .ok (.getfield 178, 3) := by decide +kernel
theorem dX6_keepOfFair_250 : decode cX6_keepOfFair 250 = .ok (.aload_n 0, 1) := by decide +kernel
theorem dX6_keepOfFair_251 : decode cX6_keepOfFair 251 = .ok (.getfield 12, 3) := by decide +kernel
theorem dX6_keepOfFair_254 : decode cX6_keepOfFair 254 = .ok (.getfield 133, 3) := by decide +kernel
theorem dX6_keepOfFair_257 : decode cX6_keepOfFair 257 = .ok (.iconst 4, 1) := by decide +kernel
theorem dX6_keepOfFair_258 : decode cX6_keepOfFair 258 = .ok (.invokevirtual 172, 3) := by decide +kernel
theorem dX6_keepOfFair_261 : decode cX6_keepOfFair 261 = .ok (.aload_n 0, 1) := by decide +kernel
theorem dX6_keepOfFair_262 : decode cX6_keepOfFair 262 = .ok (.getfield 12, 3) := by decide +kernel
theorem dX6_keepOfFair_265 : decode cX6_keepOfFair 265 = .ok (.dup, 1) := by decide +kernel
theorem dX6_keepOfFair_266 : decode cX6_keepOfFair 266 = .ok (.getfield 133, 3) := by decide +kernel
theorem dX6_keepOfFair_269 : decode cX6_keepOfFair 269 = .ok (.iconst 1, 1) := by decide +kernel
theorem dX6_keepOfFair_270 : decode cX6_keepOfFair 270 = .ok (.iadd, 1) := by decide +kernel
theorem dX6_keepOfFair_271 : decode cX6_keepOfFair 271 = .ok (.putfield 133, 3) := by decide +kernel
theorem dX6_keepOfFair_274 : decode cX6_keepOfFair 274 = .ok (.return_, 1) := by decide +kernel
theorem dX6_keepRow_0 : decode cX6_keepRow 0 = .ok (.iconst 0, 1) := by decide +kernel
theorem dX6_keepRow_1 : decode cX6_keepRow 1 = .ok (.istore 4, 2) := by decide +kernel
theorem dX6_keepRow_3 : decode cX6_keepRow 3 = .ok (.iload 4, 2) := by decide +kernel
theorem dX6_keepRow_5 : decode cX6_keepRow 5 = .ok (.iload_n 3, 1) := by decide +kernel
theorem dX6_keepRow_6 : decode cX6_keepRow 6 = .ok (.if_icmp .ge 28, 3) := by decide +kernel
theorem dX6_keepRow_9 : decode cX6_keepRow 9 = .ok (.aload_n 1, 1) := by decide +kernel
theorem dX6_keepRow_10 : decode cX6_keepRow 10 = .ok (.iload_n 3, 1) := by decide +kernel
theorem dX6_keepRow_11 : decode cX6_keepRow 11 = .ok (.iload_n 2, 1) := by decide +kernel
theorem dX6_keepRow_12 : decode cX6_keepRow 12 = .ok (.imul, 1) := by decide +kernel
theorem dX6_keepRow_13 : decode cX6_keepRow 13 = .ok (.iload 4, 2) := by decide +kernel
theorem dX6_keepRow_15 : decode cX6_keepRow 15 = .ok (.iadd, 1) := by decide +kernel
theorem dX6_keepRow_16 : decode cX6_keepRow 16 = .ok (.aload_n 0, 1) := by decide +kernel
theorem dX6_keepRow_17 : decode cX6_keepRow 17 = .ok (.getfield 36, 3) := by decide +kernel
theorem dX6_keepRow_20 : decode cX6_keepRow 20 = .ok (.iload 4, 2) := by decide +kernel
theorem dX6_keepRow_22 : decode cX6_keepRow 22 = .ok (.invokestatic 106, 3) := by decide +kernel
theorem dX6_keepRow_25 : decode cX6_keepRow 25 = .ok (.invokestatic 120, 3) := by decide +kernel
theorem dX6_keepRow_28 : decode cX6_keepRow 28 = .ok (.iinc 4 1, 3) := by decide +kernel
theorem dX6_keepRow_31 : decode cX6_keepRow 31 = .ok (.goto (-28), 3) := by decide +kernel
theorem dX6_keepRow_34 : decode cX6_keepRow 34 = .ok (.return_, 1) := by decide +kernel
theorem dX6_step_0 : decode cX6_step 0 = .ok (.aload_n 0, 1) := by decide +kernel
theorem dX6_step_1 : decode cX6_step 1 = .ok (.getfield 67, 3) := by decide +kernel
theorem dX6_step_4 : decode cX6_step 4 = .ok (.aload_n 0, 1) := by decide +kernel
theorem dX6_step_5 : decode cX6_step 5 = .ok (.getfield 53, 3) := by decide +kernel
theorem dX6_step_8 : decode cX6_step 8 = .ok (.if_icmp .ge 30, 3) := by decide +kernel
theorem dX6_step_11 : decode cX6_step 11 = .ok (.aload_n 0, 1) := by decide +kernel
theorem dX6_step_12 : decode cX6_step 12 = .ok (.aload_n 0, 1) := by decide +kernel
theorem dX6_step_13 : decode cX6_step 13 = .ok (.getfield 67, 3) := by decide +kernel
theorem dX6_step_16 : decode cX6_step 16 = .ok (.invokevirtual 181, 3) := by decide +kernel
theorem dX6_step_19 : decode cX6_step 19 = .ok (.invokestatic 184, 3) := by decide +kernel
theorem dX6_step_22 : decode cX6_step 22 = .ok (.ifCond .eq 16, 3) := by decide +kernel
theorem dX6_step_25 : decode cX6_step 25 = .ok (.aload_n 0, 1) := by decide +kernel
theorem dX6_step_26 : decode cX6_step 26 = .ok (.dup, 1) := by decide +kernel
theorem dX6_step_27 : decode cX6_step 27 = .ok (.getfield 67, 3) := by decide +kernel
theorem dX6_step_30 : decode cX6_step 30 = .ok (.iconst 1, 1) := by decide +kernel
theorem dX6_step_31 : decode cX6_step 31 = .ok (.iadd, 1) := by decide +kernel
theorem dX6_step_32 : decode cX6_step 32 = .ok (.putfield 67, 3) := by decide +kernel
theorem dX6_step_35 : decode cX6_step 35 = .ok (.goto (-35), 3) := by decide +kernel
theorem dX6_step_38 : decode cX6_step 38 = .ok (.aload_n 0, 1) := by decide +kernel
theorem dX6_step_39 : decode cX6_step 39 = .ok (.aload_n 0, 1) := by decide +kernel
theorem dX6_step_40 : decode cX6_step 40 = .ok (.getfield 67, 3) := by decide +kernel
theorem dX6_step_43 : decode cX6_step 43 = .ok (.putfield 77, 3) := by decide +kernel
theorem dX6_step_46 : decode cX6_step 46 = .ok (.aload_n 0, 1) := by decide +kernel
theorem dX6_step_47 : decode cX6_step 47 = .ok (.aload_n 0, 1) := by decide +kernel
theorem dX6_step_48 : decode cX6_step 48 = .ok (.getfield 67, 3) := by decide +kernel
theorem dX6_step_51 : decode cX6_step 51 = .ok (.invokevirtual 181, 3) := by decide +kernel
theorem dX6_step_54 : decode cX6_step 54 = .ok (.istore_n 1, 1) := by decide +kernel
theorem dX6_step_55 : decode cX6_step 55 = .ok (.aload_n 0, 1) := by decide +kernel
theorem dX6_step_56 : decode cX6_step 56 = .ok (.getfield 67, 3) := by decide +kernel
theorem dX6_step_59 : decode cX6_step 59 = .ok (.aload_n 0, 1) := by decide +kernel
theorem dX6_step_60 : decode cX6_step 60 = .ok (.getfield 53, 3) := by decide +kernel
theorem dX6_step_63 : decode cX6_step 63 = .ok (.if_icmp .lt 11, 3) := by decide +kernel
theorem dX6_step_66 : decode cX6_step 66 = .ok (.aload_n 0, 1) := by decide +kernel
theorem dX6_step_67 : decode cX6_step 67 = .ok (.iconst 0, 1) := by decide +kernel
theorem dX6_step_68 : decode cX6_step 68 = .ok (.putfield 90, 3) := by decide +kernel
theorem dX6_step_71 : decode cX6_step 71 = .ok (.goto 96, 3) := by decide +kernel
theorem dX6_step_74 : decode cX6_step 74 = .ok (.iload_n 1, 1) := by decide +kernel
theorem dX6_step_75 : decode cX6_step 75 = .ok (.bipush 59, 2) := by decide +kernel
theorem dX6_step_77 : decode cX6_step 77 = .ok (.if_icmp .ne 21, 3) := by decide +kernel
theorem dX6_step_80 : decode cX6_step 80 = .ok (.aload_n 0, 1) := by decide +kernel
theorem dX6_step_81 : decode cX6_step 81 = .ok (.iconst 3, 1) := by decide +kernel
theorem dX6_step_82 : decode cX6_step 82 = .ok (.putfield 90, 3) := by decide +kernel
theorem dX6_step_85 : decode cX6_step 85 = .ok (.aload_n 0, 1) := by decide +kernel
theorem dX6_step_86 : decode cX6_step 86 = .ok (.dup, 1) := by decide +kernel
theorem dX6_step_87 : decode cX6_step 87 = .ok (.getfield 67, 3) := by decide +kernel
theorem dX6_step_90 : decode cX6_step 90 = .ok (.iconst 1, 1) := by decide +kernel
theorem dX6_step_91 : decode cX6_step 91 = .ok (.iadd, 1) := by decide +kernel
theorem dX6_step_92 : decode cX6_step 92 = .ok (.putfield 67, 3) := by decide +kernel
theorem dX6_step_95 : decode cX6_step 95 = .ok (.goto 72, 3) := by decide +kernel
theorem dX6_step_98 : decode cX6_step 98 = .ok (.iload_n 1, 1) := by decide +kernel
theorem dX6_step_99 : decode cX6_step 99 = .ok (.invokestatic 187, 3) := by decide +kernel
theorem dX6_step_102 : decode cX6_step 102 = .ok (.ifCond .eq 46, 3) := by decide +kernel
theorem dX6_step_105 : decode cX6_step 105 = .ok (.aload_n 0, 1) := by decide +kernel
theorem dX6_step_106 : decode cX6_step 106 = .ok (.iconst 1, 1) := by decide +kernel
theorem dX6_step_107 : decode cX6_step 107 = .ok (.putfield 90, 3) := by decide +kernel
theorem dX6_step_110 : decode cX6_step 110 = .ok (.aload_n 0, 1) := by decide +kernel
theorem dX6_step_111 : decode cX6_step 111 = .ok (.getfield 67, 3) := by decide +kernel
theorem dX6_step_114 : decode cX6_step 114 = .ok (.aload_n 0, 1) := by decide +kernel
theorem dX6_step_115 : decode cX6_step 115 = .ok (.getfield 53, 3) := by decide +kernel
theorem dX6_step_118 : decode cX6_step 118 = .ok (.if_icmp .ge 49, 3) := by decide +kernel
theorem dX6_step_121 : decode cX6_step 121 = .ok (.aload_n 0, 1) := by decide +kernel
theorem dX6_step_122 : decode cX6_step 122 = .ok (.aload_n 0, 1) := by decide +kernel
theorem dX6_step_123 : decode cX6_step 123 = .ok (.getfield 67, 3) := by decide +kernel
theorem dX6_step_126 : decode cX6_step 126 = .ok (.invokevirtual 181, 3) := by decide +kernel
theorem dX6_step_129 : decode cX6_step 129 = .ok (.invokestatic 187, 3) := by decide +kernel
theorem dX6_step_132 : decode cX6_step 132 = .ok (.ifCond .eq 35, 3) := by decide +kernel
theorem dX6_step_135 : decode cX6_step 135 = .ok (.aload_n 0, 1) := by decide +kernel
theorem dX6_step_136 : decode cX6_step 136 = .ok (.dup, 1) := by decide +kernel
theorem dX6_step_137 : decode cX6_step 137 = .ok (.getfield 67, 3) := by decide +kernel
theorem dX6_step_140 : decode cX6_step 140 = .ok (.iconst 1, 1) := by decide +kernel
theorem dX6_step_141 : decode cX6_step 141 = .ok (.iadd, 1) := by decide +kernel
theorem dX6_step_142 : decode cX6_step 142 = .ok (.putfield 67, 3) := by decide +kernel
theorem dX6_step_145 : decode cX6_step 145 = .ok (.goto (-35), 3) := by decide +kernel
theorem dX6_step_148 : decode cX6_step 148 = .ok (.iload_n 1, 1) := by decide +kernel
theorem dX6_step_149 : decode cX6_step 149 = .ok (.invokestatic 190, 3) := by decide +kernel
theorem dX6_step_152 : decode cX6_step 152 = .ok (.ifCond .eq 10, 3) := by decide +kernel
theorem dX6_step_155 : decode cX6_step 155 = .ok (.aload_n 0, 1) := by decide +kernel
theorem dX6_step_156 : decode cX6_step 156 = .ok (.invokevirtual 193, 3) := by decide +kernel
theorem dX6_step_159 : decode cX6_step 159 = .ok (.goto 8, 3) := by decide +kernel
theorem dX6_step_162 : decode cX6_step 162 = .ok (.aload_n 0, 1) := by decide +kernel
theorem dX6_step_163 : decode cX6_step 163 = .ok (.iconst 4, 1) := by decide +kernel
theorem dX6_step_164 : decode cX6_step 164 = .ok (.putfield 90, 3) := by decide +kernel
theorem dX6_step_167 : decode cX6_step 167 = .ok (.return_, 1) := by decide +kernel
theorem dX6_stepOverDigits_0 : decode cX6_stepOverDigits 0 = .ok (.aload_n 0, 1) := by decide +kernel
theorem dX6_stepOverDigits_1 : decode cX6_stepOverDigits 1 = .ok (.iconst 0, 1) := by decide +kernel
theorem dX6_stepOverDigits_2 : decode cX6_stepOverDigits 2 = .ok (.putfield 111, 3) := by decide +kernel
theorem dX6_stepOverDigits_5 : decode cX6_stepOverDigits 5 = .ok (.aload_n 0, 1) := by decide +kernel
theorem dX6_stepOverDigits_6 : decode cX6_stepOverDigits 6 = .ok (.getfield 67, 3) := by decide +kernel
theorem dX6_stepOverDigits_9 : decode cX6_stepOverDigits 9 = .ok (.aload_n 0, 1) := by decide +kernel
theorem dX6_stepOverDigits_10 : decode cX6_stepOverDigits 10 = .ok (.getfield 53, 3) := by decide +kernel
theorem dX6_stepOverDigits_13 : decode cX6_stepOverDigits 13 = .ok (.if_icmp .ge 53, 3) := by decide +kernel
theorem dX6_stepOverDigits_16 : decode cX6_stepOverDigits 16 = .ok (.aload_n 0, 1) := by decide +kernel
theorem dX6_stepOverDigits_17 : decode cX6_stepOverDigits 17 = .ok (.aload_n 0, 1) := by decide +kernel
theorem dX6_stepOverDigits_18 : decode cX6_stepOverDigits 18 = .ok (.getfield 67, 3) := by decide +kernel
theorem dX6_stepOverDigits_21 : decode cX6_stepOverDigits 21 = .ok (.invokevirtual 181, 3) := by decide +kernel
theorem dX6_stepOverDigits_24 : decode cX6_stepOverDigits 24 = .ok (.invokestatic 190, 3) := by decide +kernel
theorem dX6_stepOverDigits_27 : decode cX6_stepOverDigits 27 = .ok (.ifCond .eq 39, 3) := by decide +kernel
theorem dX6_stepOverDigits_30 : decode cX6_stepOverDigits 30 = .ok (.aload_n 0, 1) := by decide +kernel
theorem dX6_stepOverDigits_31 : decode cX6_stepOverDigits 31 = .ok (.bipush 10, 2) := by decide +kernel
theorem dX6_stepOverDigits_33 : decode cX6_stepOverDigits 33 = .ok (.aload_n 0, 1) := by decide +kernel
theorem dX6_stepOverDigits_34 : decode cX6_stepOverDigits 34 = .ok (.getfield 111, 3) := by decide +kernel
theorem dX6_stepOverDigits_37 : decode cX6_stepOverDigits 37 = .ok (.imul, 1) := by decide +kernel
theorem dX6_stepOverDigits_38 : decode cX6_stepOverDigits 38 = .ok (.aload_n 0, 1) := by decide +kernel
theorem dX6_stepOverDigits_39 : decode cX6_stepOverDigits 39 = .ok (.aload_n 0, 1) := by decide +kernel
theorem dX6_stepOverDigits_40 : decode cX6_stepOverDigits 40 = .ok (.getfield 67, 3) := by decide +kernel
theorem dX6_stepOverDigits_43 : decode cX6_stepOverDigits 43 = .ok (.invokevirtual 181, 3) := by decide +kernel
theorem dX6_stepOverDigits_46 : decode cX6_stepOverDigits 46 = .ok (.iadd, 1) := by decide +kernel
theorem dX6_stepOverDigits_47 : decode cX6_stepOverDigits 47 = .ok (.bipush 48, 2) := by decide +kernel
theorem dX6_stepOverDigits_49 : decode cX6_stepOverDigits 49 = .ok (.isub, 1) := by decide +kernel
theorem dX6_stepOverDigits_50 : decode cX6_stepOverDigits 50 = .ok (.putfield 111, 3) := by decide +kernel
theorem dX6_stepOverDigits_53 : decode cX6_stepOverDigits 53 = .ok (.aload_n 0, 1) := by decide +kernel
theorem dX6_stepOverDigits_54 : decode cX6_stepOverDigits 54 = .ok (.dup, 1) := by decide +kernel
theorem dX6_stepOverDigits_55 : decode cX6_stepOverDigits 55 = .ok (.getfield 67, 3) := by decide +kernel
theorem dX6_stepOverDigits_58 : decode cX6_stepOverDigits 58 = .ok (.iconst 1, 1) := by decide +kernel
theorem dX6_stepOverDigits_59 : decode cX6_stepOverDigits 59 = .ok (.iadd, 1) := by decide +kernel
theorem dX6_stepOverDigits_60 : decode cX6_stepOverDigits 60 = .ok (.putfield 67, 3) := by decide +kernel
theorem dX6_stepOverDigits_63 : decode cX6_stepOverDigits 63 = .ok (.goto (-58), 3) := by decide +kernel
theorem dX6_stepOverDigits_66 : decode cX6_stepOverDigits 66 = .ok (.aload_n 0, 1) := by decide +kernel
theorem dX6_stepOverDigits_67 : decode cX6_stepOverDigits 67 = .ok (.aload_n 0, 1) := by decide +kernel
theorem dX6_stepOverDigits_68 : decode cX6_stepOverDigits 68 = .ok (.getfield 67, 3) := by decide +kernel
theorem dX6_stepOverDigits_71 : decode cX6_stepOverDigits 71 = .ok (.aload_n 0, 1) := by decide +kernel
theorem dX6_stepOverDigits_72 : decode cX6_stepOverDigits 72 = .ok (.getfield 77, 3) := by decide +kernel
theorem dX6_stepOverDigits_75 : decode cX6_stepOverDigits 75 = .ok (.isub, 1) := by decide +kernel
theorem dX6_stepOverDigits_76 : decode cX6_stepOverDigits 76 = .ok (.iconst 2, 1) := by decide +kernel
theorem dX6_stepOverDigits_77 : decode cX6_stepOverDigits 77 = .ok (.if_icmp .gt 7, 3) := by decide +kernel
theorem dX6_stepOverDigits_80 : decode cX6_stepOverDigits 80 = .ok (.iconst 2, 1) := by decide +kernel
theorem dX6_stepOverDigits_81 : decode cX6_stepOverDigits 81 = .ok (.goto 4, 3) := by decide +kernel
theorem dX6_stepOverDigits_84 : decode cX6_stepOverDigits 84 = .ok (.iconst 4, 1) := by decide +kernel
theorem dX6_stepOverDigits_85 : decode cX6_stepOverDigits 85 = .ok (.putfield 90, 3) := by decide +kernel
theorem dX6_stepOverDigits_88 : decode cX6_stepOverDigits 88 = .ok (.return_, 1) := by decide +kernel
theorem dX6_byteAt_0 : decode cX6_byteAt 0 = .ok (.iload_n 1, 1) := by decide +kernel
theorem dX6_byteAt_1 : decode cX6_byteAt 1 = .ok (.ifCond .lt 27, 3) := by decide +kernel
theorem dX6_byteAt_4 : decode cX6_byteAt 4 = .ok (.iload_n 1, 1) := by decide +kernel
theorem dX6_byteAt_5 : decode cX6_byteAt 5 = .ok (.aload_n 0, 1) := by decide +kernel
theorem dX6_byteAt_6 : decode cX6_byteAt 6 = .ok (.getfield 53, 3) := by decide +kernel
theorem dX6_byteAt_9 : decode cX6_byteAt 9 = .ok (.if_icmp .ge 19, 3) := by decide +kernel
theorem dX6_byteAt_12 : decode cX6_byteAt 12 = .ok (.iload_n 1, 1) := by decide +kernel
theorem dX6_byteAt_13 : decode cX6_byteAt 13 = .ok (.sipush 600, 3) := by decide +kernel
theorem dX6_byteAt_16 : decode cX6_byteAt 16 = .ok (.if_icmp .ge 12, 3) := by decide +kernel
theorem dX6_byteAt_19 : decode cX6_byteAt 19 = .ok (.aload_n 0, 1) := by decide +kernel
theorem dX6_byteAt_20 : decode cX6_byteAt 20 = .ok (.getfield 32, 3) := by decide +kernel
theorem dX6_byteAt_23 : decode cX6_byteAt 23 = .ok (.iload_n 1, 1) := by decide +kernel
theorem dX6_byteAt_24 : decode cX6_byteAt 24 = .ok (.baload, 1) := by decide +kernel
theorem dX6_byteAt_25 : decode cX6_byteAt 25 = .ok (.goto 4, 3) := by decide +kernel
theorem dX6_byteAt_28 : decode cX6_byteAt 28 = .ok (.iconst 0, 1) := by decide +kernel
theorem dX6_byteAt_29 : decode cX6_byteAt 29 = .ok (.ireturn, 1) := by decide +kernel
theorem dX6_isBlank_0 : decode cX6_isBlank 0 = .ok (.iload_n 0, 1) := by decide +kernel
theorem dX6_isBlank_1 : decode cX6_isBlank 1 = .ok (.bipush 10, 2) := by decide +kernel
theorem dX6_isBlank_3 : decode cX6_isBlank 3 = .ok (.if_icmp .eq 9, 3) := by decide +kernel
theorem dX6_isBlank_6 : decode cX6_isBlank 6 = .ok (.iload_n 0, 1) := by decide +kernel
theorem dX6_isBlank_7 : decode cX6_isBlank 7 = .ok (.bipush 32, 2) := by decide +kernel
theorem dX6_isBlank_9 : decode cX6_isBlank 9 = .ok (.if_icmp .ne 7, 3) := by decide +kernel
theorem dX6_isBlank_12 : decode cX6_isBlank 12 = .ok (.iconst 1, 1) := by decide +kernel
theorem dX6_isBlank_13 : decode cX6_isBlank 13 = .ok (.goto 4, 3) := by decide +kernel
theorem dX6_isBlank_16 : decode cX6_isBlank 16 = .ok (.iconst 0, 1) := by decide +kernel
theorem dX6_isBlank_17 : decode cX6_isBlank 17 = .ok (.ireturn, 1) := by decide +kernel
theorem dX6_isLetter_0 : decode cX6_isLetter 0 = .ok (.iload_n 0, 1) := by decide +kernel
theorem dX6_isLetter_1 : decode cX6_isLetter 1 = .ok (.bipush 97, 2) := by decide +kernel
theorem dX6_isLetter_3 : decode cX6_isLetter 3 = .ok (.if_icmp .lt 13, 3) := by decide +kernel
theorem dX6_isLetter_6 : decode cX6_isLetter 6 = .ok (.iload_n 0, 1) := by decide +kernel
theorem dX6_isLetter_7 : decode cX6_isLetter 7 = .ok (.bipush 122, 2) := by decide +kernel
theorem dX6_isLetter_9 : decode cX6_isLetter 9 = .ok (.if_icmp .gt 7, 3) := by decide +kernel
theorem dX6_isLetter_12 : decode cX6_isLetter 12 = .ok (.iconst 1, 1) := by decide +kernel
theorem dX6_isLetter_13 : decode cX6_isLetter 13 = .ok (.goto 4, 3) := by decide +kernel
theorem dX6_isLetter_16 : decode cX6_isLetter 16 = .ok (.iconst 0, 1) := by decide +kernel
theorem dX6_isLetter_17 : decode cX6_isLetter 17 = .ok (.ireturn, 1) := by decide +kernel
theorem dX6_isDigit_0 : decode cX6_isDigit 0 = .ok (.iload_n 0, 1) := by decide +kernel
theorem dX6_isDigit_1 : decode cX6_isDigit 1 = .ok (.bipush 48, 2) := by decide +kernel
theorem dX6_isDigit_3 : decode cX6_isDigit 3 = .ok (.if_icmp .lt 13, 3) := by decide +kernel
theorem dX6_isDigit_6 : decode cX6_isDigit 6 = .ok (.iload_n 0, 1) := by decide +kernel
theorem dX6_isDigit_7 : decode cX6_isDigit 7 = .ok (.bipush 57, 2) := by decide +kernel
theorem dX6_isDigit_9 : decode cX6_isDigit 9 = .ok (.if_icmp .gt 7, 3) := by decide +kernel
theorem dX6_isDigit_12 : decode cX6_isDigit 12 = .ok (.iconst 1, 1) := by decide +kernel
theorem dX6_isDigit_13 : decode cX6_isDigit 13 = .ok (.goto 4, 3) := by decide +kernel
theorem dX6_isDigit_16 : decode cX6_isDigit 16 = .ok (.iconst 0, 1) := by decide +kernel
theorem dX6_isDigit_17 : decode cX6_isDigit 17 = .ok (.ireturn, 1) := by decide +kernel
theorem dX6_lineNamed_0 : decode cX6_lineNamed 0 = .ok (.getstatic 196, 3) := by decide +kernel
theorem dX6_lineNamed_3 : decode cX6_lineNamed 3 = .ok (.iload_n 1, 1) := by decide +kernel
theorem dX6_lineNamed_4 : decode cX6_lineNamed 4 = .ok (.invokestatic 106, 3) := by decide +kernel
theorem dX6_lineNamed_7 : decode cX6_lineNamed 7 = .ok (.istore_n 2, 1) := by decide +kernel
theorem dX6_lineNamed_8 : decode cX6_lineNamed 8 = .ok (.iload_n 2, 1) := by decide +kernel
theorem dX6_lineNamed_9 : decode cX6_lineNamed 9 = .ok (.getstatic 196, 3) := by decide +kernel
theorem dX6_lineNamed_12 : decode cX6_lineNamed 12 = .ok (.iload_n 1, 1) := by decide +kernel
theorem dX6_lineNamed_13 : decode cX6_lineNamed 13 = .ok (.iconst 1, 1) := by decide +kernel
theorem dX6_lineNamed_14 : decode cX6_lineNamed 14 = .ok (.iadd, 1) := by decide +kernel
theorem dX6_lineNamed_15 : decode cX6_lineNamed 15 = .ok (.invokestatic 106, 3) := by decide +kernel
theorem dX6_lineNamed_18 : decode cX6_lineNamed 18 = .ok (.if_icmp .ge 22, 3) := by decide +kernel
theorem dX6_lineNamed_21 : decode cX6_lineNamed 21 = .ok (.aload_n 0, 1) := by decide +kernel
theorem dX6_lineNamed_22 : decode cX6_lineNamed 22 = .ok (.iload_n 2, 1) := by decide +kernel
theorem dX6_lineNamed_23 : decode cX6_lineNamed 23 = .ok (.invokestatic 199, 3) := by decide +kernel
theorem dX6_lineNamed_26 : decode cX6_lineNamed 26 = .ok (.invokevirtual 203, 3) := by decide +kernel
theorem dX6_lineNamed_29 : decode cX6_lineNamed 29 = .ok (.ifCond .eq 5, 3) := by decide +kernel
theorem dX6_lineNamed_32 : decode cX6_lineNamed 32 = .ok (.iload_n 2, 1) := by decide +kernel
theorem dX6_lineNamed_33 : decode cX6_lineNamed 33 = .ok (.ireturn, 1) := by decide +kernel
theorem dX6_lineNamed_34 : decode cX6_lineNamed 34 = .ok (.iinc 2 1, 3) := by decide +kernel
theorem dX6_lineNamed_37 : decode cX6_lineNamed 37 = .ok (.goto (-29), 3) := by decide +kernel
theorem dX6_lineNamed_40 : decode cX6_lineNamed 40 = .ok (.iconst (-1), 1) := by decide +kernel
theorem dX6_lineNamed_41 : decode cX6_lineNamed 41 = .ok (.ireturn, 1) := by decide +kernel
theorem dX6_isToken_0 : decode cX6_isToken 0 = .ok (.aload_n 0, 1) := by decide +kernel
theorem dX6_isToken_1 : decode cX6_isToken 1 = .ok (.getfield 67, 3) := by decide +kernel
theorem dX6_isToken_4 : decode cX6_isToken 4 = .ok (.aload_n 0, 1) := by decide +kernel
theorem dX6_isToken_5 : decode cX6_isToken 5 = .ok (.getfield 77, 3) := by decide +kernel
theorem dX6_isToken_8 : decode cX6_isToken 8 = .ok (.isub, 1) := by decide +kernel
theorem dX6_isToken_9 : decode cX6_isToken 9 = .ok (.aload_n 1, 1) := by decide +kernel
theorem dX6_isToken_10 : decode cX6_isToken 10 = .ok (.invokevirtual 207, 3) := by decide +kernel
theorem dX6_isToken_13 : decode cX6_isToken 13 = .ok (.if_icmp .eq 5, 3) := by decide +kernel
theorem dX6_isToken_16 : decode cX6_isToken 16 = .ok (.iconst 0, 1) := by decide +kernel
theorem dX6_isToken_17 : decode cX6_isToken 17 = .ok (.ireturn, 1) := by decide +kernel
theorem dX6_isToken_18 : decode cX6_isToken 18 = .ok (.iconst 0, 1) := by decide +kernel
theorem dX6_isToken_19 : decode cX6_isToken 19 = .ok (.istore_n 2, 1) := by decide +kernel
theorem dX6_isToken_20 : decode cX6_isToken 20 = .ok (.iload_n 2, 1) := by decide +kernel
theorem dX6_isToken_21 : decode cX6_isToken 21 = .ok (.aload_n 1, 1) := by decide +kernel
theorem dX6_isToken_22 : decode cX6_isToken 22 = .ok (.invokevirtual 207, 3) := by decide +kernel
theorem dX6_isToken_25 : decode cX6_isToken 25 = .ok (.if_icmp .ge 29, 3) := by decide +kernel
theorem dX6_isToken_28 : decode cX6_isToken 28 = .ok (.aload_n 0, 1) := by decide +kernel
theorem dX6_isToken_29 : decode cX6_isToken 29 = .ok (.aload_n 0, 1) := by decide +kernel
theorem dX6_isToken_30 : decode cX6_isToken 30 = .ok (.getfield 77, 3) := by decide +kernel
theorem dX6_isToken_33 : decode cX6_isToken 33 = .ok (.iload_n 2, 1) := by decide +kernel
theorem dX6_isToken_34 : decode cX6_isToken 34 = .ok (.iadd, 1) := by decide +kernel
theorem dX6_isToken_35 : decode cX6_isToken 35 = .ok (.invokevirtual 181, 3) := by decide +kernel
theorem dX6_isToken_38 : decode cX6_isToken 38 = .ok (.aload_n 1, 1) := by decide +kernel
theorem dX6_isToken_39 : decode cX6_isToken 39 = .ok (.iload_n 2, 1) := by decide +kernel
theorem dX6_isToken_40 : decode cX6_isToken 40 = .ok (.invokevirtual 212, 3) := by decide +kernel
theorem dX6_isToken_43 : decode cX6_isToken 43 = .ok (.if_icmp .eq 5, 3) := by decide +kernel
theorem dX6_isToken_46 : decode cX6_isToken 46 = .ok (.iconst 0, 1) := by decide +kernel
theorem dX6_isToken_47 : decode cX6_isToken 47 = .ok (.ireturn, 1) := by decide +kernel
theorem dX6_isToken_48 : decode cX6_isToken 48 = .ok (.iinc 2 1, 3) := by decide +kernel
theorem dX6_isToken_51 : decode cX6_isToken 51 = .ok (.goto (-31), 3) := by decide +kernel
theorem dX6_isToken_54 : decode cX6_isToken 54 = .ok (.iconst 1, 1) := by decide +kernel
theorem dX6_isToken_55 : decode cX6_isToken 55 = .ok (.ireturn, 1) := by decide +kernel
theorem dX6_nameOf_0 : decode cX6_nameOf 0 = .ok (.iload_n 0, 1) := by decide +kernel
theorem dX6_nameOf_1 : decode cX6_nameOf 1 = .ok (.tableswitch 120 0 14 #[75, 78, 81, 84, 87, 90, 93, 96, 99, 102, 105, 108, 111, 114, 117], 75) := by decide +kernel
theorem dX6_nameOf_76 : decode cX6_nameOf 76 = .ok (.ldc 216, 2) := by decide +kernel
theorem dX6_nameOf_78 : decode cX6_nameOf 78 = .ok (.areturn, 1) := by decide +kernel
theorem dX6_nameOf_79 : decode cX6_nameOf 79 = .ok (.ldc 218, 2) := by decide +kernel
theorem dX6_nameOf_81 : decode cX6_nameOf 81 = .ok (.areturn, 1) := by decide +kernel
theorem dX6_nameOf_82 : decode cX6_nameOf 82 = .ok (.ldc 220, 2) := by decide +kernel
theorem dX6_nameOf_84 : decode cX6_nameOf 84 = .ok (.areturn, 1) := by decide +kernel
theorem dX6_nameOf_85 : decode cX6_nameOf 85 = .ok (.ldc 221, 2) := by decide +kernel
theorem dX6_nameOf_87 : decode cX6_nameOf 87 = .ok (.areturn, 1) := by decide +kernel
theorem dX6_nameOf_88 : decode cX6_nameOf 88 = .ok (.ldc 222, 2) := by decide +kernel
theorem dX6_nameOf_90 : decode cX6_nameOf 90 = .ok (.areturn, 1) := by decide +kernel
theorem dX6_nameOf_91 : decode cX6_nameOf 91 = .ok (.ldc 224, 2) := by decide +kernel
theorem dX6_nameOf_93 : decode cX6_nameOf 93 = .ok (.areturn, 1) := by decide +kernel
theorem dX6_nameOf_94 : decode cX6_nameOf 94 = .ok (.ldc 226, 2) := by decide +kernel
theorem dX6_nameOf_96 : decode cX6_nameOf 96 = .ok (.areturn, 1) := by decide +kernel
theorem dX6_nameOf_97 : decode cX6_nameOf 97 = .ok (.ldc 227, 2) := by decide +kernel
theorem dX6_nameOf_99 : decode cX6_nameOf 99 = .ok (.areturn, 1) := by decide +kernel
theorem dX6_nameOf_100 : decode cX6_nameOf 100 = .ok (.ldc 229, 2) := by decide +kernel
theorem dX6_nameOf_102 : decode cX6_nameOf 102 = .ok (.areturn, 1) := by decide +kernel
theorem dX6_nameOf_103 : decode cX6_nameOf 103 = .ok (.ldc 231, 2) := by decide +kernel
theorem dX6_nameOf_105 : decode cX6_nameOf 105 = .ok (.areturn, 1) := by decide +kernel
theorem dX6_nameOf_106 : decode cX6_nameOf 106 = .ok (.ldc 233, 2) := by decide +kernel
theorem dX6_nameOf_108 : decode cX6_nameOf 108 = .ok (.areturn, 1) := by decide +kernel
theorem dX6_nameOf_109 : decode cX6_nameOf 109 = .ok (.ldc 235, 2) := by decide +kernel
theorem dX6_nameOf_111 : decode cX6_nameOf 111 = .ok (.areturn, 1) := by decide +kernel
theorem dX6_nameOf_112 : decode cX6_nameOf 112 = .ok (.ldc 237, 2) := by decide +kernel
theorem dX6_nameOf_114 : decode cX6_nameOf 114 = .ok (.areturn, 1) := by decide +kernel
theorem dX6_nameOf_115 : decode cX6_nameOf 115 = .ok (.ldc 239, 2) := by decide +kernel
theorem dX6_nameOf_117 : decode cX6_nameOf 117 = .ok (.areturn, 1) := by decide +kernel
theorem dX6_nameOf_118 : decode cX6_nameOf 118 = .ok (.ldc 240, 2) := by decide +kernel
theorem dX6_nameOf_120 : decode cX6_nameOf 120 = .ok (.areturn, 1) := by decide +kernel
theorem dX6_nameOf_121 : decode cX6_nameOf 121 = .ok (.ldc 242, 2) := by decide +kernel
theorem dX6_nameOf_123 : decode cX6_nameOf 123 = .ok (.areturn, 1) := by decide +kernel
theorem dX9_init_0 : decode cX9_init 0 = .ok (.aload_n 0, 1) := by decide +kernel
theorem dX9_init_1 : decode cX9_init 1 = .ok (.invokespecial 3, 3) := by decide +kernel
theorem dX9_init_4 : decode cX9_init 4 = .ok (.aload_n 0, 1) := by decide +kernel
theorem dX9_init_5 : decode cX9_init 5 = .ok (.sipush 600, 3) := by decide +kernel
theorem dX9_init_8 : decode cX9_init 8 = .ok (.newarray .byte, 2) := by decide +kernel
theorem dX9_init_10 : decode cX9_init 10 = .ok (.putfield 9, 3) := by decide +kernel
theorem dX9_init_13 : decode cX9_init 13 = .ok (.aload_n 0, 1) := by decide +kernel
theorem dX9_init_14 : decode cX9_init 14 = .ok (.iconst (-1), 1) := by decide +kernel
theorem dX9_init_15 : decode cX9_init 15 = .ok (.putfield 15, 3) := by decide +kernel
theorem dX9_init_18 : decode cX9_init 18 = .ok (.aload_n 0, 1) := by decide +kernel
theorem dX9_init_19 : decode cX9_init 19 = .ok (.iconst 3, 1) := by decide +kernel
theorem dX9_init_20 : decode cX9_init 20 = .ok (.newarray .int, 2) := by decide +kernel
theorem dX9_init_22 : decode cX9_init 22 = .ok (.putfield 19, 3) := by decide +kernel
theorem dX9_init_25 : decode cX9_init 25 = .ok (.aload_n 0, 1) := by decide +kernel
theorem dX9_init_26 : decode cX9_init 26 = .ok (.iconst 2, 1) := by decide +kernel
theorem dX9_init_27 : decode cX9_init 27 = .ok (.anewarray 23, 3) := by decide +kernel
theorem dX9_init_30 : decode cX9_init 30 = .ok (.putfield 25, 3) := by decide +kernel
theorem dX9_init_33 : decode cX9_init 33 = .ok (.aload_n 0, 1) := by decide +kernel
theorem dX9_init_34 : decode cX9_init 34 = .ok (.iconst 2, 1) := by decide +kernel
theorem dX9_init_35 : decode cX9_init 35 = .ok (.anewarray 29, 3) := by decide +kernel
theorem dX9_init_38 : decode cX9_init 38 = .ok (.putfield 31, 3) := by decide +kernel
theorem dX9_init_41 : decode cX9_init 41 = .ok (.aload_n 0, 1) := by decide +kernel
theorem dX9_init_42 : decode cX9_init 42 = .ok (.iconst 2, 1) := by decide +kernel
theorem dX9_init_43 : decode cX9_init 43 = .ok (.anewarray 35, 3) := by decide +kernel
theorem dX9_init_46 : decode cX9_init 46 = .ok (.putfield 37, 3) := by decide +kernel
theorem dX9_init_49 : decode cX9_init 49 = .ok (.iconst 0, 1) := by decide +kernel
theorem dX9_init_50 : decode cX9_init 50 = .ok (.istore_n 1, 1) := by decide +kernel
theorem dX9_init_51 : decode cX9_init 51 = .ok (.iload_n 1, 1) := by decide +kernel
theorem dX9_init_52 : decode cX9_init 52 = .ok (.iconst 2, 1) := by decide +kernel
theorem dX9_init_53 : decode cX9_init 53 = .ok (.if_icmp .ge 48, 3) := by decide +kernel
theorem dX9_init_56 : decode cX9_init 56 = .ok (.aload_n 0, 1) := by decide +kernel
theorem dX9_init_57 : decode cX9_init 57 = .ok (.getfield 25, 3) := by decide +kernel
theorem dX9_init_60 : decode cX9_init 60 = .ok (.iload_n 1, 1) := by decide +kernel
theorem dX9_init_61 : decode cX9_init 61 = .ok (.new 23, 3) := by decide +kernel
theorem dX9_init_64 : decode cX9_init 64 = .ok (.dup, 1) := by decide +kernel
theorem dX9_init_65 : decode cX9_init 65 = .ok (.invokespecial 41, 3) := by decide +kernel
theorem dX9_init_68 : decode cX9_init 68 = .ok (.aastore, 1) := by decide +kernel
theorem dX9_init_69 : decode cX9_init 69 = .ok (.aload_n 0, 1) := by decide +kernel
theorem dX9_init_70 : decode cX9_init 70 = .ok (.getfield 31, 3) := by decide +kernel
theorem dX9_init_73 : decode cX9_init 73 = .ok (.iload_n 1, 1) := by decide +kernel
theorem dX9_init_74 : decode cX9_init 74 = .ok (.new 29, 3) := by decide +kernel
theorem dX9_init_77 : decode cX9_init 77 = .ok (.dup, 1) := by decide +kernel
theorem dX9_init_78 : decode cX9_init 78 = .ok (.invokespecial 42, 3) := by decide +kernel
theorem dX9_init_81 : decode cX9_init 81 = .ok (.aastore, 1) := by decide +kernel
theorem dX9_init_82 : decode cX9_init 82 = .ok (.aload_n 0, 1) := by decide +kernel
theorem dX9_init_83 : decode cX9_init 83 = .ok (.getfield 37, 3) := by decide +kernel
theorem dX9_init_86 : decode cX9_init 86 = .ok (.iload_n 1, 1) := by decide +kernel
theorem dX9_init_87 : decode cX9_init 87 = .ok (.new 35, 3) := by decide +kernel
theorem dX9_init_90 : decode cX9_init 90 = .ok (.dup, 1) := by decide +kernel
theorem dX9_init_91 : decode cX9_init 91 = .ok (.invokespecial 43, 3) := by decide +kernel
theorem dX9_init_94 : decode cX9_init 94 = .ok (.aastore, 1) := by decide +kernel
theorem dX9_init_95 : decode cX9_init 95 = .ok (.iinc 1 1, 3) := by decide +kernel
theorem dX9_init_98 : decode cX9_init 98 = .ok (.goto (-47), 3) := by decide +kernel
theorem dX9_init_101 : decode cX9_init 101 = .ok (.return_, 1) := by decide +kernel
theorem dX9_copyFrom_0 : decode cX9_copyFrom 0 = .ok (.aload_n 1, 1) := by decide +kernel
theorem dX9_copyFrom_1 : decode cX9_copyFrom 1 = .ok (.getfield 9, 3) := by decide +kernel
theorem dX9_copyFrom_4 : decode cX9_copyFrom 4 = .ok (.iconst 0, 1) := by decide +kernel
theorem dX9_copyFrom_5 : decode cX9_copyFrom 5 = .ok (.aload_n 0, 1) := by decide +kernel
theorem dX9_copyFrom_6 : decode cX9_copyFrom 6 = .ok (.getfield 9, 3) := by decide +kernel
theorem dX9_copyFrom_9 : decode cX9_copyFrom 9 = .ok (.iconst 0, 1) := by decide +kernel
theorem dX9_copyFrom_10 : decode cX9_copyFrom 10 = .ok (.sipush 600, 3) := by decide +kernel
theorem dX9_copyFrom_13 : decode cX9_copyFrom 13 = .ok (.invokestatic 44, 3) := by decide +kernel
theorem dX9_copyFrom_16 : decode cX9_copyFrom 16 = .ok (.aload_n 0, 1) := by decide +kernel
theorem dX9_copyFrom_17 : decode cX9_copyFrom 17 = .ok (.aload_n 1, 1) := by decide +kernel
theorem dX9_copyFrom_18 : decode cX9_copyFrom 18 = .ok (.getfield 50, 3) := by decide +kernel
theorem dX9_copyFrom_21 : decode cX9_copyFrom 21 = .ok (.putfield 50, 3) := by decide +kernel
theorem dX9_copyFrom_24 : decode cX9_copyFrom 24 = .ok (.aload_n 0, 1) := by decide +kernel
theorem dX9_copyFrom_25 : decode cX9_copyFrom 25 = .ok (.aload_n 1, 1) := by decide +kernel
theorem dX9_copyFrom_26 : decode cX9_copyFrom 26 = .ok (.getfield 53, 3) := by decide +kernel
theorem dX9_copyFrom_29 : decode cX9_copyFrom 29 = .ok (.putfield 53, 3) := by decide +kernel
theorem dX9_copyFrom_32 : decode cX9_copyFrom 32 = .ok (.aload_n 0, 1) := by decide +kernel
theorem dX9_copyFrom_33 : decode cX9_copyFrom 33 = .ok (.aload_n 1, 1) := by decide +kernel
theorem dX9_copyFrom_34 : decode cX9_copyFrom 34 = .ok (.getfield 15, 3) := by decide +kernel
theorem dX9_copyFrom_37 : decode cX9_copyFrom 37 = .ok (.putfield 15, 3) := by decide +kernel
theorem dX9_copyFrom_40 : decode cX9_copyFrom 40 = .ok (.aload_n 1, 1) := by decide +kernel
theorem dX9_copyFrom_41 : decode cX9_copyFrom 41 = .ok (.getfield 19, 3) := by decide +kernel
theorem dX9_copyFrom_44 : decode cX9_copyFrom 44 = .ok (.iconst 0, 1) := by decide +kernel
theorem dX9_copyFrom_45 : decode cX9_copyFrom 45 = .ok (.aload_n 0, 1) := by decide +kernel
theorem dX9_copyFrom_46 : decode cX9_copyFrom 46 = .ok (.getfield 19, 3) := by decide +kernel
theorem dX9_copyFrom_49 : decode cX9_copyFrom 49 = .ok (.iconst 0, 1) := by decide +kernel
theorem dX9_copyFrom_50 : decode cX9_copyFrom 50 = .ok (.iconst 3, 1) := by decide +kernel
theorem dX9_copyFrom_51 : decode cX9_copyFrom 51 = .ok (.invokestatic 44, 3) := by decide +kernel
theorem dX9_copyFrom_54 : decode cX9_copyFrom 54 = .ok (.iconst 0, 1) := by decide +kernel
theorem dX9_copyFrom_55 : decode cX9_copyFrom 55 = .ok (.istore_n 2, 1) := by decide +kernel
theorem dX9_copyFrom_56 : decode cX9_copyFrom 56 = .ok (.iload_n 2, 1) := by decide +kernel
theorem dX9_copyFrom_57 : decode cX9_copyFrom 57 = .ok (.iconst 2, 1) := by decide +kernel
theorem dX9_copyFrom_58 : decode cX9_copyFrom 58 = .ok (.if_icmp .ge 54, 3) := by decide +kernel
theorem dX9_copyFrom_61 : decode cX9_copyFrom 61 = .ok (.aload_n 0, 1) := by decide +kernel
theorem dX9_copyFrom_62 : decode cX9_copyFrom 62 = .ok (.getfield 25, 3) := by decide +kernel
theorem dX9_copyFrom_65 : decode cX9_copyFrom 65 = .ok (.iload_n 2, 1) := by decide +kernel
theorem dX9_copyFrom_66 : decode cX9_copyFrom 66 = .ok (.aaload, 1) := by decide +kernel
theorem dX9_copyFrom_67 : decode cX9_copyFrom 67 = .ok (.aload_n 1, 1) := by decide +kernel
theorem dX9_copyFrom_68 : decode cX9_copyFrom 68 = .ok (.getfield 25, 3) := by decide +kernel
theorem dX9_copyFrom_71 : decode cX9_copyFrom 71 = .ok (.iload_n 2, 1) := by decide +kernel
theorem dX9_copyFrom_72 : decode cX9_copyFrom 72 = .ok (.aaload, 1) := by decide +kernel
theorem dX9_copyFrom_73 : decode cX9_copyFrom 73 = .ok (.invokevirtual 56, 3) := by decide +kernel
theorem dX9_copyFrom_76 : decode cX9_copyFrom 76 = .ok (.aload_n 0, 1) := by decide +kernel
theorem dX9_copyFrom_77 : decode cX9_copyFrom 77 = .ok (.getfield 31, 3) := by decide +kernel
theorem dX9_copyFrom_80 : decode cX9_copyFrom 80 = .ok (.iload_n 2, 1) := by decide +kernel
theorem dX9_copyFrom_81 : decode cX9_copyFrom 81 = .ok (.aaload, 1) := by decide +kernel
theorem dX9_copyFrom_82 : decode cX9_copyFrom 82 = .ok (.aload_n 1, 1) := by decide +kernel
theorem dX9_copyFrom_83 : decode cX9_copyFrom 83 = .ok (.getfield 31, 3) := by decide +kernel
theorem dX9_copyFrom_86 : decode cX9_copyFrom 86 = .ok (.iload_n 2, 1) := by decide +kernel
theorem dX9_copyFrom_87 : decode cX9_copyFrom 87 = .ok (.aaload, 1) := by decide +kernel
theorem dX9_copyFrom_88 : decode cX9_copyFrom 88 = .ok (.invokevirtual 60, 3) := by decide +kernel
theorem dX9_copyFrom_91 : decode cX9_copyFrom 91 = .ok (.aload_n 0, 1) := by decide +kernel
theorem dX9_copyFrom_92 : decode cX9_copyFrom 92 = .ok (.getfield 37, 3) := by decide +kernel
theorem dX9_copyFrom_95 : decode cX9_copyFrom 95 = .ok (.iload_n 2, 1) := by decide +kernel
theorem dX9_copyFrom_96 : decode cX9_copyFrom 96 = .ok (.aaload, 1) := by decide +kernel
theorem dX9_copyFrom_97 : decode cX9_copyFrom 97 = .ok (.aload_n 1, 1) := by decide +kernel
theorem dX9_copyFrom_98 : decode cX9_copyFrom 98 = .ok (.getfield 37, 3) := by decide +kernel
theorem dX9_copyFrom_101 : decode cX9_copyFrom 101 = .ok (.iload_n 2, 1) := by decide +kernel
theorem dX9_copyFrom_102 : decode cX9_copyFrom 102 = .ok (.aaload, 1) := by decide +kernel
theorem dX9_copyFrom_103 : decode cX9_copyFrom 103 = .ok (.invokevirtual 63, 3) := by decide +kernel
theorem dX9_copyFrom_106 : decode cX9_copyFrom 106 = .ok (.iinc 2 1, 3) := by decide +kernel
theorem dX9_copyFrom_109 : decode cX9_copyFrom 109 = .ok (.goto (-53), 3) := by decide +kernel
theorem dX9_copyFrom_112 : decode cX9_copyFrom 112 = .ok (.return_, 1) := by decide +kernel
theorem dX9_put_0 : decode cX9_put 0 = .ok (.bipush 24, 2) := by decide +kernel
theorem dX9_put_2 : decode cX9_put 2 = .ok (.istore_n 2, 1) := by decide +kernel
theorem dX9_put_3 : decode cX9_put 3 = .ok (.iload_n 2, 1) := by decide +kernel
theorem dX9_put_4 : decode cX9_put 4 = .ok (.ifCond .lt 49, 3) := by decide +kernel
theorem dX9_put_7 : decode cX9_put 7 = .ok (.aload_n 0, 1) := by decide +kernel
theorem dX9_put_8 : decode cX9_put 8 = .ok (.getfield 50, 3) := by decide +kernel
theorem dX9_put_11 : decode cX9_put 11 = .ok (.ifCond .lt 36, 3) := by decide +kernel
theorem dX9_put_14 : decode cX9_put 14 = .ok (.aload_n 0, 1) := by decide +kernel
theorem dX9_put_15 : decode cX9_put 15 = .ok (.getfield 50, 3) := by decide +kernel
theorem dX9_put_18 : decode cX9_put 18 = .ok (.sipush 600, 3) := by decide +kernel
theorem dX9_put_21 : decode cX9_put 21 = .ok (.if_icmp .ge 26, 3) := by decide +kernel
theorem dX9_put_24 : decode cX9_put 24 = .ok (.aload_n 0, 1) := by decide +kernel
theorem dX9_put_25 : decode cX9_put 25 = .ok (.getfield 9, 3) := by decide +kernel
theorem dX9_put_28 : decode cX9_put 28 = .ok (.aload_n 0, 1) := by decide +kernel
theorem dX9_put_29 : decode cX9_put 29 = .ok (.getfield 50, 3) := by decide +kernel
theorem dX9_put_32 : decode cX9_put 32 = .ok (.iload_n 1, 1) := by decide +kernel
theorem dX9_put_33 : decode cX9_put 33 = .ok (.iload_n 2, 1) := by decide +kernel
theorem dX9_put_34 : decode cX9_put 34 = .ok (.ishr, 1) := by decide +kernel
theorem dX9_put_35 : decode cX9_put 35 = .ok (.i2b, 1) := by decide +kernel
theorem dX9_put_36 : decode cX9_put 36 = .ok (.bastore, 1) := by decide +kernel
theorem dX9_put_37 : decode cX9_put 37 = .ok (.aload_n 0, 1) := by decide +kernel
theorem dX9_put_38 : decode cX9_put 38 = .ok (.dup, 1) := by decide +kernel
theorem dX9_put_39 : decode cX9_put 39 = .ok (.getfield 50, 3) := by decide +kernel
theorem dX9_put_42 : decode cX9_put 42 = .ok (.iconst 1, 1) := by decide +kernel
theorem dX9_put_43 : decode cX9_put 43 = .ok (.iadd, 1) := by decide +kernel
theorem dX9_put_44 : decode cX9_put 44 = .ok (.putfield 50, 3) := by decide +kernel
theorem dX9_put_47 : decode cX9_put 47 = .ok (.iinc 2 (-8), 3) := by decide +kernel
theorem dX9_put_50 : decode cX9_put 50 = .ok (.goto (-47), 3) := by decide +kernel
theorem dX9_put_53 : decode cX9_put 53 = .ok (.return_, 1) := by decide +kernel
theorem dX9_has_0 : decode cX9_has 0 = .ok (.iload_n 2, 1) := by decide +kernel
theorem dX9_has_1 : decode cX9_has 1 = .ok (.ifCond .lt 24, 3) := by decide +kernel
theorem dX9_has_4 : decode cX9_has 4 = .ok (.iload_n 2, 1) := by decide +kernel
theorem dX9_has_5 : decode cX9_has 5 = .ok (.iconst 2, 1) := by decide +kernel
theorem dX9_has_6 : decode cX9_has 6 = .ok (.if_icmp .ge 19, 3) := by decide +kernel
theorem dX9_has_9 : decode cX9_has 9 = .ok (.iload_n 2, 1) := by decide +kernel
theorem dX9_has_10 : decode cX9_has 10 = .ok (.aload_n 0, 1) := by decide +kernel
theorem dX9_has_11 : decode cX9_has 11 = .ok (.getfield 19, 3) := by decide +kernel
theorem dX9_has_14 : decode cX9_has 14 = .ok (.iload_n 1, 1) := by decide +kernel
theorem dX9_has_15 : decode cX9_has 15 = .ok (.invokestatic 66, 3) := by decide +kernel
theorem dX9_has_18 : decode cX9_has 18 = .ok (.if_icmp .ge 7, 3) := by decide +kernel
theorem dX9_has_21 : decode cX9_has 21 = .ok (.iconst 1, 1) := by decide +kernel
theorem dX9_has_22 : decode cX9_has 22 = .ok (.goto 4, 3) := by decide +kernel
theorem dX9_has_25 : decode cX9_has 25 = .ok (.iconst 0, 1) := by decide +kernel
theorem dX9_has_26 : decode cX9_has 26 = .ok (.ireturn, 1) := by decide +kernel
theorem dX9_numberFor_0 : decode cX9_numberFor 0 = .ok (.iload_n 1, 1) := by decide +kernel
theorem dX9_numberFor_1 : decode cX9_numberFor 1 = .ok (.ifCond .lt 8, 3) := by decide +kernel
theorem dX9_numberFor_4 : decode cX9_numberFor 4 = .ok (.iload_n 1, 1) := by decide +kernel
theorem dX9_numberFor_5 : decode cX9_numberFor 5 = .ok (.iconst 3, 1) := by decide +kernel
theorem dX9_numberFor_6 : decode cX9_numberFor 6 = .ok (.if_icmp .lt 5, 3) := by decide +kernel
theorem dX9_numberFor_9 : decode cX9_numberFor 9 = .ok (.iconst (-1), 1) := by decide +kernel
theorem dX9_numberFor_10 : decode cX9_numberFor 10 = .ok (.ireturn, 1) := by decide +kernel
theorem dX9_numberFor_11 : decode cX9_numberFor 11 = .ok (.iload_n 2, 1) := by decide +kernel
theorem dX9_numberFor_12 : decode cX9_numberFor 12 = .ok (.iconst (-1), 1) := by decide +kernel
theorem dX9_numberFor_13 : decode cX9_numberFor 13 = .ok (.if_icmp .ne 24, 3) := by decide +kernel
theorem dX9_numberFor_16 : decode cX9_numberFor 16 = .ok (.aload_n 0, 1) := by decide +kernel
theorem dX9_numberFor_17 : decode cX9_numberFor 17 = .ok (.getfield 19, 3) := by decide +kernel
theorem dX9_numberFor_20 : decode cX9_numberFor 20 = .ok (.iload_n 1, 1) := by decide +kernel
theorem dX9_numberFor_21 : decode cX9_numberFor 21 = .ok (.iaload, 1) := by decide +kernel
theorem dX9_numberFor_22 : decode cX9_numberFor 22 = .ok (.iconst 2, 1) := by decide +kernel
theorem dX9_numberFor_23 : decode cX9_numberFor 23 = .ok (.if_icmp .ge 12, 3) := by decide +kernel
theorem dX9_numberFor_26 : decode cX9_numberFor 26 = .ok (.aload_n 0, 1) := by decide +kernel
theorem dX9_numberFor_27 : decode cX9_numberFor 27 = .ok (.getfield 19, 3) := by decide +kernel
theorem dX9_numberFor_30 : decode cX9_numberFor 30 = .ok (.iload_n 1, 1) := by decide +kernel
theorem dX9_numberFor_31 : decode cX9_numberFor 31 = .ok (.iaload, 1) := by decide +kernel
theorem dX9_numberFor_32 : decode cX9_numberFor 32 = .ok (.goto 4, 3) := by decide +kernel
theorem dX9_numberFor_35 : decode cX9_numberFor 35 = .ok (.iconst (-1), 1) := by decide +kernel
theorem dX9_numberFor_36 : decode cX9_numberFor 36 = .ok (.ireturn, 1) := by decide +kernel
theorem dX9_numberFor_37 : decode cX9_numberFor 37 = .ok (.aload_n 0, 1) := by decide +kernel
theorem dX9_numberFor_38 : decode cX9_numberFor 38 = .ok (.iload_n 1, 1) := by decide +kernel
theorem dX9_numberFor_39 : decode cX9_numberFor 39 = .ok (.iload_n 2, 1) := by decide +kernel
theorem dX9_numberFor_40 : decode cX9_numberFor 40 = .ok (.invokevirtual 72, 3) := by decide +kernel
theorem dX9_numberFor_43 : decode cX9_numberFor 43 = .ok (.ifCond .eq 7, 3) := by decide +kernel
theorem dX9_numberFor_46 : decode cX9_numberFor 46 = .ok (.iload_n 2, 1) := by decide +kernel
theorem dX9_numberFor_47 : decode cX9_numberFor 47 = .ok (.goto 4, 3) := by decide +kernel
theorem dX9_numberFor_50 : decode cX9_numberFor 50 = .ok (.iconst (-1), 1) := by decide +kernel
theorem dX9_numberFor_51 : decode cX9_numberFor 51 = .ok (.ireturn, 1) := by decide +kernel
theorem dX9_take_0 : decode cX9_take 0 = .ok (.iload_n 1, 1) := by decide +kernel
theorem dX9_take_1 : decode cX9_take 1 = .ok (.ifCond .lt 17, 3) := by decide +kernel
theorem dX9_take_4 : decode cX9_take 4 = .ok (.iload_n 1, 1) := by decide +kernel
theorem dX9_take_5 : decode cX9_take 5 = .ok (.iconst 3, 1) := by decide +kernel
theorem dX9_take_6 : decode cX9_take 6 = .ok (.if_icmp .ge 12, 3) := by decide +kernel
theorem dX9_take_9 : decode cX9_take 9 = .ok (.iload_n 2, 1) := by decide +kernel
theorem dX9_take_10 : decode cX9_take 10 = .ok (.ifCond .lt 8, 3) := by decide +kernel
theorem dX9_take_13 : decode cX9_take 13 = .ok (.iload_n 2, 1) := by decide +kernel
theorem dX9_take_14 : decode cX9_take 14 = .ok (.iconst 2, 1) := by decide +kernel
theorem dX9_take_15 : decode cX9_take 15 = .ok (.if_icmp .lt 4, 3) := by decide +kernel
theorem dX9_take_18 : decode cX9_take 18 = .ok (.return_, 1) := by decide +kernel
theorem dX9_take_19 : decode cX9_take 19 = .ok (.iload_n 1, 1) := by decide +kernel
theorem dX9_take_20 : decode cX9_take 20 = .ok (.ifCond .ne 19, 3) := by decide +kernel
theorem dX9_take_23 : decode cX9_take 23 = .ok (.aload_n 0, 1) := by decide +kernel
theorem dX9_take_24 : decode cX9_take 24 = .ok (.getfield 25, 3) := by decide +kernel
theorem dX9_take_27 : decode cX9_take 27 = .ok (.iload_n 2, 1) := by decide +kernel
theorem dX9_take_28 : decode cX9_take 28 = .ok (.aaload, 1) := by decide +kernel
theorem dX9_take_29 : decode cX9_take 29 = .ok (.aload_n 3, 1) := by decide +kernel
theorem dX9_take_30 : decode cX9_take 30 = .ok (.getfield 76, 3) := by decide +kernel
theorem dX9_take_33 : decode cX9_take 33 = .ok (.invokevirtual 56, 3) := by decide +kernel
theorem dX9_take_36 : decode cX9_take 36 = .ok (.goto 37, 3) := by decide +kernel
theorem dX9_take_39 : decode cX9_take 39 = .ok (.iload_n 1, 1) := by decide +kernel
theorem dX9_take_40 : decode cX9_take 40 = .ok (.iconst 1, 1) := by decide +kernel
theorem dX9_take_41 : decode cX9_take 41 = .ok (.if_icmp .ne 19, 3) := by decide +kernel
theorem dX9_take_44 : decode cX9_take 44 = .ok (.aload_n 0, 1) := by decide +kernel
theorem dX9_take_45 : decode cX9_take 45 = .ok (.getfield 31, 3) := by decide +kernel
theorem dX9_take_48 : decode cX9_take 48 = .ok (.iload_n 2, 1) := by decide +kernel
theorem dX9_take_49 : decode cX9_take 49 = .ok (.aaload, 1) := by decide +kernel
theorem dX9_take_50 : decode cX9_take 50 = .ok (.aload_n 3, 1) := by decide +kernel
theorem dX9_take_51 : decode cX9_take 51 = .ok (.getfield 82, 3) := by decide +kernel
theorem dX9_take_54 : decode cX9_take 54 = .ok (.invokevirtual 60, 3) := by decide +kernel
theorem dX9_take_57 : decode cX9_take 57 = .ok (.goto 16, 3) := by decide +kernel
theorem dX9_take_60 : decode cX9_take 60 = .ok (.aload_n 0, 1) := by decide +kernel
theorem dX9_take_61 : decode cX9_take 61 = .ok (.getfield 37, 3) := by decide +kernel
theorem dX9_take_64 : decode cX9_take 64 = .ok (.iload_n 2, 1) := by decide +kernel
theorem dX9_take_65 : decode cX9_take 65 = .ok (.aaload, 1) := by decide +kernel
theorem dX9_take_66 : decode cX9_take 66 = .ok (.aload_n 3, 1) := by decide +kernel
theorem dX9_take_67 : decode cX9_take 67 = .ok (.getfield 86, 3) := by decide +kernel
theorem dX9_take_70 : decode cX9_take 70 = .ok (.invokevirtual 63, 3) := by decide +kernel
theorem dX9_take_73 : decode cX9_take 73 = .ok (.aload_n 0, 1) := by decide +kernel
theorem dX9_take_74 : decode cX9_take 74 = .ok (.getfield 19, 3) := by decide +kernel
theorem dX9_take_77 : decode cX9_take 77 = .ok (.iload_n 1, 1) := by decide +kernel
theorem dX9_take_78 : decode cX9_take 78 = .ok (.aload_n 0, 1) := by decide +kernel
theorem dX9_take_79 : decode cX9_take 79 = .ok (.getfield 19, 3) := by decide +kernel
theorem dX9_take_82 : decode cX9_take 82 = .ok (.iload_n 1, 1) := by decide +kernel
theorem dX9_take_83 : decode cX9_take 83 = .ok (.iaload, 1) := by decide +kernel
theorem dX9_take_84 : decode cX9_take 84 = .ok (.iload_n 2, 1) := by decide +kernel
theorem dX9_take_85 : decode cX9_take 85 = .ok (.iconst 1, 1) := by decide +kernel
theorem dX9_take_86 : decode cX9_take 86 = .ok (.iadd, 1) := by decide +kernel
theorem dX9_take_87 : decode cX9_take 87 = .ok (.invokestatic 90, 3) := by decide +kernel
theorem dX9_take_90 : decode cX9_take 90 = .ok (.iastore, 1) := by decide +kernel
theorem dX9_take_91 : decode cX9_take 91 = .ok (.return_, 1) := by decide +kernel
