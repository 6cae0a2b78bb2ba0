theorem dX12_init_0 : decode cX12_init 0 = .ok (.aload_n 0, 1) := by decide +kernel
theorem dX12_init_1 : decode cX12_init 1 = .ok (.invokespecial 1, 3) := by decide +kernel
theorem dX12_init_4 : decode cX12_init 4 = .ok (.aload_n 0, 1) := by decide +kernel
theorem dX12_init_5 : decode cX12_init 5 = .ok (.sipush 2400, 3) := by decide +kernel
theorem dX12_init_8 : decode cX12_init 8 = .ok (.newarray .byte, 2) := by decide +kernel
theorem dX12_init_10 : decode cX12_init 10 = .ok (.putfield 7, 3) := by decide +kernel
theorem dX12_init_13 : decode cX12_init 13 = .ok (.aload_n 0, 1) := by decide +kernel
theorem dX12_init_14 : decode cX12_init 14 = .ok (.iconst 4, 1) := by decide +kernel
theorem dX12_init_15 : decode cX12_init 15 = .ok (.newarray .int, 2) := by decide +kernel
theorem dX12_init_17 : decode cX12_init 17 = .ok (.putfield 13, 3) := by decide +kernel
theorem dX12_init_20 : decode cX12_init 20 = .ok (.aload_n 0, 1) := by decide +kernel
theorem dX12_init_21 : decode cX12_init 21 = .ok (.iconst 4, 1) := by decide +kernel
theorem dX12_init_22 : decode cX12_init 22 = .ok (.newarray .int, 2) := by decide +kernel
theorem dX12_init_24 : decode cX12_init 24 = .ok (.putfield 17, 3) := by decide +kernel
theorem dX12_init_27 : decode cX12_init 27 = .ok (.aload_n 0, 1) := by decide +kernel
theorem dX12_init_28 : decode cX12_init 28 = .ok (.iconst 4, 1) := by decide +kernel
theorem dX12_init_29 : decode cX12_init 29 = .ok (.newarray .int, 2) := by decide +kernel
theorem dX12_init_31 : decode cX12_init 31 = .ok (.putfield 20, 3) := by decide +kernel
theorem dX12_init_34 : decode cX12_init 34 = .ok (.aload_n 0, 1) := by decide +kernel
theorem dX12_init_35 : decode cX12_init 35 = .ok (.bipush 12, 2) := by decide +kernel
theorem dX12_init_37 : decode cX12_init 37 = .ok (.newarray .int, 2) := by decide +kernel
theorem dX12_init_39 : decode cX12_init 39 = .ok (.putfield 23, 3) := by decide +kernel
theorem dX12_init_42 : decode cX12_init 42 = .ok (.aload_n 0, 1) := by decide +kernel
theorem dX12_init_43 : decode cX12_init 43 = .ok (.sipush 1000, 3) := by decide +kernel
theorem dX12_init_46 : decode cX12_init 46 = .ok (.newarray .int, 2) := by decide +kernel
theorem dX12_init_48 : decode cX12_init 48 = .ok (.putfield 26, 3) := by decide +kernel
theorem dX12_init_51 : decode cX12_init 51 = .ok (.aload_n 0, 1) := by decide +kernel
theorem dX12_init_52 : decode cX12_init 52 = .ok (.sipush 1288, 3) := by decide +kernel
theorem dX12_init_55 : decode cX12_init 55 = .ok (.newarray .int, 2) := by decide +kernel
theorem dX12_init_57 : decode cX12_init 57 = .ok (.putfield 29, 3) := by decide +kernel
theorem dX12_init_60 : decode cX12_init 60 = .ok (.aload_n 0, 1) := by decide +kernel
theorem dX12_init_61 : decode cX12_init 61 = .ok (.sipush 144, 3) := by decide +kernel
theorem dX12_init_64 : decode cX12_init 64 = .ok (.newarray .int, 2) := by decide +kernel
theorem dX12_init_66 : decode cX12_init 66 = .ok (.putfield 32, 3) := by decide +kernel
theorem dX12_init_69 : decode cX12_init 69 = .ok (.aload_n 0, 1) := by decide +kernel
theorem dX12_init_70 : decode cX12_init 70 = .ok (.sipush 161, 3) := by decide +kernel
theorem dX12_init_73 : decode cX12_init 73 = .ok (.newarray .int, 2) := by decide +kernel
theorem dX12_init_75 : decode cX12_init 75 = .ok (.putfield 35, 3) := by decide +kernel
theorem dX12_init_78 : decode cX12_init 78 = .ok (.aload_n 0, 1) := by decide +kernel
theorem dX12_init_79 : decode cX12_init 79 = .ok (.iconst 4, 1) := by decide +kernel
theorem dX12_init_80 : decode cX12_init 80 = .ok (.newarray .int, 2) := by decide +kernel
theorem dX12_init_82 : decode cX12_init 82 = .ok (.putfield 38, 3) := by decide +kernel
theorem dX12_init_85 : decode cX12_init 85 = .ok (.aload_n 0, 1) := by decide +kernel
theorem dX12_init_86 : decode cX12_init 86 = .ok (.bipush 8, 2) := by decide +kernel
theorem dX12_init_88 : decode cX12_init 88 = .ok (.newarray .int, 2) := by decide +kernel
theorem dX12_init_90 : decode cX12_init 90 = .ok (.putfield 41, 3) := by decide +kernel
theorem dX12_init_93 : decode cX12_init 93 = .ok (.aload_n 0, 1) := by decide +kernel
theorem dX12_init_94 : decode cX12_init 94 = .ok (.bipush 8, 2) := by decide +kernel
theorem dX12_init_96 : decode cX12_init 96 = .ok (.newarray .int, 2) := by decide +kernel
theorem dX12_init_98 : decode cX12_init 98 = .ok (.putfield 44, 3) := by decide +kernel
theorem dX12_init_101 : decode cX12_init 101 = .ok (.aload_n 0, 1) := by decide +kernel
theorem dX12_init_102 : decode cX12_init 102 = .ok (.bipush 48, 2) := by decide +kernel
theorem dX12_init_104 : decode cX12_init 104 = .ok (.newarray .int, 2) := by decide +kernel
theorem dX12_init_106 : decode cX12_init 106 = .ok (.putfield 47, 3) := by decide +kernel
theorem dX12_init_109 : decode cX12_init 109 = .ok (.aload_n 0, 1) := by decide +kernel
theorem dX12_init_110 : decode cX12_init 110 = .ok (.bipush 8, 2) := by decide +kernel
theorem dX12_init_112 : decode cX12_init 112 = .ok (.newarray .int, 2) := by decide +kernel
theorem dX12_init_114 : decode cX12_init 114 = .ok (.putfield 50, 3) := by decide +kernel
theorem dX12_init_117 : decode cX12_init 117 = .ok (.aload_n 0, 1) := by decide +kernel
theorem dX12_init_118 : decode cX12_init 118 = .ok (.sipush 448, 3) := by decide +kernel
theorem dX12_init_121 : decode cX12_init 121 = .ok (.newarray .int, 2) := by decide +kernel
theorem dX12_init_123 : decode cX12_init 123 = .ok (.putfield 53, 3) := by decide +kernel
theorem dX12_init_126 : decode cX12_init 126 = .ok (.aload_n 0, 1) := by decide +kernel
theorem dX12_init_127 : decode cX12_init 127 = .ok (.bipush 8, 2) := by decide +kernel
theorem dX12_init_129 : decode cX12_init 129 = .ok (.newarray .int, 2) := by decide +kernel
theorem dX12_init_131 : decode cX12_init 131 = .ok (.putfield 56, 3) := by decide +kernel
theorem dX12_init_134 : decode cX12_init 134 = .ok (.aload_n 0, 1) := by decide +kernel
theorem dX12_init_135 : decode cX12_init 135 = .ok (.sipush 6561, 3) := by decide +kernel
theorem dX12_init_138 : decode cX12_init 138 = .ok (.newarray .int, 2) := by decide +kernel
theorem dX12_init_140 : decode cX12_init 140 = .ok (.putfield 59, 3) := by decide +kernel
theorem dX12_init_143 : decode cX12_init 143 = .ok (.aload_n 0, 1) := by decide +kernel
theorem dX12_init_144 : decode cX12_init 144 = .ok (.bipush 64, 2) := by decide +kernel
theorem dX12_init_146 : decode cX12_init 146 = .ok (.newarray .int, 2) := by decide +kernel
theorem dX12_init_148 : decode cX12_init 148 = .ok (.putfield 62, 3) := by decide +kernel
theorem dX12_init_151 : decode cX12_init 151 = .ok (.aload_n 0, 1) := by decide +kernel
theorem dX12_init_152 : decode cX12_init 152 = .ok (.bipush 8, 2) := by decide +kernel
theorem dX12_init_154 : decode cX12_init 154 = .ok (.newarray .int, 2) := by decide +kernel
theorem dX12_init_156 : decode cX12_init 156 = .ok (.putfield 65, 3) := by decide +kernel
theorem dX12_init_159 : decode cX12_init 159 = .ok (.aload_n 0, 1) := by decide +kernel
theorem dX12_init_160 : decode cX12_init 160 = .ok (.iconst 3, 1) := by decide +kernel
theorem dX12_init_161 : decode cX12_init 161 = .ok (.newarray .boolean, 2) := by decide +kernel
theorem dX12_init_163 : decode cX12_init 163 = .ok (.putfield 68, 3) := by decide +kernel
theorem dX12_init_166 : decode cX12_init 166 = .ok (.aload_n 0, 1) := by decide +kernel
theorem dX12_init_167 : decode cX12_init 167 = .ok (.getfield 20, 3) := by decide +kernel
theorem dX12_init_170 : decode cX12_init 170 = .ok (.iconst 0, 1) := by decide +kernel
theorem dX12_init_171 : decode cX12_init 171 = .ok (.iconst (-1), 1) := by decide +kernel
theorem dX12_init_172 : decode cX12_init 172 = .ok (.iastore, 1) := by decide +kernel
theorem dX12_init_173 : decode cX12_init 173 = .ok (.return_, 1) := by decide +kernel
theorem dX12_in_0 : decode cX12_in 0 = .ok (.iload_n 0, 1) := by decide +kernel
theorem dX12_in_1 : decode cX12_in 1 = .ok (.iload_n 1, 1) := by decide +kernel
theorem dX12_in_2 : decode cX12_in 2 = .ok (.if_icmp .lt 12, 3) := by decide +kernel
theorem dX12_in_5 : decode cX12_in 5 = .ok (.iload_n 0, 1) := by decide +kernel
theorem dX12_in_6 : decode cX12_in 6 = .ok (.iload_n 2, 1) := by decide +kernel
theorem dX12_in_7 : decode cX12_in 7 = .ok (.if_icmp .gt 7, 3) := by decide +kernel
theorem dX12_in_10 : decode cX12_in 10 = .ok (.iconst 1, 1) := by decide +kernel
theorem dX12_in_11 : decode cX12_in 11 = .ok (.goto 4, 3) := by decide +kernel
theorem dX12_in_14 : decode cX12_in 14 = .ok (.iconst 0, 1) := by decide +kernel
theorem dX12_in_15 : decode cX12_in 15 = .ok (.ireturn, 1) := by decide +kernel
theorem dX12_has_0 : decode cX12_has 0 = .ok (.iload_n 0, 1) := by decide +kernel
theorem dX12_has_1 : decode cX12_has 1 = .ok (.iload_n 1, 1) := by decide +kernel
theorem dX12_has_2 : decode cX12_has 2 = .ok (.ishr, 1) := by decide +kernel
theorem dX12_has_3 : decode cX12_has 3 = .ok (.iconst 1, 1) := by decide +kernel
theorem dX12_has_4 : decode cX12_has 4 = .ok (.iand, 1) := by decide +kernel
theorem dX12_has_5 : decode cX12_has 5 = .ok (.iconst 1, 1) := by decide +kernel
theorem dX12_has_6 : decode cX12_has 6 = .ok (.if_icmp .ne 7, 3) := by decide +kernel
theorem dX12_has_9 : decode cX12_has 9 = .ok (.iconst 1, 1) := by decide +kernel
theorem dX12_has_10 : decode cX12_has 10 = .ok (.goto 4, 3) := by decide +kernel
theorem dX12_has_13 : decode cX12_has 13 = .ok (.iconst 0, 1) := by decide +kernel
theorem dX12_has_14 : decode cX12_has 14 = .ok (.ireturn, 1) := by decide +kernel
theorem dX12_greater_0 : decode cX12_greater 0 = .ok (.iload_n 0, 1) := by decide +kernel
theorem dX12_greater_1 : decode cX12_greater 1 = .ok (.iload_n 1, 1) := by decide +kernel
theorem dX12_greater_2 : decode cX12_greater 2 = .ok (.if_icmp .le 7, 3) := by decide +kernel
theorem dX12_greater_5 : decode cX12_greater 5 = .ok (.iload_n 0, 1) := by decide +kernel
theorem dX12_greater_6 : decode cX12_greater 6 = .ok (.goto 4, 3) := by decide +kernel
theorem dX12_greater_9 : decode cX12_greater 9 = .ok (.iload_n 1, 1) := by decide +kernel
theorem dX12_greater_10 : decode cX12_greater 10 = .ok (.ireturn, 1) := by decide +kernel
theorem dX12_lesser_0 : decode cX12_lesser 0 = .ok (.iload_n 0, 1) := by decide +kernel
theorem dX12_lesser_1 : decode cX12_lesser 1 = .ok (.iload_n 1, 1) := by decide +kernel
theorem dX12_lesser_2 : decode cX12_lesser 2 = .ok (.if_icmp .ge 7, 3) := by decide +kernel
theorem dX12_lesser_5 : decode cX12_lesser 5 = .ok (.iload_n 0, 1) := by decide +kernel
theorem dX12_lesser_6 : decode cX12_lesser 6 = .ok (.goto 4, 3) := by decide +kernel
theorem dX12_lesser_9 : decode cX12_lesser 9 = .ok (.iload_n 1, 1) := by decide +kernel
theorem dX12_lesser_10 : decode cX12_lesser 10 = .ok (.ireturn, 1) := by decide +kernel
theorem dX12_ones_0 : decode cX12_ones 0 = .ok (.iconst 0, 1) := by decide +kernel
theorem dX12_ones_1 : decode cX12_ones 1 = .ok (.istore_n 1, 1) := by decide +kernel
theorem dX12_ones_2 : decode cX12_ones 2 = .ok (.iconst 0, 1) := by decide +kernel
theorem dX12_ones_3 : decode cX12_ones 3 = .ok (.istore_n 2, 1) := by decide +kernel
theorem dX12_ones_4 : decode cX12_ones 4 = .ok (.iload_n 2, 1) := by decide +kernel
theorem dX12_ones_5 : decode cX12_ones 5 = .ok (.bipush 8, 2) := by decide +kernel
theorem dX12_ones_7 : decode cX12_ones 7 = .ok (.if_icmp .ge 25, 3) := by decide +kernel
theorem dX12_ones_10 : decode cX12_ones 10 = .ok (.iload_n 1, 1) := by decide +kernel
theorem dX12_ones_11 : decode cX12_ones 11 = .ok (.iload_n 0, 1) := by decide +kernel
theorem dX12_ones_12 : decode cX12_ones 12 = .ok (.iload_n 2, 1) := by decide +kernel
theorem dX12_ones_13 : decode cX12_ones 13 = .ok (.invokestatic 76, 3) := by decide +kernel
theorem dX12_ones_16 : decode cX12_ones 16 = .ok (.ifCond .eq 7, 3) := by decide +kernel
theorem dX12_ones_19 : decode cX12_ones 19 = .ok (.iconst 1, 1) := by decide +kernel
theorem dX12_ones_20 : decode cX12_ones 20 = .ok (.goto 4, 3) := by decide +kernel
theorem dX12_ones_23 : decode cX12_ones 23 = .ok (.iconst 0, 1) := by decide +kernel
theorem dX12_ones_24 : decode cX12_ones 24 = .ok (.iadd, 1) := by decide +kernel
theorem dX12_ones_25 : decode cX12_ones 25 = .ok (.istore_n 1, 1) := by decide +kernel
theorem dX12_ones_26 : decode cX12_ones 26 = .ok (.iinc 2 1, 3) := by decide +kernel
theorem dX12_ones_29 : decode cX12_ones 29 = .ok (.goto (-25), 3) := by decide +kernel
theorem dX12_ones_32 : decode cX12_ones 32 = .ok (.iload_n 1, 1) := by decide +kernel
theorem dX12_ones_33 : decode cX12_ones 33 = .ok (.ireturn, 1) := by decide +kernel
theorem dX12_copyRow_0 : decode cX12_copyRow 0 = .ok (.iconst 0, 1) := by decide +kernel
theorem dX12_copyRow_1 : decode cX12_copyRow 1 = .ok (.istore 4, 2) := by decide +kernel
theorem dX12_copyRow_3 : decode cX12_copyRow 3 = .ok (.iload 4, 2) := by decide +kernel
theorem dX12_copyRow_5 : decode cX12_copyRow 5 = .ok (.iload_n 1, 1) := by decide +kernel
theorem dX12_copyRow_6 : decode cX12_copyRow 6 = .ok (.if_icmp .ge 25, 3) := by decide +kernel
theorem dX12_copyRow_9 : decode cX12_copyRow 9 = .ok (.aload_n 0, 1) := by decide +kernel
theorem dX12_copyRow_10 : decode cX12_copyRow 10 = .ok (.iload_n 1, 1) := by decide +kernel
theorem dX12_copyRow_11 : decode cX12_copyRow 11 = .ok (.iload_n 3, 1) := by decide +kernel
theorem dX12_copyRow_12 : decode cX12_copyRow 12 = .ok (.imul, 1) := by decide +kernel
theorem dX12_copyRow_13 : decode cX12_copyRow 13 = .ok (.iload 4, 2) := by decide +kernel
theorem dX12_copyRow_15 : decode cX12_copyRow 15 = .ok (.iadd, 1) := by decide +kernel
theorem dX12_copyRow_16 : decode cX12_copyRow 16 = .ok (.aload_n 0, 1) := by decide +kernel
theorem dX12_copyRow_17 : decode cX12_copyRow 17 = .ok (.iload_n 1, 1) := by decide +kernel
theorem dX12_copyRow_18 : decode cX12_copyRow 18 = .ok (.iload_n 2, 1) := by decide +kernel
theorem dX12_copyRow_19 : decode cX12_copyRow 19 = .ok (.imul, 1) := by decide +kernel
theorem dX12_copyRow_20 : decode cX12_copyRow 20 = .ok (.iload 4, 2) := by decide +kernel
theorem dX12_copyRow_22 : decode cX12_copyRow 22 = .ok (.iadd, 1) := by decide +kernel
theorem dX12_copyRow_23 : decode cX12_copyRow 23 = .ok (.iaload, 1) := by decide +kernel
theorem dX12_copyRow_24 : decode cX12_copyRow 24 = .ok (.iastore, 1) := by decide +kernel
theorem dX12_copyRow_25 : decode cX12_copyRow 25 = .ok (.iinc 4 1, 3) := by decide +kernel
theorem dX12_copyRow_28 : decode cX12_copyRow 28 = .ok (.goto (-25), 3) := by decide +kernel
theorem dX12_copyRow_31 : decode cX12_copyRow 31 = .ok (.return_, 1) := by decide +kernel
theorem dX12_copyAll_0 : decode cX12_copyAll 0 = .ok (.iconst 0, 1) := by decide +kernel
theorem dX12_copyAll_1 : decode cX12_copyAll 1 = .ok (.istore_n 3, 1) := by decide +kernel
theorem dX12_copyAll_2 : decode cX12_copyAll 2 = .ok (.iload_n 3, 1) := by decide +kernel
theorem dX12_copyAll_3 : decode cX12_copyAll 3 = .ok (.sipush 600, 3) := by decide +kernel
theorem dX12_copyAll_6 : decode cX12_copyAll 6 = .ok (.if_icmp .ge 33, 3) := by decide +kernel
theorem dX12_copyAll_9 : decode cX12_copyAll 9 = .ok (.aload_n 0, 1) := by decide +kernel
theorem dX12_copyAll_10 : decode cX12_copyAll 10 = .ok (.getfield 7, 3) := by decide +kernel
theorem dX12_copyAll_13 : decode cX12_copyAll 13 = .ok (.sipush 600, 3) := by decide +kernel
theorem dX12_copyAll_16 : decode cX12_copyAll 16 = .ok (.iload_n 2, 1) := by decide +kernel
theorem dX12_copyAll_17 : decode cX12_copyAll 17 = .ok (.imul, 1) := by decide +kernel
theorem dX12_copyAll_18 : decode cX12_copyAll 18 = .ok (.iload_n 3, 1) := by decide +kernel
theorem dX12_copyAll_19 : decode cX12_copyAll 19 = .ok (.iadd, 1) := by decide +kernel
theorem dX12_copyAll_20 : decode cX12_copyAll 20 = .ok (.aload_n 0, 1) := by decide +kernel
theorem dX12_copyAll_21 : decode cX12_copyAll 21 = .ok (.getfield 7, 3) := by decide +kernel
theorem dX12_copyAll_24 : decode cX12_copyAll 24 = .ok (.sipush 600, 3) := by decide +kernel
theorem dX12_copyAll_27 : decode cX12_copyAll 27 = .ok (.iload_n 1, 1) := by decide +kernel
theorem dX12_copyAll_28 : decode cX12_copyAll 28 = .ok (.imul, 1) := by decide +kernel
theorem dX12_copyAll_29 : decode cX12_copyAll 29 = .ok (.iload_n 3, 1) := by decide +kernel
theorem dX12_copyAll_30 : decode cX12_copyAll 30 = .ok (.iadd, 1) := by decide +kernel
theorem dX12_copyAll_31 : decode cX12_copyAll 31 = .ok (.baload, 1) := by decide +kernel
theorem dX12_copyAll_32 : decode cX12_copyAll 32 = .ok (.bastore, 1) := by decide +kernel
theorem dX12_copyAll_33 : decode cX12_copyAll 33 = .ok (.iinc 3 1, 3) := by decide +kernel
theorem dX12_copyAll_36 : decode cX12_copyAll 36 = .ok (.goto (-34), 3) := by decide +kernel
theorem dX12_copyAll_39 : decode cX12_copyAll 39 = .ok (.aload_n 0, 1) := by decide +kernel
theorem dX12_copyAll_40 : decode cX12_copyAll 40 = .ok (.getfield 13, 3) := by decide +kernel
theorem dX12_copyAll_43 : decode cX12_copyAll 43 = .ok (.iconst 1, 1) := by decide +kernel
theorem dX12_copyAll_44 : decode cX12_copyAll 44 = .ok (.iload_n 1, 1) := by decide +kernel
theorem dX12_copyAll_45 : decode cX12_copyAll 45 = .ok (.iload_n 2, 1) := by decide +kernel
theorem dX12_copyAll_46 : decode cX12_copyAll 46 = .ok (.invokestatic 80, 3) := by decide +kernel
theorem dX12_copyAll_49 : decode cX12_copyAll 49 = .ok (.aload_n 0, 1) := by decide +kernel
theorem dX12_copyAll_50 : decode cX12_copyAll 50 = .ok (.getfield 17, 3) := by decide +kernel
theorem dX12_copyAll_53 : decode cX12_copyAll 53 = .ok (.iconst 1, 1) := by decide +kernel
theorem dX12_copyAll_54 : decode cX12_copyAll 54 = .ok (.iload_n 1, 1) := by decide +kernel
theorem dX12_copyAll_55 : decode cX12_copyAll 55 = .ok (.iload_n 2, 1) := by decide +kernel
theorem dX12_copyAll_56 : decode cX12_copyAll 56 = .ok (.invokestatic 80, 3) := by decide +kernel
theorem dX12_copyAll_59 : decode cX12_copyAll 59 = .ok (.aload_n 0, 1) := by decide +kernel
theorem dX12_copyAll_60 : decode cX12_copyAll 60 = .ok (.getfield 20, 3) := by decide +kernel
theorem dX12_copyAll_63 : decode cX12_copyAll 63 = .ok (.iconst 1, 1) := by decide +kernel
theorem dX12_copyAll_64 : decode cX12_copyAll 64 = .ok (.iload_n 1, 1) := by decide +kernel
theorem dX12_copyAll_65 : decode cX12_copyAll 65 = .ok (.iload_n 2, 1) := by decide +kernel
theorem dX12_copyAll_66 : decode cX12_copyAll 66 = .ok (.invokestatic 80, 3) := by decide +kernel
theorem dX12_copyAll_69 : decode cX12_copyAll 69 = .ok (.aload_n 0, 1) := by decide +kernel
theorem dX12_copyAll_70 : decode cX12_copyAll 70 = .ok (.getfield 23, 3) := by decide +kernel
theorem dX12_copyAll_73 : decode cX12_copyAll 73 = .ok (.iconst 3, 1) := by decide +kernel
theorem dX12_copyAll_74 : decode cX12_copyAll 74 = .ok (.iload_n 1, 1) := by decide +kernel
theorem dX12_copyAll_75 : decode cX12_copyAll 75 = .ok (.iload_n 2, 1) := by decide +kernel
theorem dX12_copyAll_76 : decode cX12_copyAll 76 = .ok (.invokestatic 80, 3) := by decide +kernel
theorem dX12_copyAll_79 : decode cX12_copyAll 79 = .ok (.aload_n 0, 1) := by decide +kernel
theorem dX12_copyAll_80 : decode cX12_copyAll 80 = .ok (.getfield 26, 3) := by decide +kernel
theorem dX12_copyAll_83 : decode cX12_copyAll 83 = .ok (.sipush 250, 3) := by decide +kernel
theorem dX12_copyAll_86 : decode cX12_copyAll 86 = .ok (.iload_n 1, 1) := by decide +kernel
theorem dX12_copyAll_87 : decode cX12_copyAll 87 = .ok (.iload_n 2, 1) := by decide +kernel
theorem dX12_copyAll_88 : decode cX12_copyAll 88 = .ok (.invokestatic 80, 3) := by decide +kernel
theorem dX12_copyAll_91 : decode cX12_copyAll 91 = .ok (.aload_n 0, 1) := by decide +kernel
theorem dX12_copyAll_92 : decode cX12_copyAll 92 = .ok (.getfield 29, 3) := by decide +kernel
theorem dX12_copyAll_95 : decode cX12_copyAll 95 = .ok (.sipush 322, 3) := by decide +kernel
theorem dX12_copyAll_98 : decode cX12_copyAll 98 = .ok (.iload_n 1, 1) := by decide +kernel
theorem dX12_copyAll_99 : decode cX12_copyAll 99 = .ok (.iload_n 2, 1) := by decide +kernel
theorem dX12_copyAll_100 : decode cX12_copyAll 100 = .ok (.invokestatic 80, 3) := by decide +kernel
theorem dX12_copyAll_103 : decode cX12_copyAll 103 = .ok (.aload_n 0, 1) := by decide +kernel
theorem dX12_copyAll_104 : decode cX12_copyAll 104 = .ok (.getfield 32, 3) := by decide +kernel
theorem dX12_copyAll_107 : decode cX12_copyAll 107 = .ok (.bipush 36, 2) := by decide +kernel
theorem dX12_copyAll_109 : decode cX12_copyAll 109 = .ok (.iload_n 1, 1) := by decide +kernel
theorem dX12_copyAll_110 : decode cX12_copyAll 110 = .ok (.iload_n 2, 1) := by decide +kernel
theorem dX12_copyAll_111 : decode cX12_copyAll 111 = .ok (.invokestatic 80, 3) := by decide +kernel
theorem dX12_copyAll_114 : decode cX12_copyAll 114 = .ok (.return_, 1) := by decide +kernel
theorem dX12_is_0 : decode cX12_is 0 = .ok (.iload_n 2, 1) := by decide +kernel
theorem dX12_is_1 : decode cX12_is 1 = .ok (.iconst 0, 1) := by decide +kernel
theorem dX12_is_2 : decode cX12_is 2 = .ok (.aload_n 0, 1) := by decide +kernel
theorem dX12_is_3 : decode cX12_is 3 = .ok (.getfield 23, 3) := by decide +kernel
theorem dX12_is_6 : decode cX12_is 6 = .ok (.iload_n 1, 1) := by decide +kernel
theorem dX12_is_7 : decode cX12_is 7 = .ok (.iaload, 1) := by decide +kernel
theorem dX12_is_8 : decode cX12_is 8 = .ok (.iconst 1, 1) := by decide +kernel
theorem dX12_is_9 : decode cX12_is 9 = .ok (.isub, 1) := by decide +kernel
theorem dX12_is_10 : decode cX12_is 10 = .ok (.invokestatic 84, 3) := by decide +kernel
theorem dX12_is_13 : decode cX12_is 13 = .ok (.ireturn, 1) := by decide +kernel
theorem dX12_feed_0 : decode cX12_feed 0 = .ok (.aload_n 0, 1) := by decide +kernel
theorem dX12_feed_1 : decode cX12_feed 1 = .ok (.iconst 0, 1) := by decide +kernel
theorem dX12_feed_2 : decode cX12_feed 2 = .ok (.putfield 72, 3) := by decide +kernel
theorem dX12_feed_5 : decode cX12_feed 5 = .ok (.aload_n 0, 1) := by decide +kernel
theorem dX12_feed_6 : decode cX12_feed 6 = .ok (.getfield 13, 3) := by decide +kernel
theorem dX12_feed_9 : decode cX12_feed 9 = .ok (.iconst 0, 1) := by decide +kernel
theorem dX12_feed_10 : decode cX12_feed 10 = .ok (.iaload, 1) := by decide +kernel
theorem dX12_feed_11 : decode cX12_feed 11 = .ok (.bipush 20, 2) := by decide +kernel
theorem dX12_feed_13 : decode cX12_feed 13 = .ok (.iadd, 1) := by decide +kernel
theorem dX12_feed_14 : decode cX12_feed 14 = .ok (.sipush 600, 3) := by decide +kernel
theorem dX12_feed_17 : decode cX12_feed 17 = .ok (.if_icmp .le 5, 3) := by decide +kernel
theorem dX12_feed_20 : decode cX12_feed 20 = .ok (.iconst (-1), 1) := by decide +kernel
theorem dX12_feed_21 : decode cX12_feed 21 = .ok (.ireturn, 1) := by decide +kernel
theorem dX12_feed_22 : decode cX12_feed 22 = .ok (.aload_n 0, 1) := by decide +kernel
theorem dX12_feed_23 : decode cX12_feed 23 = .ok (.iload_n 1, 1) := by decide +kernel
theorem dX12_feed_24 : decode cX12_feed 24 = .ok (.invokevirtual 88, 3) := by decide +kernel
theorem dX12_feed_27 : decode cX12_feed 27 = .ok (.aload_n 0, 1) := by decide +kernel
theorem dX12_feed_28 : decode cX12_feed 28 = .ok (.iload_n 2, 1) := by decide +kernel
theorem dX12_feed_29 : decode cX12_feed 29 = .ok (.invokevirtual 88, 3) := by decide +kernel
theorem dX12_feed_32 : decode cX12_feed 32 = .ok (.aload_n 0, 1) := by decide +kernel
theorem dX12_feed_33 : decode cX12_feed 33 = .ok (.iload_n 3, 1) := by decide +kernel
theorem dX12_feed_34 : decode cX12_feed 34 = .ok (.invokevirtual 88, 3) := by decide +kernel
theorem dX12_feed_37 : decode cX12_feed 37 = .ok (.aload_n 0, 1) := by decide +kernel
theorem dX12_feed_38 : decode cX12_feed 38 = .ok (.iload 4, 2) := by decide +kernel
theorem dX12_feed_40 : decode cX12_feed 40 = .ok (.invokevirtual 88, 3) := by decide +kernel
theorem dX12_feed_43 : decode cX12_feed 43 = .ok (.aload_n 0, 1) := by decide +kernel
theorem dX12_feed_44 : decode cX12_feed 44 = .ok (.iload 5, 2) := by decide +kernel
theorem dX12_feed_46 : decode cX12_feed 46 = .ok (.invokevirtual 88, 3) := by decide +kernel
theorem dX12_feed_49 : decode cX12_feed 49 = .ok (.aload_n 0, 1) := by decide +kernel
theorem dX12_feed_50 : decode cX12_feed 50 = .ok (.getfield 13, 3) := by decide +kernel
theorem dX12_feed_53 : decode cX12_feed 53 = .ok (.iconst 0, 1) := by decide +kernel
theorem dX12_feed_54 : decode cX12_feed 54 = .ok (.iaload, 1) := by decide +kernel
theorem dX12_feed_55 : decode cX12_feed 55 = .ok (.ireturn, 1) := by decide +kernel
theorem dX12_four_0 : decode cX12_four 0 = .ok (.bipush 24, 2) := by decide +kernel
theorem dX12_four_2 : decode cX12_four 2 = .ok (.istore_n 2, 1) := by decide +kernel
theorem dX12_four_3 : decode cX12_four 3 = .ok (.iload_n 2, 1) := by decide +kernel
theorem dX12_four_4 : decode cX12_four 4 = .ok (.ifCond .lt 34, 3) := by decide +kernel
theorem dX12_four_7 : decode cX12_four 7 = .ok (.aload_n 0, 1) := by decide +kernel
theorem dX12_four_8 : decode cX12_four 8 = .ok (.getfield 7, 3) := by decide +kernel
theorem dX12_four_11 : decode cX12_four 11 = .ok (.aload_n 0, 1) := by decide +kernel
theorem dX12_four_12 : decode cX12_four 12 = .ok (.getfield 13, 3) := by decide +kernel
theorem dX12_four_15 : decode cX12_four 15 = .ok (.iconst 0, 1) := by decide +kernel
theorem dX12_four_16 : decode cX12_four 16 = .ok (.iaload, 1) := by decide +kernel
theorem dX12_four_17 : decode cX12_four 17 = .ok (.iload_n 1, 1) := by decide +kernel
theorem dX12_four_18 : decode cX12_four 18 = .ok (.iload_n 2, 1) := by decide +kernel
theorem dX12_four_19 : decode cX12_four 19 = .ok (.ishr, 1) := by decide +kernel
theorem dX12_four_20 : decode cX12_four 20 = .ok (.i2b, 1) := by decide +kernel
theorem dX12_four_21 : decode cX12_four 21 = .ok (.bastore, 1) := by decide +kernel
theorem dX12_four_22 : decode cX12_four 22 = .ok (.aload_n 0, 1) := by decide +kernel
theorem dX12_four_23 : decode cX12_four 23 = .ok (.getfield 13, 3) := by decide +kernel
theorem dX12_four_26 : decode cX12_four 26 = .ok (.iconst 0, 1) := by decide +kernel
theorem dX12_four_27 : decode cX12_four 27 = .ok (.dup2, 1) := by decide +kernel
theorem dX12_four_28 : decode cX12_four 28 = .ok (.iaload, 1) := by decide +kernel
theorem dX12_four_29 : decode cX12_four 29 = .ok (.iconst 1, 1) := by decide +kernel
theorem dX12_four_30 : decode cX12_four 30 = .ok (.iadd, 1) := by decide +kernel
theorem dX12_four_31 : decode cX12_four 31 = .ok (.iastore, 1) := by decide +kernel
theorem dX12_four_32 : decode cX12_four 32 = .ok (.iinc 2 (-8), 3) := by decide +kernel
theorem dX12_four_35 : decode cX12_four 35 = .ok (.goto (-32), 3) := by decide +kernel
theorem dX12_four_38 : decode cX12_four 38 = .ok (.return_, 1) := by decide +kernel
theorem dX12_end_0 : decode cX12_end 0 = .ok (.aload_n 0, 1) := by decide +kernel
theorem dX12_end_1 : decode cX12_end 1 = .ok (.iconst 0, 1) := by decide +kernel
theorem dX12_end_2 : decode cX12_end 2 = .ok (.putfield 72, 3) := by decide +kernel
theorem dX12_end_5 : decode cX12_end 5 = .ok (.iload_n 1, 1) := by decide +kernel
theorem dX12_end_6 : decode cX12_end 6 = .ok (.iconst 0, 1) := by decide +kernel
theorem dX12_end_7 : decode cX12_end 7 = .ok (.aload_n 0, 1) := by decide +kernel
theorem dX12_end_8 : decode cX12_end 8 = .ok (.getfield 13, 3) := by decide +kernel
theorem dX12_end_11 : decode cX12_end 11 = .ok (.iconst 0, 1) := by decide +kernel
theorem dX12_end_12 : decode cX12_end 12 = .ok (.iaload, 1) := by decide +kernel
theorem dX12_end_13 : decode cX12_end 13 = .ok (.invokestatic 84, 3) := by decide +kernel
theorem dX12_end_16 : decode cX12_end 16 = .ok (.ifCond .ne 5, 3) := by decide +kernel
theorem dX12_end_19 : decode cX12_end 19 = .ok (.iconst (-1), 1) := by decide +kernel
theorem dX12_end_20 : decode cX12_end 20 = .ok (.ireturn, 1) := by decide +kernel
theorem dX12_end_21 : decode cX12_end 21 = .ok (.aload_n 0, 1) := by decide +kernel
theorem dX12_end_22 : decode cX12_end 22 = .ok (.getfield 13, 3) := by decide +kernel
theorem dX12_end_25 : decode cX12_end 25 = .ok (.iconst 0, 1) := by decide +kernel
theorem dX12_end_26 : decode cX12_end 26 = .ok (.iload_n 1, 1) := by decide +kernel
theorem dX12_end_27 : decode cX12_end 27 = .ok (.iastore, 1) := by decide +kernel
theorem dX12_end_28 : decode cX12_end 28 = .ok (.iload_n 1, 1) := by decide +kernel
theorem dX12_end_29 : decode cX12_end 29 = .ok (.ireturn, 1) := by decide +kernel
theorem dX12_see_0 : decode cX12_see 0 = .ok (.aload_n 0, 1) := by decide +kernel
theorem dX12_see_1 : decode cX12_see 1 = .ok (.getfield 92, 3) := by decide +kernel
theorem dX12_see_4 : decode cX12_see 4 = .ok (.aload_n 0, 1) := by decide +kernel
theorem dX12_see_5 : decode cX12_see 5 = .ok (.getfield 95, 3) := by decide +kernel
theorem dX12_see_8 : decode cX12_see 8 = .ok (.if_icmp .ge 19, 3) := by decide +kernel
theorem dX12_see_11 : decode cX12_see 11 = .ok (.aload_n 0, 1) := by decide +kernel
theorem dX12_see_12 : decode cX12_see 12 = .ok (.getfield 7, 3) := by decide +kernel
theorem dX12_see_15 : decode cX12_see 15 = .ok (.aload_n 0, 1) := by decide +kernel
theorem dX12_see_16 : decode cX12_see 16 = .ok (.getfield 92, 3) := by decide +kernel
theorem dX12_see_19 : decode cX12_see 19 = .ok (.baload, 1) := by decide +kernel
theorem dX12_see_20 : decode cX12_see 20 = .ok (.sipush 255, 3) := by decide +kernel
theorem dX12_see_23 : decode cX12_see 23 = .ok (.iand, 1) := by decide +kernel
theorem dX12_see_24 : decode cX12_see 24 = .ok (.goto 4, 3) := by decide +kernel
theorem dX12_see_27 : decode cX12_see 27 = .ok (.iconst (-1), 1) := by decide +kernel
theorem dX12_see_28 : decode cX12_see 28 = .ok (.ireturn, 1) := by decide +kernel
theorem dX12_token_0 : decode cX12_token 0 = .ok (.aload_n 0, 1) := by decide +kernel
theorem dX12_token_1 : decode cX12_token 1 = .ok (.invokevirtual 98, 3) := by decide +kernel
theorem dX12_token_4 : decode cX12_token 4 = .ok (.bipush 10, 2) := by decide +kernel
theorem dX12_token_6 : decode cX12_token 6 = .ok (.if_icmp .eq 12, 3) := by decide +kernel
theorem dX12_token_9 : decode cX12_token 9 = .ok (.aload_n 0, 1) := by decide +kernel
theorem dX12_token_10 : decode cX12_token 10 = .ok (.invokevirtual 98, 3) := by decide +kernel
theorem dX12_token_13 : decode cX12_token 13 = .ok (.bipush 32, 2) := by decide +kernel
theorem dX12_token_15 : decode cX12_token 15 = .ok (.if_icmp .ne 16, 3) := by decide +kernel
theorem dX12_token_18 : decode cX12_token 18 = .ok (.aload_n 0, 1) := by decide +kernel
theorem dX12_token_19 : decode cX12_token 19 = .ok (.dup, 1) := by decide +kernel
theorem dX12_token_20 : decode cX12_token 20 = .ok (.getfield 92, 3) := by decide +kernel
theorem dX12_token_23 : decode cX12_token 23 = .ok (.iconst 1, 1) := by decide +kernel
theorem dX12_token_24 : decode cX12_token 24 = .ok (.iadd, 1) := by decide +kernel
theorem dX12_token_25 : decode cX12_token 25 = .ok (.putfield 92, 3) := by decide +kernel
theorem dX12_token_28 : decode cX12_token 28 = .ok (.goto (-28), 3) := by decide +kernel
theorem dX12_token_31 : decode cX12_token 31 = .ok (.aload_n 0, 1) := by decide +kernel
theorem dX12_token_32 : decode cX12_token 32 = .ok (.aload_n 0, 1) := by decide +kernel
theorem dX12_token_33 : decode cX12_token 33 = .ok (.getfield 92, 3) := by decide +kernel
theorem dX12_token_36 : decode cX12_token 36 = .ok (.putfield 102, 3) := by decide +kernel
theorem dX12_token_39 : decode cX12_token 39 = .ok (.aload_n 0, 1) := by decide +kernel
theorem dX12_token_40 : decode cX12_token 40 = .ok (.invokevirtual 98, 3) := by decide +kernel
theorem dX12_token_43 : decode cX12_token 43 = .ok (.istore_n 1, 1) := by decide +kernel
theorem dX12_token_44 : decode cX12_token 44 = .ok (.aload_n 0, 1) := by decide +kernel
theorem dX12_token_45 : decode cX12_token 45 = .ok (.lconst 0, 1) := by decide +kernel
theorem dX12_token_46 : decode cX12_token 46 = .ok (.putfield 105, 3) := by decide +kernel
theorem dX12_token_49 : decode cX12_token 49 = .ok (.iconst 0, 1) := by decide +kernel
theorem dX12_token_50 : decode cX12_token 50 = .ok (.istore_n 2, 1) := by decide +kernel
theorem dX12_token_51 : decode cX12_token 51 = .ok (.iload_n 1, 1) := by decide +kernel
theorem dX12_token_52 : decode cX12_token 52 = .ok (.ifCond .ge 11, 3) := by decide +kernel
theorem dX12_token_55 : decode cX12_token 55 = .ok (.aload_n 0, 1) := by decide +kernel
theorem dX12_token_56 : decode cX12_token 56 = .ok (.iconst 0, 1) := by decide +kernel
theorem dX12_token_57 : decode cX12_token 57 = .ok (.putfield 109, 3) := by decide +kernel
theorem dX12_token_60 : decode cX12_token 60 = .ok (.goto 206, 3) := by decide +kernel
theorem dX12_token_63 : decode cX12_token 63 = .ok (.iload_n 1, 1) := by decide +kernel
theorem dX12_token_64 : decode cX12_token 64 = .ok (.bipush 97, 2) := by decide +kernel
theorem dX12_token_66 : decode cX12_token 66 = .ok (.bipush 122, 2) := by decide +kernel
theorem dX12_token_68 : decode cX12_token 68 = .ok (.invokestatic 84, 3) := by decide +kernel
theorem dX12_token_71 : decode cX12_token 71 = .ok (.ifCond .eq 76, 3) := by decide +kernel
theorem dX12_token_74 : decode cX12_token 74 = .ok (.aload_n 0, 1) := by decide +kernel
theorem dX12_token_75 : decode cX12_token 75 = .ok (.invokevirtual 98, 3) := by decide +kernel
theorem dX12_token_78 : decode cX12_token 78 = .ok (.bipush 97, 2) := by decide +kernel
theorem dX12_token_80 : decode cX12_token 80 = .ok (.bipush 122, 2) := by decide +kernel
theorem dX12_token_82 : decode cX12_token 82 = .ok (.invokestatic 84, 3) := by decide +kernel
theorem dX12_token_85 : decode cX12_token 85 = .ok (.ifCond .eq 36, 3) := by decide +kernel
theorem dX12_token_88 : decode cX12_token 88 = .ok (.aload_n 0, 1) := by decide +kernel
theorem dX12_token_89 : decode cX12_token 89 = .ok (.aload_n 0, 1) := by decide +kernel
theorem dX12_token_90 : decode cX12_token 90 = .ok (.getfield 105, 3) := by decide +kernel
theorem dX12_token_93 : decode cX12_token 93 = .ok (.bipush 8, 2) := by decide +kernel
theorem dX12_token_95 : decode cX12_token 95 = .ok (.lshl, 1) := by decide +kernel
theorem dX12_token_96 : decode cX12_token 96 = .ok (.aload_n 0, 1) := by decide +kernel
theorem dX12_token_97 : decode cX12_token 97 = .ok (.invokevirtual 98, 3) := by decide +kernel
theorem dX12_token_100 : decode cX12_token 100 = .ok (.i2l, 1) := by decide +kernel
theorem dX12_token_101 : decode cX12_token 101 = .ok (.lor, 1) := by decide +kernel
theorem dX12_token_102 : decode cX12_token 102 = .ok (.putfield 105, 3) := by decide +kernel
theorem dX12_token_105 : decode cX12_token 105 = .ok (.aload_n 0, 1) := by decide +kernel
theorem dX12_token_106 : decode cX12_token 106 = .ok (.dup, 1) := by decide +kernel
theorem dX12_token_107 : decode cX12_token 107 = .ok (.getfield 92, 3) := by decide +kernel
theorem dX12_token_110 : decode cX12_token 110 = .ok (.iconst 1, 1) := by decide +kernel
theorem dX12_token_111 : decode cX12_token 111 = .ok (.iadd, 1) := by decide +kernel
theorem dX12_token_112 : decode cX12_token 112 = .ok (.putfield 92, 3) := by decide +kernel
theorem dX12_token_115 : decode cX12_token 115 = .ok (.iinc 2 1, 3) := by decide +kernel
theorem dX12_token_118 : decode cX12_token 118 = .ok (.goto (-44), 3) := by decide +kernel
theorem dX12_token_121 : decode cX12_token 121 = .ok (.aload_n 0, 1) := by decide +kernel
theorem dX12_token_122 : decode cX12_token 122 = .ok (.iload_n 2, 1) := by decide +kernel
theorem dX12_token_123 : decode cX12_token 123 = .ok (.bipush 8, 2) := by decide +kernel
theorem dX12_token_125 : decode cX12_token 125 = .ok (.if_icmp .le 7, 3) := by decide +kernel
theorem dX12_token_128 : decode cX12_token 128 = .ok (.lconst 0, 1) := by decide +kernel
theorem dX12_token_129 : decode cX12_token 129 = .ok (.goto 7, 3) := by decide +kernel
theorem dX12_token_132 : decode cX12_token 132 = .ok (.aload_n 0, 1) := by decide +kernel
theorem dX12_token_133 : decode cX12_token 133 = .ok (.getfield 105, 3) := by decide +kernel
theorem dX12_token_136 : decode cX12_token 136 = .ok (.putfield 105, 3) := by decide +kernel
theorem dX12_token_139 : decode cX12_token 139 = .ok (.aload_n 0, 1) := by decide +kernel
theorem dX12_token_140 : decode cX12_token 140 = .ok (.iconst 2, 1) := by decide +kernel
theorem dX12_token_141 : decode cX12_token 141 = .ok (.putfield 109, 3) := by decide +kernel
theorem dX12_token_144 : decode cX12_token 144 = .ok (.goto 122, 3) := by decide +kernel
theorem dX12_token_147 : decode cX12_token 147 = .ok (.iload_n 1, 1) := by decide +kernel
theorem dX12_token_148 : decode cX12_token 148 = .ok (.bipush 48, 2) := by decide +kernel
theorem dX12_token_150 : decode cX12_token 150 = .ok (.bipush 57, 2) := by decide +kernel
theorem dX12_token_152 : decode cX12_token 152 = .ok (.invokestatic 84, 3) := by decide +kernel
theorem dX12_token_155 : decode cX12_token 155 = .ok (.ifCond .eq 86, 3) := by decide +kernel
theorem dX12_token_158 : decode cX12_token 158 = .ok (.aload_n 0, 1) := by decide +kernel
theorem dX12_token_159 : decode cX12_token 159 = .ok (.iconst 0, 1) := by decide +kernel
theorem dX12_token_160 : decode cX12_token 160 = .ok (.putfield 112, 3) := by decide +kernel
theorem dX12_token_163 : decode cX12_token 163 = .ok (.aload_n 0, 1) := by decide +kernel
theorem dX12_token_164 : decode cX12_token 164 = .ok (.invokevirtual 98, 3) := by decide +kernel
theorem dX12_token_167 : decode cX12_token 167 = .ok (.bipush 48, 2) := by decide +kernel
theorem dX12_token_169 : decode cX12_token 169 = .ok (.bipush 57, 2) := by decide +kernel
theorem dX12_token_171 : decode cX12_token 171 = .ok (.invokestatic 84, 3) := by decide +kernel
theorem dX12_token_174 : decode cX12_token 174 = .ok (.ifCond .eq 50, 3) := by decide +kernel
theorem dX12_token_177 : decode cX12_token 177 = .ok (.aload_n 0, 1) := by decide +kernel
theorem dX12_token_178 : decode cX12_token 178 = .ok (.iload_n 2, 1) := by decide +kernel
theorem dX12_token_179 : decode cX12_token 179 = .ok (.iconst 2, 1) := by decide +kernel
theorem dX12_token_180 : decode cX12_token 180 = .ok (.if_icmp .ge 21, 3) := by decide +kernel
theorem dX12_token_183 : decode cX12_token 183 = .ok (.bipush 10, 2) := by decide +kernel
theorem dX12_token_185 : decode cX12_token 185 = .ok (.aload_n 0, 1) := by decide +kernel
theorem dX12_token_186 : decode cX12_token 186 = .ok (.getfield 112, 3) := by decide +kernel
theorem dX12_token_189 : decode cX12_token 189 = .ok (.imul, 1) := by decide +kernel
theorem dX12_token_190 : decode cX12_token 190 = .ok (.aload_n 0, 1) := by decide +kernel
theorem dX12_token_191 : decode cX12_token 191 = .ok (.invokevirtual 98, 3) := by decide +kernel
theorem dX12_token_194 : decode cX12_token 194 = .ok (.iadd, 1) := by decide +kernel
theorem dX12_token_195 : decode cX12_token 195 = .ok (.bipush 48, 2) := by decide +kernel
theorem dX12_token_197 : decode cX12_token 197 = .ok (.isub, 1) := by decide +kernel
theorem dX12_token_198 : decode cX12_token 198 = .ok (.goto 7, 3) := by decide +kernel
theorem dX12_token_201 : decode cX12_token 201 = .ok (.aload_n 0, 1) := by decide +kernel
theorem dX12_token_202 : decode cX12_token 202 = .ok (.getfield 112, 3) := by decide +kernel
theorem dX12_token_205 : decode cX12_token 205 = .ok (.putfield 112, 3) := by decide +kernel
theorem dX12_token_208 : decode cX12_token 208 = .ok (.aload_n 0, 1) := by decide +kernel
theorem dX12_token_209 : decode cX12_token 209 = .ok (.dup, 1) := by decide +kernel
theorem dX12_token_210 : decode cX12_token 210 = .ok (.getfield 92, 3) := by decide +kernel
theorem dX12_token_213 : decode cX12_token 213 = .ok (.iconst 1, 1) := by decide +kernel
theorem dX12_token_214 : decode cX12_token 214 = .ok (.iadd, 1) := by decide +kernel
theorem dX12_token_215 : decode cX12_token 215 = .ok (.putfield 92, 3) := by decide +kernel
theorem dX12_token_218 : decode cX12_token 218 = .ok (.iinc 2 1, 3) := by decide +kernel
theorem dX12_token_221 : decode cX12_token 221 = .ok (.goto (-58), 3) := by decide +kernel
theorem dX12_token_224 : decode cX12_token 224 = .ok (.aload_n 0, 1) := by decide +kernel
theorem dX12_token_225 : decode cX12_token 225 = .ok (.iload_n 2, 1) := by decide +kernel
theorem dX12_token_226 : decode cX12_token 226 = .ok (.iconst 2, 1) := by decide +kernel
theorem dX12_token_227 : decode cX12_token 227 = .ok (.if_icmp .le 7, 3) := by decide +kernel
theorem dX12_token_230 : decode cX12_token 230 = .ok (.iconst 1, 1) := by decide +kernel
theorem dX12_token_231 : decode cX12_token 231 = .ok (.goto 4, 3) := by decide +kernel
theorem dX12_token_234 : decode cX12_token 234 = .ok (.iconst 3, 1) := by decide +kernel
theorem dX12_token_235 : decode cX12_token 235 = .ok (.putfield 109, 3) := by decide +kernel
theorem dX12_token_238 : decode cX12_token 238 = .ok (.goto 28, 3) := by decide +kernel
theorem dX12_token_241 : decode cX12_token 241 = .ok (.aload_n 0, 1) := by decide +kernel
theorem dX12_token_242 : decode cX12_token 242 = .ok (.dup, 1) := by decide +kernel
theorem dX12_token_243 : decode cX12_token 243 = .ok (.getfield 92, 3) := by decide +kernel
theorem dX12_token_246 : decode cX12_token 246 = .ok (.iconst 1, 1) := by decide +kernel
theorem dX12_token_247 : decode cX12_token 247 = .ok (.iadd, 1) := by decide +kernel
theorem dX12_token_248 : decode cX12_token 248 = .ok (.putfield 92, 3) := by decide +kernel
theorem dX12_token_251 : decode cX12_token 251 = .ok (.aload_n 0, 1) := by decide +kernel
theorem dX12_token_252 : decode cX12_token 252 = .ok (.iload_n 1, 1) := by decide +kernel
theorem dX12_token_253 : decode cX12_token 253 = .ok (.bipush 59, 2) := by decide +kernel
theorem dX12_token_255 : decode cX12_token 255 = .ok (.if_icmp .ne 7, 3) := by decide +kernel
theorem dX12_token_258 : decode cX12_token 258 = .ok (.iconst 4, 1) := by decide +kernel
theorem dX12_token_259 : decode cX12_token 259 = .ok (.goto 4, 3) := by decide +kernel
theorem dX12_token_262 : decode cX12_token 262 = .ok (.iconst 1, 1) := by decide +kernel
theorem dX12_token_263 : decode cX12_token 263 = .ok (.putfield 109, 3) := by decide +kernel
theorem dX12_token_266 : decode cX12_token 266 = .ok (.return_, 1) := by decide +kernel
theorem dX12_fails_0 : decode cX12_fails 0 = .ok (.aload_n 0, 1) := by decide +kernel
theorem dX12_fails_1 : decode cX12_fails 1 = .ok (.aload_n 0, 1) := by decide +kernel
theorem dX12_fails_2 : decode cX12_fails 2 = .ok (.getfield 102, 3) := by decide +kernel
theorem dX12_fails_5 : decode cX12_fails 5 = .ok (.putfield 115, 3) := by decide +kernel
theorem dX12_fails_8 : decode cX12_fails 8 = .ok (.iconst 0, 1) := by decide +kernel
theorem dX12_fails_9 : decode cX12_fails 9 = .ok (.ireturn, 1) := by decide +kernel
theorem dX12_addsFault_0 : decode cX12_addsFault 0 = .ok (.aload_n 0, 1) := by decide +kernel
theorem dX12_addsFault_1 : decode cX12_addsFault 1 = .ok (.getfield 118, 3) := by decide +kernel
theorem dX12_addsFault_4 : decode cX12_addsFault 4 = .ok (.ifCond .eq 27, 3) := by decide +kernel
theorem dX12_addsFault_7 : decode cX12_addsFault 7 = .ok (.iload_n 2, 1) := by decide +kernel
theorem dX12_addsFault_8 : decode cX12_addsFault 8 = .ok (.aload_n 0, 1) := by decide +kernel
theorem dX12_addsFault_9 : decode cX12_addsFault 9 = .ok (.getfield 121, 3) := by decide +kernel
theorem dX12_addsFault_12 : decode cX12_addsFault 12 = .ok (.if_icmp .lt 19, 3) := by decide +kernel
theorem dX12_addsFault_15 : decode cX12_addsFault 15 = .ok (.iload_n 2, 1) := by decide +kernel
theorem dX12_addsFault_16 : decode cX12_addsFault 16 = .ok (.aload_n 0, 1) := by decide +kernel
theorem dX12_addsFault_17 : decode cX12_addsFault 17 = .ok (.getfield 121, 3) := by decide +kernel
theorem dX12_addsFault_20 : decode cX12_addsFault 20 = .ok (.if_icmp .ne 21, 3) := by decide +kernel
theorem dX12_addsFault_23 : decode cX12_addsFault 23 = .ok (.iload_n 1, 1) := by decide +kernel
theorem dX12_addsFault_24 : decode cX12_addsFault 24 = .ok (.aload_n 0, 1) := by decide +kernel
theorem dX12_addsFault_25 : decode cX12_addsFault 25 = .ok (.getfield 118, 3) := by decide +kernel
theorem dX12_addsFault_28 : decode cX12_addsFault 28 = .ok (.if_icmp .ge 13, 3) := by decide +kernel
theorem dX12_addsFault_31 : decode cX12_addsFault 31 = .ok (.aload_n 0, 1) := by decide +kernel
theorem dX12_addsFault_32 : decode cX12_addsFault 32 = .ok (.iload_n 1, 1) := by decide +kernel
theorem dX12_addsFault_33 : decode cX12_addsFault 33 = .ok (.putfield 118, 3) := by decide +kernel
theorem dX12_addsFault_36 : decode cX12_addsFault 36 = .ok (.aload_n 0, 1) := by decide +kernel
theorem dX12_addsFault_37 : decode cX12_addsFault 37 = .ok (.iload_n 2, 1) := by decide +kernel
theorem dX12_addsFault_38 : decode cX12_addsFault 38 = .ok (.putfield 121, 3) := by decide +kernel
theorem dX12_addsFault_41 : decode cX12_addsFault 41 = .ok (.return_, 1) := by decide +kernel
theorem dX12_take_0 : decode cX12_take 0 = .ok (.aload_n 0, 1) := by decide +kernel
theorem dX12_take_1 : decode cX12_take 1 = .ok (.getfield 109, 3) := by decide +kernel
theorem dX12_take_4 : decode cX12_take 4 = .ok (.iconst 3, 1) := by decide +kernel
theorem dX12_take_5 : decode cX12_take 5 = .ok (.if_icmp .eq 8, 3) := by decide +kernel
theorem dX12_take_8 : decode cX12_take 8 = .ok (.aload_n 0, 1) := by decide +kernel
theorem dX12_take_9 : decode cX12_take 9 = .ok (.invokevirtual 124, 3) := by decide +kernel
theorem dX12_take_12 : decode cX12_take 12 = .ok (.ireturn, 1) := by decide +kernel
theorem dX12_take_13 : decode cX12_take 13 = .ok (.aload_n 0, 1) := by decide +kernel
theorem dX12_take_14 : decode cX12_take 14 = .ok (.getfield 38, 3) := by decide +kernel
theorem dX12_take_17 : decode cX12_take 17 = .ok (.iload_n 1, 1) := by decide +kernel
theorem dX12_take_18 : decode cX12_take 18 = .ok (.aload_n 0, 1) := by decide +kernel
theorem dX12_take_19 : decode cX12_take 19 = .ok (.getfield 112, 3) := by decide +kernel
theorem dX12_take_22 : decode cX12_take 22 = .ok (.iastore, 1) := by decide +kernel
theorem dX12_take_23 : decode cX12_take 23 = .ok (.aload_n 0, 1) := by decide +kernel
theorem dX12_take_24 : decode cX12_take 24 = .ok (.getfield 112, 3) := by decide +kernel
theorem dX12_take_27 : decode cX12_take 27 = .ok (.iload_n 2, 1) := by decide +kernel
theorem dX12_take_28 : decode cX12_take 28 = .ok (.iload_n 3, 1) := by decide +kernel
theorem dX12_take_29 : decode cX12_take 29 = .ok (.invokestatic 84, 3) := by decide +kernel
theorem dX12_take_32 : decode cX12_take 32 = .ok (.ifCond .ne 17, 3) := by decide +kernel
theorem dX12_take_35 : decode cX12_take 35 = .ok (.aload_n 0, 1) := by decide +kernel
theorem dX12_take_36 : decode cX12_take 36 = .ok (.iconst 2, 1) := by decide +kernel
theorem dX12_take_37 : decode cX12_take 37 = .ok (.aload_n 0, 1) := by decide +kernel
theorem dX12_take_38 : decode cX12_take 38 = .ok (.getfield 102, 3) := by decide +kernel
theorem dX12_take_41 : decode cX12_take 41 = .ok (.invokevirtual 128, 3) := by decide +kernel
theorem dX12_take_44 : decode cX12_take 44 = .ok (.aload_n 0, 1) := by decide +kernel
theorem dX12_take_45 : decode cX12_take 45 = .ok (.iconst 0, 1) := by decide +kernel
theorem dX12_take_46 : decode cX12_take 46 = .ok (.putfield 132, 3) := by decide +kernel
theorem dX12_take_49 : decode cX12_take 49 = .ok (.aload_n 0, 1) := by decide +kernel
theorem dX12_take_50 : decode cX12_take 50 = .ok (.invokevirtual 136, 3) := by decide +kernel
theorem dX12_take_53 : decode cX12_take 53 = .ok (.iconst 1, 1) := by decide +kernel
theorem dX12_take_54 : decode cX12_take 54 = .ok (.ireturn, 1) := by decide +kernel
theorem dX12_full_0 : decode cX12_full 0 = .ok (.aload_n 0, 1) := by decide +kernel
theorem dX12_full_1 : decode cX12_full 1 = .ok (.getfield 35, 3) := by decide +kernel
theorem dX12_full_4 : decode cX12_full 4 = .ok (.iload_n 1, 1) := by decide +kernel
theorem dX12_full_5 : decode cX12_full 5 = .ok (.iaload, 1) := by decide +kernel
theorem dX12_full_6 : decode cX12_full 6 = .ok (.iload_n 2, 1) := by decide +kernel
theorem dX12_full_7 : decode cX12_full 7 = .ok (.if_icmp .ne 9, 3) := by decide +kernel
theorem dX12_full_10 : decode cX12_full 10 = .ok (.aload_n 0, 1) := by decide +kernel
theorem dX12_full_11 : decode cX12_full 11 = .ok (.iconst 3, 1) := by decide +kernel
theorem dX12_full_12 : decode cX12_full 12 = .ok (.iload_n 3, 1) := by decide +kernel
theorem dX12_full_13 : decode cX12_full 13 = .ok (.invokevirtual 128, 3) := by decide +kernel
theorem dX12_full_16 : decode cX12_full 16 = .ok (.return_, 1) := by decide +kernel
theorem dX12_keep_0 : decode cX12_keep 0 = .ok (.aload_n 0, 1) := by decide +kernel
theorem dX12_keep_1 : decode cX12_keep 1 = .ok (.getfield 35, 3) := by decide +kernel
theorem dX12_keep_4 : decode cX12_keep 4 = .ok (.iload_n 1, 1) := by decide +kernel
theorem dX12_keep_5 : decode cX12_keep 5 = .ok (.iaload, 1) := by decide +kernel
theorem dX12_keep_6 : decode cX12_keep 6 = .ok (.istore 6, 2) := by decide +kernel
theorem dX12_keep_8 : decode cX12_keep 8 = .ok (.iload 6, 2) := by decide +kernel
theorem dX12_keep_10 : decode cX12_keep 10 = .ok (.iload_n 2, 1) := by decide +kernel
theorem dX12_keep_11 : decode cX12_keep 11 = .ok (.if_icmp .ne 4, 3) := by decide +kernel
theorem dX12_keep_14 : decode cX12_keep 14 = .ok (.return_, 1) := by decide +kernel
theorem dX12_keep_15 : decode cX12_keep 15 = .ok (.iconst 0, 1) := by decide +kernel
theorem dX12_keep_16 : decode cX12_keep 16 = .ok (.istore 7, 2) := by decide +kernel
theorem dX12_keep_18 : decode cX12_keep 18 = .ok (.iload 7, 2) := by decide +kernel
theorem dX12_keep_20 : decode cX12_keep 20 = .ok (.iload 5, 2) := by decide +kernel
theorem dX12_keep_22 : decode cX12_keep 22 = .ok (.if_icmp .ge 31, 3) := by decide +kernel
theorem dX12_keep_25 : decode cX12_keep 25 = .ok (.aload_n 0, 1) := by decide +kernel
theorem dX12_keep_26 : decode cX12_keep 26 = .ok (.getfield 35, 3) := by decide +kernel
theorem dX12_keep_29 : decode cX12_keep 29 = .ok (.iload_n 3, 1) := by decide +kernel
theorem dX12_keep_30 : decode cX12_keep 30 = .ok (.iload 4, 2) := by decide +kernel
theorem dX12_keep_32 : decode cX12_keep 32 = .ok (.iload 7, 2) := by decide +kernel
theorem dX12_keep_34 : decode cX12_keep 34 = .ok (.imul, 1) := by decide +kernel
theorem dX12_keep_35 : decode cX12_keep 35 = .ok (.iadd, 1) := by decide +kernel
theorem dX12_keep_36 : decode cX12_keep 36 = .ok (.iload 6, 2) := by decide +kernel
theorem dX12_keep_38 : decode cX12_keep 38 = .ok (.iadd, 1) := by decide +kernel
theorem dX12_keep_39 : decode cX12_keep 39 = .ok (.aload_n 0, 1) := by decide +kernel
theorem dX12_keep_40 : decode cX12_keep 40 = .ok (.getfield 38, 3) := by decide +kernel
theorem dX12_keep_43 : decode cX12_keep 43 = .ok (.iload 7, 2) := by decide +kernel
theorem dX12_keep_45 : decode cX12_keep 45 = .ok (.iaload, 1) := by decide +kernel
theorem dX12_keep_46 : decode cX12_keep 46 = .ok (.iastore, 1) := by decide +kernel
theorem dX12_keep_47 : decode cX12_keep 47 = .ok (.iinc 7 1, 3) := by decide +kernel
theorem dX12_keep_50 : decode cX12_keep 50 = .ok (.goto (-32), 3) := by decide +kernel
theorem dX12_keep_53 : decode cX12_keep 53 = .ok (.aload_n 0, 1) := by decide +kernel
theorem dX12_keep_54 : decode cX12_keep 54 = .ok (.getfield 35, 3) := by decide +kernel
theorem dX12_keep_57 : decode cX12_keep 57 = .ok (.iload_n 1, 1) := by decide +kernel
theorem dX12_keep_58 : decode cX12_keep 58 = .ok (.dup2, 1) := by decide +kernel
theorem dX12_keep_59 : decode cX12_keep 59 = .ok (.iaload, 1) := by decide +kernel
theorem dX12_keep_60 : decode cX12_keep 60 = .ok (.iconst 1, 1) := by decide +kernel
theorem dX12_keep_61 : decode cX12_keep 61 = .ok (.iadd, 1) := by decide +kernel
theorem dX12_keep_62 : decode cX12_keep 62 = .ok (.iastore, 1) := by decide +kernel
theorem dX12_keep_63 : decode cX12_keep 63 = .ok (.return_, 1) := by decide +kernel
theorem dX12_standLine_0 : decode cX12_standLine 0 = .ok (.aload_n 0, 1) := by decide +kernel
theorem dX12_standLine_1 : decode cX12_standLine 1 = .ok (.invokevirtual 136, 3) := by decide +kernel
theorem dX12_standLine_4 : decode cX12_standLine 4 = .ok (.aload_n 0, 1) := by decide +kernel
theorem dX12_standLine_5 : decode cX12_standLine 5 = .ok (.iconst 0, 1) := by decide +kernel
theorem dX12_standLine_6 : decode cX12_standLine 6 = .ok (.iconst 0, 1) := by decide +kernel
theorem dX12_standLine_7 : decode cX12_standLine 7 = .ok (.bipush 9, 2) := by decide +kernel
theorem dX12_standLine_9 : decode cX12_standLine 9 = .ok (.invokevirtual 139, 3) := by decide +kernel
theorem dX12_standLine_12 : decode cX12_standLine 12 = .ok (.ifCond .eq 14, 3) := by decide +kernel
theorem dX12_standLine_15 : decode cX12_standLine 15 = .ok (.aload_n 0, 1) := by decide +kernel
theorem dX12_standLine_16 : decode cX12_standLine 16 = .ok (.iconst 1, 1) := by decide +kernel
theorem dX12_standLine_17 : decode cX12_standLine 17 = .ok (.iconst 0, 1) := by decide +kernel
theorem dX12_standLine_18 : decode cX12_standLine 18 = .ok (.bipush 9, 2) := by decide +kernel
theorem dX12_standLine_20 : decode cX12_standLine 20 = .ok (.invokevirtual 139, 3) := by decide +kernel
theorem dX12_standLine_23 : decode cX12_standLine 23 = .ok (.ifCond .ne 5, 3) := by decide +kernel
theorem dX12_standLine_26 : decode cX12_standLine 26 = .ok (.iconst 0, 1) := by decide +kernel
theorem dX12_standLine_27 : decode cX12_standLine 27 = .ok (.ireturn, 1) := by decide +kernel
theorem dX12_standLine_28 : decode cX12_standLine 28 = .ok (.aload_n 0, 1) := by decide +kernel
theorem dX12_standLine_29 : decode cX12_standLine 29 = .ok (.getfield 35, 3) := by decide +kernel
theorem dX12_standLine_32 : decode cX12_standLine 32 = .ok (.iconst 0, 1) := by decide +kernel
theorem dX12_standLine_33 : decode cX12_standLine 33 = .ok (.aload_n 0, 1) := by decide +kernel
theorem dX12_standLine_34 : decode cX12_standLine 34 = .ok (.getfield 132, 3) := by decide +kernel
theorem dX12_standLine_37 : decode cX12_standLine 37 = .ok (.ifCond .eq 12, 3) := by decide +kernel
theorem dX12_standLine_40 : decode cX12_standLine 40 = .ok (.aload_n 0, 1) := by decide +kernel
theorem dX12_standLine_41 : decode cX12_standLine 41 = .ok (.getfield 38, 3) := by decide +kernel
theorem dX12_standLine_44 : decode cX12_standLine 44 = .ok (.iconst 0, 1) := by decide +kernel
theorem dX12_standLine_45 : decode cX12_standLine 45 = .ok (.iaload, 1) := by decide +kernel
theorem dX12_standLine_46 : decode cX12_standLine 46 = .ok (.goto 9, 3) := by decide +kernel
theorem dX12_standLine_49 : decode cX12_standLine 49 = .ok (.aload_n 0, 1) := by decide +kernel
theorem dX12_standLine_50 : decode cX12_standLine 50 = .ok (.getfield 35, 3) := by decide +kernel
theorem dX12_standLine_53 : decode cX12_standLine 53 = .ok (.iconst 0, 1) := by decide +kernel
theorem dX12_standLine_54 : decode cX12_standLine 54 = .ok (.iaload, 1) := by decide +kernel
theorem dX12_standLine_55 : decode cX12_standLine 55 = .ok (.iastore, 1) := by decide +kernel
theorem dX12_standLine_56 : decode cX12_standLine 56 = .ok (.aload_n 0, 1) := by decide +kernel
theorem dX12_standLine_57 : decode cX12_standLine 57 = .ok (.getfield 35, 3) := by decide +kernel
theorem dX12_standLine_60 : decode cX12_standLine 60 = .ok (.iconst 1, 1) := by decide +kernel
theorem dX12_standLine_61 : decode cX12_standLine 61 = .ok (.aload_n 0, 1) := by decide +kernel
theorem dX12_standLine_62 : decode cX12_standLine 62 = .ok (.getfield 132, 3) := by decide +kernel
theorem dX12_standLine_65 : decode cX12_standLine 65 = .ok (.ifCond .eq 12, 3) := by decide +kernel
theorem dX12_standLine_68 : decode cX12_standLine 68 = .ok (.aload_n 0, 1) := by decide +kernel
theorem dX12_standLine_69 : decode cX12_standLine 69 = .ok (.getfield 38, 3) := by decide +kernel
theorem dX12_standLine_72 : decode cX12_standLine 72 = .ok (.iconst 1, 1) := by decide +kernel
theorem dX12_standLine_73 : decode cX12_standLine 73 = .ok (.iaload, 1) := by decide +kernel
theorem dX12_standLine_74 : decode cX12_standLine 74 = .ok (.goto 9, 3) := by decide +kernel
theorem dX12_standLine_77 : decode cX12_standLine 77 = .ok (.aload_n 0, 1) := by decide +kernel
theorem dX12_standLine_78 : decode cX12_standLine 78 = .ok (.getfield 35, 3) := by decide +kernel
theorem dX12_standLine_81 : decode cX12_standLine 81 = .ok (.iconst 1, 1) := by decide +kernel
theorem dX12_standLine_82 : decode cX12_standLine 82 = .ok (.iaload, 1) := by decide +kernel
theorem dX12_standLine_83 : decode cX12_standLine 83 = .ok (.iastore, 1) := by decide +kernel
theorem dX12_standLine_84 : decode cX12_standLine 84 = .ok (.iconst 1, 1) := by decide +kernel
theorem dX12_standLine_85 : decode cX12_standLine 85 = .ok (.ireturn, 1) := by decide +kernel
theorem dX12_slantLine_0 : decode cX12_slantLine 0 = .ok (.aload_n 0, 1) := by decide +kernel
theorem dX12_slantLine_1 : decode cX12_slantLine 1 = .ok (.invokevirtual 136, 3) := by decide +kernel
theorem dX12_slantLine_4 : decode cX12_slantLine 4 = .ok (.aload_n 0, 1) := by decide +kernel
theorem dX12_slantLine_5 : decode cX12_slantLine 5 = .ok (.iconst 0, 1) := by decide +kernel
theorem dX12_slantLine_6 : decode cX12_slantLine 6 = .ok (.iconst 0, 1) := by decide +kernel
theorem dX12_slantLine_7 : decode cX12_slantLine 7 = .ok (.bipush 9, 2) := by decide +kernel
theorem dX12_slantLine_9 : decode cX12_slantLine 9 = .ok (.invokevirtual 139, 3) := by decide +kernel
theorem dX12_slantLine_12 : decode cX12_slantLine 12 = .ok (.ifCond .ne 5, 3) := by decide +kernel
theorem dX12_slantLine_15 : decode cX12_slantLine 15 = .ok (.iconst 0, 1) := by decide +kernel
theorem dX12_slantLine_16 : decode cX12_slantLine 16 = .ok (.ireturn, 1) := by decide +kernel
theorem dX12_slantLine_17 : decode cX12_slantLine 17 = .ok (.aload_n 0, 1) := by decide +kernel
theorem dX12_slantLine_18 : decode cX12_slantLine 18 = .ok (.getfield 35, 3) := by decide +kernel
theorem dX12_slantLine_21 : decode cX12_slantLine 21 = .ok (.iconst 2, 1) := by decide +kernel
theorem dX12_slantLine_22 : decode cX12_slantLine 22 = .ok (.aload_n 0, 1) := by decide +kernel
theorem dX12_slantLine_23 : decode cX12_slantLine 23 = .ok (.getfield 132, 3) := by decide +kernel
theorem dX12_slantLine_26 : decode cX12_slantLine 26 = .ok (.ifCond .eq 12, 3) := by decide +kernel
theorem dX12_slantLine_29 : decode cX12_slantLine 29 = .ok (.aload_n 0, 1) := by decide +kernel
theorem dX12_slantLine_30 : decode cX12_slantLine 30 = .ok (.getfield 38, 3) := by decide +kernel
theorem dX12_slantLine_33 : decode cX12_slantLine 33 = .ok (.iconst 0, 1) := by decide +kernel
theorem dX12_slantLine_34 : decode cX12_slantLine 34 = .ok (.iaload, 1) := by decide +kernel
theorem dX12_slantLine_35 : decode cX12_slantLine 35 = .ok (.goto 9, 3) := by decide +kernel
theorem dX12_slantLine_38 : decode cX12_slantLine 38 = .ok (.aload_n 0, 1) := by decide +kernel
theorem dX12_slantLine_39 : decode cX12_slantLine 39 = .ok (.getfield 35, 3) := by decide +kernel
theorem dX12_slantLine_42 : decode cX12_slantLine 42 = .ok (.iconst 2, 1) := by decide +kernel
theorem dX12_slantLine_43 : decode cX12_slantLine 43 = .ok (.iaload, 1) := by decide +kernel
theorem dX12_slantLine_44 : decode cX12_slantLine 44 = .ok (.iastore, 1) := by decide +kernel
theorem dX12_slantLine_45 : decode cX12_slantLine 45 = .ok (.iconst 1, 1) := by decide +kernel
theorem dX12_slantLine_46 : decode cX12_slantLine 46 = .ok (.ireturn, 1) := by decide +kernel
theorem dX12_mindsLine_0 : decode cX12_mindsLine 0 = .ok (.aload_n 0, 1) := by decide +kernel
theorem dX12_mindsLine_1 : decode cX12_mindsLine 1 = .ok (.iconst 3, 1) := by decide +kernel
theorem dX12_mindsLine_2 : decode cX12_mindsLine 2 = .ok (.bipush 6, 2) := by decide +kernel
theorem dX12_mindsLine_4 : decode cX12_mindsLine 4 = .ok (.iload_n 1, 1) := by decide +kernel
theorem dX12_mindsLine_5 : decode cX12_mindsLine 5 = .ok (.invokevirtual 142, 3) := by decide +kernel
theorem dX12_mindsLine_8 : decode cX12_mindsLine 8 = .ok (.aload_n 0, 1) := by decide +kernel
theorem dX12_mindsLine_9 : decode cX12_mindsLine 9 = .ok (.invokevirtual 136, 3) := by decide +kernel
theorem dX12_mindsLine_12 : decode cX12_mindsLine 12 = .ok (.aload_n 0, 1) := by decide +kernel
theorem dX12_mindsLine_13 : decode cX12_mindsLine 13 = .ok (.iconst 0, 1) := by decide +kernel
theorem dX12_mindsLine_14 : decode cX12_mindsLine 14 = .ok (.iconst 0, 1) := by decide +kernel
theorem dX12_mindsLine_15 : decode cX12_mindsLine 15 = .ok (.iconst 5, 1) := by decide +kernel
theorem dX12_mindsLine_16 : decode cX12_mindsLine 16 = .ok (.invokevirtual 139, 3) := by decide +kernel
theorem dX12_mindsLine_19 : decode cX12_mindsLine 19 = .ok (.ifCond .eq 25, 3) := by decide +kernel
theorem dX12_mindsLine_22 : decode cX12_mindsLine 22 = .ok (.aload_n 0, 1) := by decide +kernel
theorem dX12_mindsLine_23 : decode cX12_mindsLine 23 = .ok (.iconst 1, 1) := by decide +kernel
theorem dX12_mindsLine_24 : decode cX12_mindsLine 24 = .ok (.iconst 0, 1) := by decide +kernel
theorem dX12_mindsLine_25 : decode cX12_mindsLine 25 = .ok (.bipush 18, 2) := by decide +kernel
theorem dX12_mindsLine_27 : decode cX12_mindsLine 27 = .ok (.invokevirtual 139, 3) := by decide +kernel
theorem dX12_mindsLine_30 : decode cX12_mindsLine 30 = .ok (.ifCond .eq 14, 3) := by decide +kernel
theorem dX12_mindsLine_33 : decode cX12_mindsLine 33 = .ok (.aload_n 0, 1) := by decide +kernel
theorem dX12_mindsLine_34 : decode cX12_mindsLine 34 = .ok (.iconst 2, 1) := by decide +kernel
theorem dX12_mindsLine_35 : decode cX12_mindsLine 35 = .ok (.iconst 1, 1) := by decide +kernel
theorem dX12_mindsLine_36 : decode cX12_mindsLine 36 = .ok (.bipush 9, 2) := by decide +kernel
theorem dX12_mindsLine_38 : decode cX12_mindsLine 38 = .ok (.invokevirtual 139, 3) := by decide +kernel
theorem dX12_mindsLine_41 : decode cX12_mindsLine 41 = .ok (.ifCond .ne 5, 3) := by decide +kernel
theorem dX12_mindsLine_44 : decode cX12_mindsLine 44 = .ok (.iconst 0, 1) := by decide +kernel
theorem dX12_mindsLine_45 : decode cX12_mindsLine 45 = .ok (.ireturn, 1) := by decide +kernel
theorem dX12_mindsLine_46 : decode cX12_mindsLine 46 = .ok (.aload_n 0, 1) := by decide +kernel
theorem dX12_mindsLine_47 : decode cX12_mindsLine 47 = .ok (.iconst 3, 1) := by decide +kernel
theorem dX12_mindsLine_48 : decode cX12_mindsLine 48 = .ok (.bipush 6, 2) := by decide +kernel
theorem dX12_mindsLine_50 : decode cX12_mindsLine 50 = .ok (.bipush 7, 2) := by decide +kernel
theorem dX12_mindsLine_52 : decode cX12_mindsLine 52 = .ok (.bipush 6, 2) := by decide +kernel
theorem dX12_mindsLine_54 : decode cX12_mindsLine 54 = .ok (.iconst 3, 1) := by decide +kernel
theorem dX12_mindsLine_55 : decode cX12_mindsLine 55 = .ok (.invokevirtual 146, 3) := by decide +kernel
theorem dX12_mindsLine_58 : decode cX12_mindsLine 58 = .ok (.iconst 1, 1) := by decide +kernel
theorem dX12_mindsLine_59 : decode cX12_mindsLine 59 = .ok (.ireturn, 1) := by decide +kernel
theorem dX12_goerLine_0 : decode cX12_goerLine 0 = .ok (.aload_n 0, 1) := by decide +kernel
theorem dX12_goerLine_1 : decode cX12_goerLine 1 = .ok (.iconst 4, 1) := by decide +kernel
theorem dX12_goerLine_2 : decode cX12_goerLine 2 = .ok (.bipush 8, 2) := by decide +kernel
theorem dX12_goerLine_4 : decode cX12_goerLine 4 = .ok (.iload_n 1, 1) := by decide +kernel
theorem dX12_goerLine_5 : decode cX12_goerLine 5 = .ok (.invokevirtual 142, 3) := by decide +kernel
theorem dX12_goerLine_8 : decode cX12_goerLine 8 = .ok (.aload_n 0, 1) := by decide +kernel
theorem dX12_goerLine_9 : decode cX12_goerLine 9 = .ok (.invokevirtual 136, 3) := by decide +kernel
theorem dX12_goerLine_12 : decode cX12_goerLine 12 = .ok (.aload_n 0, 1) := by decide +kernel
theorem dX12_goerLine_13 : decode cX12_goerLine 13 = .ok (.iconst 0, 1) := by decide +kernel
theorem dX12_goerLine_14 : decode cX12_goerLine 14 = .ok (.iconst 0, 1) := by decide +kernel
theorem dX12_goerLine_15 : decode cX12_goerLine 15 = .ok (.bipush 9, 2) := by decide +kernel
theorem dX12_goerLine_17 : decode cX12_goerLine 17 = .ok (.invokevirtual 139, 3) := by decide +kernel
theorem dX12_goerLine_20 : decode cX12_goerLine 20 = .ok (.ifCond .eq 14, 3) := by decide +kernel
theorem dX12_goerLine_23 : decode cX12_goerLine 23 = .ok (.aload_n 0, 1) := by decide +kernel
theorem dX12_goerLine_24 : decode cX12_goerLine 24 = .ok (.iconst 1, 1) := by decide +kernel
theorem dX12_goerLine_25 : decode cX12_goerLine 25 = .ok (.iconst 0, 1) := by decide +kernel
theorem dX12_goerLine_26 : decode cX12_goerLine 26 = .ok (.bipush 9, 2) := by decide +kernel
theorem dX12_goerLine_28 : decode cX12_goerLine 28 = .ok (.invokevirtual 139, 3) := by decide +kernel
theorem dX12_goerLine_31 : decode cX12_goerLine 31 = .ok (.ifCond .ne 5, 3) := by decide +kernel
theorem dX12_goerLine_34 : decode cX12_goerLine 34 = .ok (.iconst 0, 1) := by decide +kernel
theorem dX12_goerLine_35 : decode cX12_goerLine 35 = .ok (.ireturn, 1) := by decide +kernel
theorem dX12_goerLine_36 : decode cX12_goerLine 36 = .ok (.aload_n 0, 1) := by decide +kernel
theorem dX12_goerLine_37 : decode cX12_goerLine 37 = .ok (.iconst 4, 1) := by decide +kernel
theorem dX12_goerLine_38 : decode cX12_goerLine 38 = .ok (.bipush 8, 2) := by decide +kernel
theorem dX12_goerLine_40 : decode cX12_goerLine 40 = .ok (.bipush 25, 2) := by decide +kernel
theorem dX12_goerLine_42 : decode cX12_goerLine 42 = .ok (.bipush 8, 2) := by decide +kernel
theorem dX12_goerLine_44 : decode cX12_goerLine 44 = .ok (.iconst 2, 1) := by decide +kernel
theorem dX12_goerLine_45 : decode cX12_goerLine 45 = .ok (.invokevirtual 146, 3) := by decide +kernel
theorem dX12_goerLine_48 : decode cX12_goerLine 48 = .ok (.iconst 1, 1) := by decide +kernel
theorem dX12_goerLine_49 : decode cX12_goerLine 49 = .ok (.ireturn, 1) := by decide +kernel
theorem dX12_wrongLine_0 : decode cX12_wrongLine 0 = .ok (.aload_n 0, 1) := by decide +kernel
theorem dX12_wrongLine_1 : decode cX12_wrongLine 1 = .ok (.invokevirtual 136, 3) := by decide +kernel
theorem dX12_wrongLine_4 : decode cX12_wrongLine 4 = .ok (.aload_n 0, 1) := by decide +kernel
theorem dX12_wrongLine_5 : decode cX12_wrongLine 5 = .ok (.iconst 0, 1) := by decide +kernel
theorem dX12_wrongLine_6 : decode cX12_wrongLine 6 = .ok (.iconst 0, 1) := by decide +kernel
theorem dX12_wrongLine_7 : decode cX12_wrongLine 7 = .ok (.bipush 7, 2) := by decide +kernel
theorem dX12_wrongLine_9 : decode cX12_wrongLine 9 = .ok (.invokevirtual 139, 3) := by decide +kernel
theorem dX12_wrongLine_12 : decode cX12_wrongLine 12 = .ok (.ifCond .eq 24, 3) := by decide +kernel
theorem dX12_wrongLine_15 : decode cX12_wrongLine 15 = .ok (.aload_n 0, 1) := by decide +kernel
theorem dX12_wrongLine_16 : decode cX12_wrongLine 16 = .ok (.iconst 1, 1) := by decide +kernel
theorem dX12_wrongLine_17 : decode cX12_wrongLine 17 = .ok (.iconst 0, 1) := by decide +kernel
theorem dX12_wrongLine_18 : decode cX12_wrongLine 18 = .ok (.iconst 5, 1) := by decide +kernel
theorem dX12_wrongLine_19 : decode cX12_wrongLine 19 = .ok (.invokevirtual 139, 3) := by decide +kernel
theorem dX12_wrongLine_22 : decode cX12_wrongLine 22 = .ok (.ifCond .eq 14, 3) := by decide +kernel
theorem dX12_wrongLine_25 : decode cX12_wrongLine 25 = .ok (.aload_n 0, 1) := by decide +kernel
theorem dX12_wrongLine_26 : decode cX12_wrongLine 26 = .ok (.iconst 2, 1) := by decide +kernel
theorem dX12_wrongLine_27 : decode cX12_wrongLine 27 = .ok (.iconst 0, 1) := by decide +kernel
theorem dX12_wrongLine_28 : decode cX12_wrongLine 28 = .ok (.bipush 9, 2) := by decide +kernel
theorem dX12_wrongLine_30 : decode cX12_wrongLine 30 = .ok (.invokevirtual 139, 3) := by decide +kernel
theorem dX12_wrongLine_33 : decode cX12_wrongLine 33 = .ok (.ifCond .ne 5, 3) := by decide +kernel
theorem dX12_wrongLine_36 : decode cX12_wrongLine 36 = .ok (.iconst 0, 1) := by decide +kernel
theorem dX12_wrongLine_37 : decode cX12_wrongLine 37 = .ok (.ireturn, 1) := by decide +kernel
theorem dX12_wrongLine_38 : decode cX12_wrongLine 38 = .ok (.aload_n 0, 1) := by decide +kernel
theorem dX12_wrongLine_39 : decode cX12_wrongLine 39 = .ok (.aload_n 0, 1) := by decide +kernel
theorem dX12_wrongLine_40 : decode cX12_wrongLine 40 = .ok (.getfield 150, 3) := by decide +kernel
theorem dX12_wrongLine_43 : decode cX12_wrongLine 43 = .ok (.aload_n 0, 1) := by decide +kernel
theorem dX12_wrongLine_44 : decode cX12_wrongLine 44 = .ok (.getfield 38, 3) := by decide +kernel
theorem dX12_wrongLine_47 : decode cX12_wrongLine 47 = .ok (.iconst 0, 1) := by decide +kernel
theorem dX12_wrongLine_48 : decode cX12_wrongLine 48 = .ok (.iaload, 1) := by decide +kernel
theorem dX12_wrongLine_49 : decode cX12_wrongLine 49 = .ok (.invokestatic 153, 3) := by decide +kernel
theorem dX12_wrongLine_52 : decode cX12_wrongLine 52 = .ok (.putfield 150, 3) := by decide +kernel
theorem dX12_wrongLine_55 : decode cX12_wrongLine 55 = .ok (.aload_n 0, 1) := by decide +kernel
theorem dX12_wrongLine_56 : decode cX12_wrongLine 56 = .ok (.getfield 132, 3) := by decide +kernel
theorem dX12_wrongLine_59 : decode cX12_wrongLine 59 = .ok (.ifCond .eq 33, 3) := by decide +kernel
theorem dX12_wrongLine_62 : decode cX12_wrongLine 62 = .ok (.aload_n 0, 1) := by decide +kernel
theorem dX12_wrongLine_63 : decode cX12_wrongLine 63 = .ok (.getfield 35, 3) := by decide +kernel
theorem dX12_wrongLine_66 : decode cX12_wrongLine 66 = .ok (.bipush 41, 2) := by decide +kernel
theorem dX12_wrongLine_68 : decode cX12_wrongLine 68 = .ok (.bipush 6, 2) := by decide +kernel
theorem dX12_wrongLine_70 : decode cX12_wrongLine 70 = .ok (.aload_n 0, 1) := by decide +kernel
theorem dX12_wrongLine_71 : decode cX12_wrongLine 71 = .ok (.getfield 38, 3) := by decide +kernel
theorem dX12_wrongLine_74 : decode cX12_wrongLine 74 = .ok (.iconst 0, 1) := by decide +kernel
theorem dX12_wrongLine_75 : decode cX12_wrongLine 75 = .ok (.iaload, 1) := by decide +kernel
theorem dX12_wrongLine_76 : decode cX12_wrongLine 76 = .ok (.imul, 1) := by decide +kernel
theorem dX12_wrongLine_77 : decode cX12_wrongLine 77 = .ok (.iadd, 1) := by decide +kernel
theorem dX12_wrongLine_78 : decode cX12_wrongLine 78 = .ok (.aload_n 0, 1) := by decide +kernel
theorem dX12_wrongLine_79 : decode cX12_wrongLine 79 = .ok (.getfield 38, 3) := by decide +kernel
theorem dX12_wrongLine_82 : decode cX12_wrongLine 82 = .ok (.iconst 1, 1) := by decide +kernel
theorem dX12_wrongLine_83 : decode cX12_wrongLine 83 = .ok (.iaload, 1) := by decide +kernel
theorem dX12_wrongLine_84 : decode cX12_wrongLine 84 = .ok (.iadd, 1) := by decide +kernel
theorem dX12_wrongLine_85 : decode cX12_wrongLine 85 = .ok (.aload_n 0, 1) := by decide +kernel
theorem dX12_wrongLine_86 : decode cX12_wrongLine 86 = .ok (.getfield 38, 3) := by decide +kernel
theorem dX12_wrongLine_89 : decode cX12_wrongLine 89 = .ok (.iconst 2, 1) := by decide +kernel
theorem dX12_wrongLine_90 : decode cX12_wrongLine 90 = .ok (.iaload, 1) := by decide +kernel
theorem dX12_wrongLine_91 : decode cX12_wrongLine 91 = .ok (.iastore, 1) := by decide +kernel
theorem dX12_wrongLine_92 : decode cX12_wrongLine 92 = .ok (.iconst 1, 1) := by decide +kernel
theorem dX12_wrongLine_93 : decode cX12_wrongLine 93 = .ok (.ireturn, 1) := by decide +kernel
theorem dX12_confessLine_0 : decode cX12_confessLine 0 = .ok (.aload_n 0, 1) := by decide +kernel
theorem dX12_confessLine_1 : decode cX12_confessLine 1 = .ok (.iconst 5, 1) := by decide +kernel
theorem dX12_confessLine_2 : decode cX12_confessLine 2 = .ok (.bipush 6, 2) := by decide +kernel
theorem dX12_confessLine_4 : decode cX12_confessLine 4 = .ok (.iload_n 1, 1) := by decide +kernel
theorem dX12_confessLine_5 : decode cX12_confessLine 5 = .ok (.invokevirtual 142, 3) := by decide +kernel
theorem dX12_confessLine_8 : decode cX12_confessLine 8 = .ok (.aload_n 0, 1) := by decide +kernel
theorem dX12_confessLine_9 : decode cX12_confessLine 9 = .ok (.invokevirtual 136, 3) := by decide +kernel
theorem dX12_confessLine_12 : decode cX12_confessLine 12 = .ok (.aload_n 0, 1) := by decide +kernel
theorem dX12_confessLine_13 : decode cX12_confessLine 13 = .ok (.iconst 0, 1) := by decide +kernel
theorem dX12_confessLine_14 : decode cX12_confessLine 14 = .ok (.iconst 1, 1) := by decide +kernel
theorem dX12_confessLine_15 : decode cX12_confessLine 15 = .ok (.bipush 63, 2) := by decide +kernel
theorem dX12_confessLine_17 : decode cX12_confessLine 17 = .ok (.invokevirtual 139, 3) := by decide +kernel
theorem dX12_confessLine_20 : decode cX12_confessLine 20 = .ok (.ifCond .eq 14, 3) := by decide +kernel
theorem dX12_confessLine_23 : decode cX12_confessLine 23 = .ok (.aload_n 0, 1) := by decide +kernel
theorem dX12_confessLine_24 : decode cX12_confessLine 24 = .ok (.iconst 1, 1) := by decide +kernel
theorem dX12_confessLine_25 : decode cX12_confessLine 25 = .ok (.iconst 0, 1) := by decide +kernel
theorem dX12_confessLine_26 : decode cX12_confessLine 26 = .ok (.bipush 20, 2) := by decide +kernel
theorem dX12_confessLine_28 : decode cX12_confessLine 28 = .ok (.invokevirtual 139, 3) := by decide +kernel
theorem dX12_confessLine_31 : decode cX12_confessLine 31 = .ok (.ifCond .ne 5, 3) := by decide +kernel
theorem dX12_confessLine_34 : decode cX12_confessLine 34 = .ok (.iconst 0, 1) := by decide +kernel
theorem dX12_confessLine_35 : decode cX12_confessLine 35 = .ok (.ireturn, 1) := by decide +kernel
theorem dX12_confessLine_36 : decode cX12_confessLine 36 = .ok (.aload_n 0, 1) := by decide +kernel
theorem dX12_confessLine_37 : decode cX12_confessLine 37 = .ok (.iconst 5, 1) := by decide +kernel
theorem dX12_confessLine_38 : decode cX12_confessLine 38 = .ok (.bipush 6, 2) := by decide +kernel
theorem dX12_confessLine_40 : decode cX12_confessLine 40 = .ok (.bipush 89, 2) := by decide +kernel
theorem dX12_confessLine_42 : decode cX12_confessLine 42 = .ok (.bipush 6, 2) := by decide +kernel
theorem dX12_confessLine_44 : decode cX12_confessLine 44 = .ok (.iconst 2, 1) := by decide +kernel
theorem dX12_confessLine_45 : decode cX12_confessLine 45 = .ok (.invokevirtual 146, 3) := by decide +kernel
theorem dX12_confessLine_48 : decode cX12_confessLine 48 = .ok (.iconst 1, 1) := by decide +kernel
theorem dX12_confessLine_49 : decode cX12_confessLine 49 = .ok (.ireturn, 1) := by decide +kernel
theorem dX12_townLine_0 : decode cX12_townLine 0 = .ok (.aload_n 0, 1) := by decide +kernel
theorem dX12_townLine_1 : decode cX12_townLine 1 = .ok (.bipush 6, 2) := by decide +kernel
theorem dX12_townLine_3 : decode cX12_townLine 3 = .ok (.bipush 6, 2) := by decide +kernel
theorem dX12_townLine_5 : decode cX12_townLine 5 = .ok (.iload_n 1, 1) := by decide +kernel
theorem dX12_townLine_6 : decode cX12_townLine 6 = .ok (.invokevirtual 142, 3) := by decide +kernel
theorem dX12_townLine_9 : decode cX12_townLine 9 = .ok (.aload_n 0, 1) := by decide +kernel
theorem dX12_townLine_10 : decode cX12_townLine 10 = .ok (.invokevirtual 136, 3) := by decide +kernel
theorem dX12_townLine_13 : decode cX12_townLine 13 = .ok (.aload_n 0, 1) := by decide +kernel
theorem dX12_townLine_14 : decode cX12_townLine 14 = .ok (.iconst 0, 1) := by decide +kernel
theorem dX12_townLine_15 : decode cX12_townLine 15 = .ok (.iconst 0, 1) := by decide +kernel
theorem dX12_townLine_16 : decode cX12_townLine 16 = .ok (.bipush 9, 2) := by decide +kernel
theorem dX12_townLine_18 : decode cX12_townLine 18 = .ok (.invokevirtual 139, 3) := by decide +kernel
theorem dX12_townLine_21 : decode cX12_townLine 21 = .ok (.ifCond .eq 36, 3) := by decide +kernel
theorem dX12_townLine_24 : decode cX12_townLine 24 = .ok (.aload_n 0, 1) := by decide +kernel
theorem dX12_townLine_25 : decode cX12_townLine 25 = .ok (.iconst 1, 1) := by decide +kernel
theorem dX12_townLine_26 : decode cX12_townLine 26 = .ok (.iconst 0, 1) := by decide +kernel
theorem dX12_townLine_27 : decode cX12_townLine 27 = .ok (.bipush 9, 2) := by decide +kernel
theorem dX12_townLine_29 : decode cX12_townLine 29 = .ok (.invokevirtual 139, 3) := by decide +kernel
theorem dX12_townLine_32 : decode cX12_townLine 32 = .ok (.ifCond .eq 25, 3) := by decide +kernel
theorem dX12_townLine_35 : decode cX12_townLine 35 = .ok (.aload_n 0, 1) := by decide +kernel
theorem dX12_townLine_36 : decode cX12_townLine 36 = .ok (.iconst 2, 1) := by decide +kernel
theorem dX12_townLine_37 : decode cX12_townLine 37 = .ok (.iconst 0, 1) := by decide +kernel
theorem dX12_townLine_38 : decode cX12_townLine 38 = .ok (.bipush 30, 2) := by decide +kernel
theorem dX12_townLine_40 : decode cX12_townLine 40 = .ok (.invokevirtual 139, 3) := by decide +kernel
theorem dX12_townLine_43 : decode cX12_townLine 43 = .ok (.ifCond .eq 14, 3) := by decide +kernel
theorem dX12_townLine_46 : decode cX12_townLine 46 = .ok (.aload_n 0, 1) := by decide +kernel
theorem dX12_townLine_47 : decode cX12_townLine 47 = .ok (.iconst 3, 1) := by decide +kernel
theorem dX12_townLine_48 : decode cX12_townLine 48 = .ok (.iconst 0, 1) := by decide +kernel
theorem dX12_townLine_49 : decode cX12_townLine 49 = .ok (.bipush 10, 2) := by decide +kernel
theorem dX12_townLine_51 : decode cX12_townLine 51 = .ok (.invokevirtual 139, 3) := by decide +kernel
theorem dX12_townLine_54 : decode cX12_townLine 54 = .ok (.ifCond .ne 5, 3) := by decide +kernel
theorem dX12_townLine_57 : decode cX12_townLine 57 = .ok (.iconst 0, 1) := by decide +kernel
theorem dX12_townLine_58 : decode cX12_townLine 58 = .ok (.ireturn, 1) := by decide +kernel
theorem dX12_townLine_59 : decode cX12_townLine 59 = .ok (.aload_n 0, 1) := by decide +kernel
theorem dX12_townLine_60 : decode cX12_townLine 60 = .ok (.bipush 6, 2) := by decide +kernel
theorem dX12_townLine_62 : decode cX12_townLine 62 = .ok (.bipush 6, 2) := by decide +kernel
theorem dX12_townLine_64 : decode cX12_townLine 64 = .ok (.bipush 101, 2) := by decide +kernel
theorem dX12_townLine_66 : decode cX12_townLine 66 = .ok (.bipush 6, 2) := by decide +kernel
theorem dX12_townLine_68 : decode cX12_townLine 68 = .ok (.iconst 4, 1) := by decide +kernel
theorem dX12_townLine_69 : decode cX12_townLine 69 = .ok (.invokevirtual 146, 3) := by decide +kernel
theorem dX12_townLine_72 : decode cX12_townLine 72 = .ok (.iconst 1, 1) := by decide +kernel
theorem dX12_townLine_73 : decode cX12_townLine 73 = .ok (.ireturn, 1) := by decide +kernel
theorem dX12_fairLine_0 : decode cX12_fairLine 0 = .ok (.lload_n 1, 1) := by decide +kernel
theorem dX12_fairLine_1 : decode cX12_fairLine 1 = .ok (.ldc2_w 157, 3) := by decide +kernel
theorem dX12_fairLine_4 : decode cX12_fairLine 4 = .ok (.lcmp, 1) := by decide +kernel
theorem dX12_fairLine_5 : decode cX12_fairLine 5 = .ok (.ifCond .ne 8, 3) := by decide +kernel
theorem dX12_fairLine_8 : decode cX12_fairLine 8 = .ok (.aload_n 0, 1) := by decide +kernel
theorem dX12_fairLine_9 : decode cX12_fairLine 9 = .ok (.invokevirtual 159, 3) := by decide +kernel
theorem dX12_fairLine_12 : decode cX12_fairLine 12 = .ok (.ireturn, 1) := by decide +kernel
theorem dX12_fairLine_13 : decode cX12_fairLine 13 = .ok (.lload_n 1, 1) := by decide +kernel
theorem dX12_fairLine_14 : decode cX12_fairLine 14 = .ok (.ldc2_w 162, 3) := by decide +kernel
theorem dX12_fairLine_17 : decode cX12_fairLine 17 = .ok (.lcmp, 1) := by decide +kernel
theorem dX12_fairLine_18 : decode cX12_fairLine 18 = .ok (.ifCond .ne 9, 3) := by decide +kernel
theorem dX12_fairLine_21 : decode cX12_fairLine 21 = .ok (.aload_n 0, 1) := by decide +kernel
theorem dX12_fairLine_22 : decode cX12_fairLine 22 = .ok (.iload_n 3, 1) := by decide +kernel
theorem dX12_fairLine_23 : decode cX12_fairLine 23 = .ok (.invokevirtual 164, 3) := by decide +kernel
theorem dX12_fairLine_26 : decode cX12_fairLine 26 = .ok (.ireturn, 1) := by decide +kernel
theorem dX12_fairLine_27 : decode cX12_fairLine 27 = .ok (.lload_n 1, 1) := by decide +kernel
theorem dX12_fairLine_28 : decode cX12_fairLine 28 = .ok (.ldc2_w 168, 3) := by decide +kernel
theorem dX12_fairLine_31 : decode cX12_fairLine 31 = .ok (.lcmp, 1) := by decide +kernel
theorem dX12_fairLine_32 : decode cX12_fairLine 32 = .ok (.ifCond .ne 8, 3) := by decide +kernel
theorem dX12_fairLine_35 : decode cX12_fairLine 35 = .ok (.aload_n 0, 1) := by decide +kernel
theorem dX12_fairLine_36 : decode cX12_fairLine 36 = .ok (.invokevirtual 170, 3) := by decide +kernel
theorem dX12_fairLine_39 : decode cX12_fairLine 39 = .ok (.ireturn, 1) := by decide +kernel
theorem dX12_fairLine_40 : decode cX12_fairLine 40 = .ok (.lload_n 1, 1) := by decide +kernel
theorem dX12_fairLine_41 : decode cX12_fairLine 41 = .ok (.ldc2_w 173, 3) := by decide +kernel
theorem dX12_fairLine_44 : decode cX12_fairLine 44 = .ok (.lcmp, 1) := by decide +kernel
theorem dX12_fairLine_45 : decode cX12_fairLine 45 = .ok (.ifCond .ne 9, 3) := by decide +kernel
theorem dX12_fairLine_48 : decode cX12_fairLine 48 = .ok (.aload_n 0, 1) := by decide +kernel
theorem dX12_fairLine_49 : decode cX12_fairLine 49 = .ok (.iload_n 3, 1) := by decide +kernel
theorem dX12_fairLine_50 : decode cX12_fairLine 50 = .ok (.invokevirtual 175, 3) := by decide +kernel
theorem dX12_fairLine_53 : decode cX12_fairLine 53 = .ok (.ireturn, 1) := by decide +kernel
theorem dX12_fairLine_54 : decode cX12_fairLine 54 = .ok (.lload_n 1, 1) := by decide +kernel
theorem dX12_fairLine_55 : decode cX12_fairLine 55 = .ok (.ldc2_w 178, 3) := by decide +kernel
theorem dX12_fairLine_58 : decode cX12_fairLine 58 = .ok (.lcmp, 1) := by decide +kernel
theorem dX12_fairLine_59 : decode cX12_fairLine 59 = .ok (.ifCond .ne 8, 3) := by decide +kernel
theorem dX12_fairLine_62 : decode cX12_fairLine 62 = .ok (.aload_n 0, 1) := by decide +kernel
theorem dX12_fairLine_63 : decode cX12_fairLine 63 = .ok (.invokevirtual 180, 3) := by decide +kernel
theorem dX12_fairLine_66 : decode cX12_fairLine 66 = .ok (.ireturn, 1) := by decide +kernel
theorem dX12_fairLine_67 : decode cX12_fairLine 67 = .ok (.lload_n 1, 1) := by decide +kernel
theorem dX12_fairLine_68 : decode cX12_fairLine 68 = .ok (.ldc2_w 183, 3) := by decide +kernel
theorem dX12_fairLine_71 : decode cX12_fairLine 71 = .ok (.lcmp, 1) := by decide +kernel
theorem dX12_fairLine_72 : decode cX12_fairLine 72 = .ok (.ifCond .ne 9, 3) := by decide +kernel
theorem dX12_fairLine_75 : decode cX12_fairLine 75 = .ok (.aload_n 0, 1) := by decide +kernel
theorem dX12_fairLine_76 : decode cX12_fairLine 76 = .ok (.iload_n 3, 1) := by decide +kernel
theorem dX12_fairLine_77 : decode cX12_fairLine 77 = .ok (.invokevirtual 185, 3) := by decide +kernel
theorem dX12_fairLine_80 : decode cX12_fairLine 80 = .ok (.ireturn, 1) := by decide +kernel
theorem dX12_fairLine_81 : decode cX12_fairLine 81 = .ok (.lload_n 1, 1) := by decide +kernel
theorem dX12_fairLine_82 : decode cX12_fairLine 82 = .ok (.ldc2_w 188, 3) := by decide +kernel
theorem dX12_fairLine_85 : decode cX12_fairLine 85 = .ok (.lcmp, 1) := by decide +kernel
theorem dX12_fairLine_86 : decode cX12_fairLine 86 = .ok (.ifCond .ne 11, 3) := by decide +kernel
theorem dX12_fairLine_89 : decode cX12_fairLine 89 = .ok (.aload_n 0, 1) := by decide +kernel
theorem dX12_fairLine_90 : decode cX12_fairLine 90 = .ok (.iload_n 3, 1) := by decide +kernel
theorem dX12_fairLine_91 : decode cX12_fairLine 91 = .ok (.invokevirtual 190, 3) := by decide +kernel
theorem dX12_fairLine_94 : decode cX12_fairLine 94 = .ok (.goto 7, 3) := by decide +kernel
theorem dX12_fairLine_97 : decode cX12_fairLine 97 = .ok (.aload_n 0, 1) := by decide +kernel
theorem dX12_fairLine_98 : decode cX12_fairLine 98 = .ok (.invokevirtual 124, 3) := by decide +kernel
theorem dX12_fairLine_101 : decode cX12_fairLine 101 = .ok (.ireturn, 1) := by decide +kernel
theorem dX12_deedBy_0 : decode cX12_deedBy 0 = .ok (.lload_n 1, 1) := by decide +kernel
theorem dX12_deedBy_1 : decode cX12_deedBy 1 = .ok (.ldc2_w 193, 3) := by decide +kernel
theorem dX12_deedBy_4 : decode cX12_deedBy 4 = .ok (.lcmp, 1) := by decide +kernel
theorem dX12_deedBy_5 : decode cX12_deedBy 5 = .ok (.ifCond .ne 7, 3) := by decide +kernel
theorem dX12_deedBy_8 : decode cX12_deedBy 8 = .ok (.iconst 0, 1) := by decide +kernel
theorem dX12_deedBy_9 : decode cX12_deedBy 9 = .ok (.goto 64, 3) := by decide +kernel
theorem dX12_deedBy_12 : decode cX12_deedBy 12 = .ok (.lload_n 1, 1) := by decide +kernel
theorem dX12_deedBy_13 : decode cX12_deedBy 13 = .ok (.ldc2_w 195, 3) := by decide +kernel
theorem dX12_deedBy_16 : decode cX12_deedBy 16 = .ok (.lcmp, 1) := by decide +kernel
theorem dX12_deedBy_17 : decode cX12_deedBy 17 = .ok (.ifCond .ne 7, 3) := by decide +kernel
theorem dX12_deedBy_20 : decode cX12_deedBy 20 = .ok (.iconst 1, 1) := by decide +kernel
theorem dX12_deedBy_21 : decode cX12_deedBy 21 = .ok (.goto 52, 3) := by decide +kernel
theorem dX12_deedBy_24 : decode cX12_deedBy 24 = .ok (.lload_n 1, 1) := by decide +kernel
theorem dX12_deedBy_25 : decode cX12_deedBy 25 = .ok (.ldc2_w 197, 3) := by decide +kernel
theorem dX12_deedBy_28 : decode cX12_deedBy 28 = .ok (.lcmp, 1) := by decide +kernel
theorem dX12_deedBy_29 : decode cX12_deedBy 29 = .ok (.ifCond .ne 7, 3) := by decide +kernel
theorem dX12_deedBy_32 : decode cX12_deedBy 32 = .ok (.iconst 2, 1) := by decide +kernel
theorem dX12_deedBy_33 : decode cX12_deedBy 33 = .ok (.goto 40, 3) := by decide +kernel
theorem dX12_deedBy_36 : decode cX12_deedBy 36 = .ok (.lload_n 1, 1) := by decide +kernel
theorem dX12_deedBy_37 : decode cX12_deedBy 37 = .ok (.ldc2_w 199, 3) := by decide +kernel
theorem dX12_deedBy_40 : decode cX12_deedBy 40 = .ok (.lcmp, 1) := by decide +kernel
theorem dX12_deedBy_41 : decode cX12_deedBy 41 = .ok (.ifCond .ne 7, 3) := by decide +kernel
theorem dX12_deedBy_44 : decode cX12_deedBy 44 = .ok (.iconst 3, 1) := by decide +kernel
theorem dX12_deedBy_45 : decode cX12_deedBy 45 = .ok (.goto 28, 3) := by decide +kernel
theorem dX12_deedBy_48 : decode cX12_deedBy 48 = .ok (.lload_n 1, 1) := by decide +kernel
theorem dX12_deedBy_49 : decode cX12_deedBy 49 = .ok (.ldc2_w 201, 3) := by decide +kernel
theorem dX12_deedBy_52 : decode cX12_deedBy 52 = .ok (.lcmp, 1) := by decide +kernel
theorem dX12_deedBy_53 : decode cX12_deedBy 53 = .ok (.ifCond .ne 7, 3) := by decide +kernel
theorem dX12_deedBy_56 : decode cX12_deedBy 56 = .ok (.iconst 4, 1) := by decide +kernel
theorem dX12_deedBy_57 : decode cX12_deedBy 57 = .ok (.goto 16, 3) := by decide +kernel
theorem dX12_deedBy_60 : decode cX12_deedBy 60 = .ok (.lload_n 1, 1) := by decide +kernel
theorem dX12_deedBy_61 : decode cX12_deedBy 61 = .ok (.ldc2_w 203, 3) := by decide +kernel
theorem dX12_deedBy_64 : decode cX12_deedBy 64 = .ok (.lcmp, 1) := by decide +kernel
theorem dX12_deedBy_65 : decode cX12_deedBy 65 = .ok (.ifCond .ne 7, 3) := by decide +kernel
theorem dX12_deedBy_68 : decode cX12_deedBy 68 = .ok (.iconst 5, 1) := by decide +kernel
theorem dX12_deedBy_69 : decode cX12_deedBy 69 = .ok (.goto 4, 3) := by decide +kernel
theorem dX12_deedBy_72 : decode cX12_deedBy 72 = .ok (.iconst (-1), 1) := by decide +kernel
theorem dX12_deedBy_73 : decode cX12_deedBy 73 = .ok (.ireturn, 1) := by decide +kernel
theorem dX12_dayLine_0 : decode cX12_dayLine 0 = .ok (.aload_n 0, 1) := by decide +kernel
theorem dX12_dayLine_1 : decode cX12_dayLine 1 = .ok (.lload_n 1, 1) := by decide +kernel
theorem dX12_dayLine_2 : decode cX12_dayLine 2 = .ok (.invokevirtual 205, 3) := by decide +kernel
theorem dX12_dayLine_5 : decode cX12_dayLine 5 = .ok (.istore 4, 2) := by decide +kernel
theorem dX12_dayLine_7 : decode cX12_dayLine 7 = .ok (.iload 4, 2) := by decide +kernel
theorem dX12_dayLine_9 : decode cX12_dayLine 9 = .ok (.iconst (-1), 1) := by decide +kernel
theorem dX12_dayLine_10 : decode cX12_dayLine 10 = .ok (.if_icmp .ne 8, 3) := by decide +kernel
theorem dX12_dayLine_13 : decode cX12_dayLine 13 = .ok (.aload_n 0, 1) := by decide +kernel
theorem dX12_dayLine_14 : decode cX12_dayLine 14 = .ok (.invokevirtual 124, 3) := by decide +kernel
theorem dX12_dayLine_17 : decode cX12_dayLine 17 = .ok (.ireturn, 1) := by decide +kernel
theorem dX12_dayLine_18 : decode cX12_dayLine 18 = .ok (.aload_n 0, 1) := by decide +kernel
theorem dX12_dayLine_19 : decode cX12_dayLine 19 = .ok (.iconst 0, 1) := by decide +kernel
theorem dX12_dayLine_20 : decode cX12_dayLine 20 = .ok (.bipush 40, 2) := by decide +kernel
theorem dX12_dayLine_22 : decode cX12_dayLine 22 = .ok (.iload_n 3, 1) := by decide +kernel
theorem dX12_dayLine_23 : decode cX12_dayLine 23 = .ok (.invokevirtual 142, 3) := by decide +kernel
theorem dX12_dayLine_26 : decode cX12_dayLine 26 = .ok (.aload_n 0, 1) := by decide +kernel
theorem dX12_dayLine_27 : decode cX12_dayLine 27 = .ok (.invokevirtual 136, 3) := by decide +kernel
theorem dX12_dayLine_30 : decode cX12_dayLine 30 = .ok (.aload_n 0, 1) := by decide +kernel
theorem dX12_dayLine_31 : decode cX12_dayLine 31 = .ok (.getfield 38, 3) := by decide +kernel
theorem dX12_dayLine_34 : decode cX12_dayLine 34 = .ok (.iconst 1, 1) := by decide +kernel
theorem dX12_dayLine_35 : decode cX12_dayLine 35 = .ok (.iconst (-1), 1) := by decide +kernel
theorem dX12_dayLine_36 : decode cX12_dayLine 36 = .ok (.iastore, 1) := by decide +kernel
theorem dX12_dayLine_37 : decode cX12_dayLine 37 = .ok (.aload_n 0, 1) := by decide +kernel
theorem dX12_dayLine_38 : decode cX12_dayLine 38 = .ok (.getfield 38, 3) := by decide +kernel
theorem dX12_dayLine_41 : decode cX12_dayLine 41 = .ok (.iconst 2, 1) := by decide +kernel
theorem dX12_dayLine_42 : decode cX12_dayLine 42 = .ok (.iconst (-1), 1) := by decide +kernel
theorem dX12_dayLine_43 : decode cX12_dayLine 43 = .ok (.iastore, 1) := by decide +kernel
theorem dX12_dayLine_44 : decode cX12_dayLine 44 = .ok (.aload_n 0, 1) := by decide +kernel
theorem dX12_dayLine_45 : decode cX12_dayLine 45 = .ok (.getfield 38, 3) := by decide +kernel
theorem dX12_dayLine_48 : decode cX12_dayLine 48 = .ok (.iconst 3, 1) := by decide +kernel
theorem dX12_dayLine_49 : decode cX12_dayLine 49 = .ok (.iconst (-1), 1) := by decide +kernel
theorem dX12_dayLine_50 : decode cX12_dayLine 50 = .ok (.iastore, 1) := by decide +kernel
theorem dX12_dayLine_51 : decode cX12_dayLine 51 = .ok (.iload 4, 2) := by decide +kernel
theorem dX12_dayLine_53 : decode cX12_dayLine 53 = .ok (.iconst 3, 1) := by decide +kernel
theorem dX12_dayLine_54 : decode cX12_dayLine 54 = .ok (.if_icmp .ne 7, 3) := by decide +kernel
theorem dX12_dayLine_57 : decode cX12_dayLine 57 = .ok (.iconst 1, 1) := by decide +kernel
theorem dX12_dayLine_58 : decode cX12_dayLine 58 = .ok (.goto 4, 3) := by decide +kernel
theorem dX12_dayLine_61 : decode cX12_dayLine 61 = .ok (.iconst 0, 1) := by decide +kernel
theorem dX12_dayLine_62 : decode cX12_dayLine 62 = .ok (.istore 5, 2) := by decide +kernel
theorem dX12_dayLine_64 : decode cX12_dayLine 64 = .ok (.iload 4, 2) := by decide +kernel
theorem dX12_dayLine_66 : decode cX12_dayLine 66 = .ok (.iconst 1, 1) := by decide +kernel
theorem dX12_dayLine_67 : decode cX12_dayLine 67 = .ok (.if_icmp .le 14, 3) := by decide +kernel
theorem dX12_dayLine_70 : decode cX12_dayLine 70 = .ok (.aload_n 0, 1) := by decide +kernel
theorem dX12_dayLine_71 : decode cX12_dayLine 71 = .ok (.iconst 1, 1) := by decide +kernel
theorem dX12_dayLine_72 : decode cX12_dayLine 72 = .ok (.iconst 0, 1) := by decide +kernel
theorem dX12_dayLine_73 : decode cX12_dayLine 73 = .ok (.bipush 7, 2) := by decide +kernel
theorem dX12_dayLine_75 : decode cX12_dayLine 75 = .ok (.invokevirtual 139, 3) := by decide +kernel
theorem dX12_dayLine_78 : decode cX12_dayLine 78 = .ok (.ifCond .eq 49, 3) := by decide +kernel
theorem dX12_dayLine_81 : decode cX12_dayLine 81 = .ok (.iload 4, 2) := by decide +kernel
theorem dX12_dayLine_83 : decode cX12_dayLine 83 = .ok (.iconst 2, 1) := by decide +kernel
theorem dX12_dayLine_84 : decode cX12_dayLine 84 = .ok (.if_icmp .le 45, 3) := by decide +kernel
theorem dX12_dayLine_87 : decode cX12_dayLine 87 = .ok (.aload_n 0, 1) := by decide +kernel
theorem dX12_dayLine_88 : decode cX12_dayLine 88 = .ok (.iconst 2, 1) := by decide +kernel
theorem dX12_dayLine_89 : decode cX12_dayLine 89 = .ok (.iconst 0, 1) := by decide +kernel
theorem dX12_dayLine_90 : decode cX12_dayLine 90 = .ok (.iload 5, 2) := by decide +kernel
theorem dX12_dayLine_92 : decode cX12_dayLine 92 = .ok (.ifCond .eq 8, 3) := by decide +kernel
theorem dX12_dayLine_95 : decode cX12_dayLine 95 = .ok (.bipush 9, 2) := by decide +kernel
theorem dX12_dayLine_97 : decode cX12_dayLine 97 = .ok (.goto 4, 3) := by decide +kernel
theorem dX12_dayLine_100 : decode cX12_dayLine 100 = .ok (.iconst 5, 1) := by decide +kernel
theorem dX12_dayLine_101 : decode cX12_dayLine 101 = .ok (.invokevirtual 139, 3) := by decide +kernel
theorem dX12_dayLine_104 : decode cX12_dayLine 104 = .ok (.ifCond .eq 23, 3) := by decide +kernel
theorem dX12_dayLine_107 : decode cX12_dayLine 107 = .ok (.aload_n 0, 1) := by decide +kernel
theorem dX12_dayLine_108 : decode cX12_dayLine 108 = .ok (.iconst 3, 1) := by decide +kernel
theorem dX12_dayLine_109 : decode cX12_dayLine 109 = .ok (.iload 5, 2) := by decide +kernel
theorem dX12_dayLine_111 : decode cX12_dayLine 111 = .ok (.ifCond .eq 7, 3) := by decide +kernel
theorem dX12_dayLine_114 : decode cX12_dayLine 114 = .ok (.iconst 0, 1) := by decide +kernel
theorem dX12_dayLine_115 : decode cX12_dayLine 115 = .ok (.goto 4, 3) := by decide +kernel
theorem dX12_dayLine_118 : decode cX12_dayLine 118 = .ok (.iconst 1, 1) := by decide +kernel
theorem dX12_dayLine_119 : decode cX12_dayLine 119 = .ok (.bipush 9, 2) := by decide +kernel
theorem dX12_dayLine_121 : decode cX12_dayLine 121 = .ok (.invokevirtual 139, 3) := by decide +kernel
theorem dX12_dayLine_124 : decode cX12_dayLine 124 = .ok (.ifCond .ne 5, 3) := by decide +kernel
theorem dX12_dayLine_127 : decode cX12_dayLine 127 = .ok (.iconst 0, 1) := by decide +kernel
theorem dX12_dayLine_128 : decode cX12_dayLine 128 = .ok (.ireturn, 1) := by decide +kernel
theorem dX12_dayLine_129 : decode cX12_dayLine 129 = .ok (.aload_n 0, 1) := by decide +kernel
theorem dX12_dayLine_130 : decode cX12_dayLine 130 = .ok (.getfield 38, 3) := by decide +kernel
theorem dX12_dayLine_133 : decode cX12_dayLine 133 = .ok (.iconst 0, 1) := by decide +kernel
theorem dX12_dayLine_134 : decode cX12_dayLine 134 = .ok (.iload 4, 2) := by decide +kernel
theorem dX12_dayLine_136 : decode cX12_dayLine 136 = .ok (.iastore, 1) := by decide +kernel
theorem dX12_dayLine_137 : decode cX12_dayLine 137 = .ok (.aload_n 0, 1) := by decide +kernel
theorem dX12_dayLine_138 : decode cX12_dayLine 138 = .ok (.getfield 35, 3) := by decide +kernel
theorem dX12_dayLine_141 : decode cX12_dayLine 141 = .ok (.iconst 0, 1) := by decide +kernel
theorem dX12_dayLine_142 : decode cX12_dayLine 142 = .ok (.iaload, 1) := by decide +kernel
theorem dX12_dayLine_143 : decode cX12_dayLine 143 = .ok (.istore 6, 2) := by decide +kernel
theorem dX12_dayLine_145 : decode cX12_dayLine 145 = .ok (.iconst 0, 1) := by decide +kernel
theorem dX12_dayLine_146 : decode cX12_dayLine 146 = .ok (.istore 7, 2) := by decide +kernel
theorem dX12_dayLine_148 : decode cX12_dayLine 148 = .ok (.iload 7, 2) := by decide +kernel
theorem dX12_dayLine_150 : decode cX12_dayLine 150 = .ok (.iconst 4, 1) := by decide +kernel
theorem dX12_dayLine_151 : decode cX12_dayLine 151 = .ok (.if_icmp .ge 37, 3) := by decide +kernel
theorem dX12_dayLine_154 : decode cX12_dayLine 154 = .ok (.iload 6, 2) := by decide +kernel
theorem dX12_dayLine_156 : decode cX12_dayLine 156 = .ok (.bipush 40, 2) := by decide +kernel
theorem dX12_dayLine_158 : decode cX12_dayLine 158 = .ok (.if_icmp .ge 30, 3) := by decide +kernel
theorem dX12_dayLine_161 : decode cX12_dayLine 161 = .ok (.aload_n 0, 1) := by decide +kernel
theorem dX12_dayLine_162 : decode cX12_dayLine 162 = .ok (.getfield 35, 3) := by decide +kernel
theorem dX12_dayLine_165 : decode cX12_dayLine 165 = .ok (.iconst 1, 1) := by decide +kernel
theorem dX12_dayLine_166 : decode cX12_dayLine 166 = .ok (.iconst 4, 1) := by decide +kernel
theorem dX12_dayLine_167 : decode cX12_dayLine 167 = .ok (.iload 6, 2) := by decide +kernel
theorem dX12_dayLine_169 : decode cX12_dayLine 169 = .ok (.imul, 1) := by decide +kernel
theorem dX12_dayLine_170 : decode cX12_dayLine 170 = .ok (.iadd, 1) := by decide +kernel
theorem dX12_dayLine_171 : decode cX12_dayLine 171 = .ok (.iload 7, 2) := by decide +kernel
theorem dX12_dayLine_173 : decode cX12_dayLine 173 = .ok (.iadd, 1) := by decide +kernel
theorem dX12_dayLine_174 : decode cX12_dayLine 174 = .ok (.aload_n 0, 1) := by decide +kernel
theorem dX12_dayLine_175 : decode cX12_dayLine 175 = .ok (.getfield 38, 3) := by decide +kernel
theorem dX12_dayLine_178 : decode cX12_dayLine 178 = .ok (.iload 7, 2) := by decide +kernel
theorem dX12_dayLine_180 : decode cX12_dayLine 180 = .ok (.iaload, 1) := by decide +kernel
theorem dX12_dayLine_181 : decode cX12_dayLine 181 = .ok (.iastore, 1) := by decide +kernel
theorem dX12_dayLine_182 : decode cX12_dayLine 182 = .ok (.iinc 7 1, 3) := by decide +kernel
theorem dX12_dayLine_185 : decode cX12_dayLine 185 = .ok (.goto (-37), 3) := by decide +kernel
theorem dX12_dayLine_188 : decode cX12_dayLine 188 = .ok (.aload_n 0, 1) := by decide +kernel
theorem dX12_dayLine_189 : decode cX12_dayLine 189 = .ok (.getfield 35, 3) := by decide +kernel
theorem dX12_dayLine_192 : decode cX12_dayLine 192 = .ok (.iconst 0, 1) := by decide +kernel
theorem dX12_dayLine_193 : decode cX12_dayLine 193 = .ok (.bipush 40, 2) := by decide +kernel
theorem dX12_dayLine_195 : decode cX12_dayLine 195 = .ok (.iload 6, 2) := by decide +kernel
theorem dX12_dayLine_197 : decode cX12_dayLine 197 = .ok (.iconst 1, 1) := by decide +kernel
theorem dX12_dayLine_198 : decode cX12_dayLine 198 = .ok (.iadd, 1) := by decide +kernel
theorem dX12_dayLine_199 : decode cX12_dayLine 199 = .ok (.invokestatic 209, 3) := by decide +kernel
theorem dX12_dayLine_202 : decode cX12_dayLine 202 = .ok (.iastore, 1) := by decide +kernel
theorem dX12_dayLine_203 : decode cX12_dayLine 203 = .ok (.iconst 1, 1) := by decide +kernel
theorem dX12_dayLine_204 : decode cX12_dayLine 204 = .ok (.ireturn, 1) := by decide +kernel
theorem dX12_logLine_0 : decode cX12_logLine 0 = .ok (.lload_n 1, 1) := by decide +kernel
theorem dX12_logLine_1 : decode cX12_logLine 1 = .ok (.ldc2_w 212, 3) := by decide +kernel
theorem dX12_logLine_4 : decode cX12_logLine 4 = .ok (.lcmp, 1) := by decide +kernel
theorem dX12_logLine_5 : decode cX12_logLine 5 = .ok (.ifCond .eq 24, 3) := by decide +kernel
theorem dX12_logLine_8 : decode cX12_logLine 8 = .ok (.lload_n 1, 1) := by decide +kernel
theorem dX12_logLine_9 : decode cX12_logLine 9 = .ok (.ldc2_w 214, 3) := by decide +kernel
theorem dX12_logLine_12 : decode cX12_logLine 12 = .ok (.lcmp, 1) := by decide +kernel
theorem dX12_logLine_13 : decode cX12_logLine 13 = .ok (.ifCond .eq 16, 3) := by decide +kernel
theorem dX12_logLine_16 : decode cX12_logLine 16 = .ok (.lload_n 1, 1) := by decide +kernel
theorem dX12_logLine_17 : decode cX12_logLine 17 = .ok (.ldc2_w 216, 3) := by decide +kernel
theorem dX12_logLine_20 : decode cX12_logLine 20 = .ok (.lcmp, 1) := by decide +kernel
theorem dX12_logLine_21 : decode cX12_logLine 21 = .ok (.ifCond .eq 8, 3) := by decide +kernel
theorem dX12_logLine_24 : decode cX12_logLine 24 = .ok (.aload_n 0, 1) := by decide +kernel
theorem dX12_logLine_25 : decode cX12_logLine 25 = .ok (.invokevirtual 124, 3) := by decide +kernel
theorem dX12_logLine_28 : decode cX12_logLine 28 = .ok (.ireturn, 1) := by decide +kernel
theorem dX12_logLine_29 : decode cX12_logLine 29 = .ok (.lload_n 1, 1) := by decide +kernel
theorem dX12_logLine_30 : decode cX12_logLine 30 = .ok (.ldc2_w 212, 3) := by decide +kernel
theorem dX12_logLine_33 : decode cX12_logLine 33 = .ok (.lcmp, 1) := by decide +kernel
theorem dX12_logLine_34 : decode cX12_logLine 34 = .ok (.ifCond .eq 11, 3) := by decide +kernel
theorem dX12_logLine_37 : decode cX12_logLine 37 = .ok (.aload_n 0, 1) := by decide +kernel
theorem dX12_logLine_38 : decode cX12_logLine 38 = .ok (.iconst 1, 1) := by decide +kernel
theorem dX12_logLine_39 : decode cX12_logLine 39 = .ok (.bipush 8, 2) := by decide +kernel
theorem dX12_logLine_41 : decode cX12_logLine 41 = .ok (.iload_n 3, 1) := by decide +kernel
theorem dX12_logLine_42 : decode cX12_logLine 42 = .ok (.invokevirtual 142, 3) := by decide +kernel
theorem dX12_logLine_45 : decode cX12_logLine 45 = .ok (.aload_n 0, 1) := by decide +kernel
theorem dX12_logLine_46 : decode cX12_logLine 46 = .ok (.invokevirtual 136, 3) := by decide +kernel
theorem dX12_logLine_49 : decode cX12_logLine 49 = .ok (.aload_n 0, 1) := by decide +kernel
theorem dX12_logLine_50 : decode cX12_logLine 50 = .ok (.iconst 1, 1) := by decide +kernel
theorem dX12_logLine_51 : decode cX12_logLine 51 = .ok (.iconst 0, 1) := by decide +kernel
theorem dX12_logLine_52 : decode cX12_logLine 52 = .ok (.lload_n 1, 1) := by decide +kernel
theorem dX12_logLine_53 : decode cX12_logLine 53 = .ok (.ldc2_w 212, 3) := by decide +kernel
theorem dX12_logLine_56 : decode cX12_logLine 56 = .ok (.lcmp, 1) := by decide +kernel
theorem dX12_logLine_57 : decode cX12_logLine 57 = .ok (.ifCond .ne 8, 3) := by decide +kernel
theorem dX12_logLine_60 : decode cX12_logLine 60 = .ok (.bipush 8, 2) := by decide +kernel
theorem dX12_logLine_62 : decode cX12_logLine 62 = .ok (.goto 5, 3) := by decide +kernel
theorem dX12_logLine_65 : decode cX12_logLine 65 = .ok (.bipush 63, 2) := by decide +kernel
theorem dX12_logLine_67 : decode cX12_logLine 67 = .ok (.invokevirtual 139, 3) := by decide +kernel
theorem dX12_logLine_70 : decode cX12_logLine 70 = .ok (.ifCond .ne 5, 3) := by decide +kernel
theorem dX12_logLine_73 : decode cX12_logLine 73 = .ok (.iconst 0, 1) := by decide +kernel
theorem dX12_logLine_74 : decode cX12_logLine 74 = .ok (.ireturn, 1) := by decide +kernel
theorem dX12_logLine_75 : decode cX12_logLine 75 = .ok (.aload_n 0, 1) := by decide +kernel
theorem dX12_logLine_76 : decode cX12_logLine 76 = .ok (.getfield 35, 3) := by decide +kernel
theorem dX12_logLine_79 : decode cX12_logLine 79 = .ok (.iconst 1, 1) := by decide +kernel
theorem dX12_logLine_80 : decode cX12_logLine 80 = .ok (.iaload, 1) := by decide +kernel
theorem dX12_logLine_81 : decode cX12_logLine 81 = .ok (.istore 4, 2) := by decide +kernel
theorem dX12_logLine_83 : decode cX12_logLine 83 = .ok (.lload_n 1, 1) := by decide +kernel
theorem dX12_logLine_84 : decode cX12_logLine 84 = .ok (.ldc2_w 212, 3) := by decide +kernel
theorem dX12_logLine_87 : decode cX12_logLine 87 = .ok (.lcmp, 1) := by decide +kernel
theorem dX12_logLine_88 : decode cX12_logLine 88 = .ok (.ifCond .ne 34, 3) := by decide +kernel
theorem dX12_logLine_91 : decode cX12_logLine 91 = .ok (.aload_n 0, 1) := by decide +kernel
theorem dX12_logLine_92 : decode cX12_logLine 92 = .ok (.getfield 35, 3) := by decide +kernel
theorem dX12_logLine_95 : decode cX12_logLine 95 = .ok (.iconst 0, 1) := by decide +kernel
theorem dX12_logLine_96 : decode cX12_logLine 96 = .ok (.aload_n 0, 1) := by decide +kernel
theorem dX12_logLine_97 : decode cX12_logLine 97 = .ok (.getfield 132, 3) := by decide +kernel
theorem dX12_logLine_100 : decode cX12_logLine 100 = .ok (.ifCond .eq 12, 3) := by decide +kernel
theorem dX12_logLine_103 : decode cX12_logLine 103 = .ok (.aload_n 0, 1) := by decide +kernel
theorem dX12_logLine_104 : decode cX12_logLine 104 = .ok (.getfield 38, 3) := by decide +kernel
theorem dX12_logLine_107 : decode cX12_logLine 107 = .ok (.iconst 1, 1) := by decide +kernel
theorem dX12_logLine_108 : decode cX12_logLine 108 = .ok (.iaload, 1) := by decide +kernel
theorem dX12_logLine_109 : decode cX12_logLine 109 = .ok (.goto 9, 3) := by decide +kernel
theorem dX12_logLine_112 : decode cX12_logLine 112 = .ok (.aload_n 0, 1) := by decide +kernel
theorem dX12_logLine_113 : decode cX12_logLine 113 = .ok (.getfield 35, 3) := by decide +kernel
theorem dX12_logLine_116 : decode cX12_logLine 116 = .ok (.iconst 0, 1) := by decide +kernel
theorem dX12_logLine_117 : decode cX12_logLine 117 = .ok (.iaload, 1) := by decide +kernel
theorem dX12_logLine_118 : decode cX12_logLine 118 = .ok (.iastore, 1) := by decide +kernel
theorem dX12_logLine_119 : decode cX12_logLine 119 = .ok (.goto 61, 3) := by decide +kernel
theorem dX12_logLine_122 : decode cX12_logLine 122 = .ok (.iload 4, 2) := by decide +kernel
theorem dX12_logLine_124 : decode cX12_logLine 124 = .ok (.bipush 8, 2) := by decide +kernel
theorem dX12_logLine_126 : decode cX12_logLine 126 = .ok (.if_icmp .ge 54, 3) := by decide +kernel
theorem dX12_logLine_129 : decode cX12_logLine 129 = .ok (.aload_n 0, 1) := by decide +kernel
theorem dX12_logLine_130 : decode cX12_logLine 130 = .ok (.getfield 35, 3) := by decide +kernel
theorem dX12_logLine_133 : decode cX12_logLine 133 = .ok (.iconst 2, 1) := by decide +kernel
theorem dX12_logLine_134 : decode cX12_logLine 134 = .ok (.iconst 2, 1) := by decide +kernel
theorem dX12_logLine_135 : decode cX12_logLine 135 = .ok (.iload 4, 2) := by decide +kernel
theorem dX12_logLine_137 : decode cX12_logLine 137 = .ok (.imul, 1) := by decide +kernel
theorem dX12_logLine_138 : decode cX12_logLine 138 = .ok (.iadd, 1) := by decide +kernel
theorem dX12_logLine_139 : decode cX12_logLine 139 = .ok (.lload_n 1, 1) := by decide +kernel
theorem dX12_logLine_140 : decode cX12_logLine 140 = .ok (.ldc2_w 214, 3) := by decide +kernel
theorem dX12_logLine_143 : decode cX12_logLine 143 = .ok (.lcmp, 1) := by decide +kernel
theorem dX12_logLine_144 : decode cX12_logLine 144 = .ok (.ifCond .ne 7, 3) := by decide +kernel
theorem dX12_logLine_147 : decode cX12_logLine 147 = .ok (.iconst 1, 1) := by decide +kernel
theorem dX12_logLine_148 : decode cX12_logLine 148 = .ok (.goto 4, 3) := by decide +kernel
theorem dX12_logLine_151 : decode cX12_logLine 151 = .ok (.iconst 0, 1) := by decide +kernel
