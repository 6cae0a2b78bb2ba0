theorem dX2_init_0 : decode cX2_init 0 = .ok (.aload_n 0, 1) := by decide +kernel
theorem dX2_init_1 : decode cX2_init 1 = .ok (.invokespecial 3, 3) := by decide +kernel
theorem dX2_init_4 : decode cX2_init 4 = .ok (.aload_n 0, 1) := by decide +kernel
theorem dX2_init_5 : decode cX2_init 5 = .ok (.bipush 18, 2) := by decide +kernel
theorem dX2_init_7 : decode cX2_init 7 = .ok (.newarray .int, 2) := by decide +kernel
theorem dX2_init_9 : decode cX2_init 9 = .ok (.putfield 9, 3) := by decide +kernel
theorem dX2_init_12 : decode cX2_init 12 = .ok (.aload_n 0, 1) := by decide +kernel
theorem dX2_init_13 : decode cX2_init 13 = .ok (.bipush 16, 2) := by decide +kernel
theorem dX2_init_15 : decode cX2_init 15 = .ok (.newarray .int, 2) := by decide +kernel
theorem dX2_init_17 : decode cX2_init 17 = .ok (.putfield 15, 3) := by decide +kernel
theorem dX2_init_20 : decode cX2_init 20 = .ok (.aload_n 0, 1) := by decide +kernel
theorem dX2_init_21 : decode cX2_init 21 = .ok (.bipush 48, 2) := by decide +kernel
theorem dX2_init_23 : decode cX2_init 23 = .ok (.newarray .int, 2) := by decide +kernel
theorem dX2_init_25 : decode cX2_init 25 = .ok (.putfield 18, 3) := by decide +kernel
theorem dX2_init_28 : decode cX2_init 28 = .ok (.aload_n 0, 1) := by decide +kernel
theorem dX2_init_29 : decode cX2_init 29 = .ok (.bipush 12, 2) := by decide +kernel
theorem dX2_init_31 : decode cX2_init 31 = .ok (.newarray .int, 2) := by decide +kernel
theorem dX2_init_33 : decode cX2_init 33 = .ok (.putfield 21, 3) := by decide +kernel
theorem dX2_init_36 : decode cX2_init 36 = .ok (.aload_n 0, 1) := by decide +kernel
theorem dX2_init_37 : decode cX2_init 37 = .ok (.bipush 24, 2) := by decide +kernel
theorem dX2_init_39 : decode cX2_init 39 = .ok (.newarray .int, 2) := by decide +kernel
theorem dX2_init_41 : decode cX2_init 41 = .ok (.putfield 24, 3) := by decide +kernel
theorem dX2_init_44 : decode cX2_init 44 = .ok (.return_, 1) := by decide +kernel
theorem dX2_clear_0 : decode cX2_clear 0 = .ok (.aload_n 0, 1) := by decide +kernel
theorem dX2_clear_1 : decode cX2_clear 1 = .ok (.iconst 5, 1) := by decide +kernel
theorem dX2_clear_2 : decode cX2_clear 2 = .ok (.putfield 27, 3) := by decide +kernel
theorem dX2_clear_5 : decode cX2_clear 5 = .ok (.aload_n 0, 1) := by decide +kernel
theorem dX2_clear_6 : decode cX2_clear 6 = .ok (.iconst 5, 1) := by decide +kernel
theorem dX2_clear_7 : decode cX2_clear 7 = .ok (.putfield 31, 3) := by decide +kernel
theorem dX2_clear_10 : decode cX2_clear 10 = .ok (.aload_n 0, 1) := by decide +kernel
theorem dX2_clear_11 : decode cX2_clear 11 = .ok (.iconst 0, 1) := by decide +kernel
theorem dX2_clear_12 : decode cX2_clear 12 = .ok (.putfield 34, 3) := by decide +kernel
theorem dX2_clear_15 : decode cX2_clear 15 = .ok (.aload_n 0, 1) := by decide +kernel
theorem dX2_clear_16 : decode cX2_clear 16 = .ok (.iconst 0, 1) := by decide +kernel
theorem dX2_clear_17 : decode cX2_clear 17 = .ok (.putfield 37, 3) := by decide +kernel
theorem dX2_clear_20 : decode cX2_clear 20 = .ok (.aload_n 0, 1) := by decide +kernel
theorem dX2_clear_21 : decode cX2_clear 21 = .ok (.iconst 0, 1) := by decide +kernel
theorem dX2_clear_22 : decode cX2_clear 22 = .ok (.putfield 40, 3) := by decide +kernel
theorem dX2_clear_25 : decode cX2_clear 25 = .ok (.aload_n 0, 1) := by decide +kernel
theorem dX2_clear_26 : decode cX2_clear 26 = .ok (.iconst 0, 1) := by decide +kernel
theorem dX2_clear_27 : decode cX2_clear 27 = .ok (.putfield 43, 3) := by decide +kernel
theorem dX2_clear_30 : decode cX2_clear 30 = .ok (.aload_n 0, 1) := by decide +kernel
theorem dX2_clear_31 : decode cX2_clear 31 = .ok (.iconst 0, 1) := by decide +kernel
theorem dX2_clear_32 : decode cX2_clear 32 = .ok (.putfield 46, 3) := by decide +kernel
theorem dX2_clear_35 : decode cX2_clear 35 = .ok (.aload_n 0, 1) := by decide +kernel
theorem dX2_clear_36 : decode cX2_clear 36 = .ok (.getfield 18, 3) := by decide +kernel
theorem dX2_clear_39 : decode cX2_clear 39 = .ok (.iconst 0, 1) := by decide +kernel
theorem dX2_clear_40 : decode cX2_clear 40 = .ok (.invokestatic 49, 3) := by decide +kernel
theorem dX2_clear_43 : decode cX2_clear 43 = .ok (.return_, 1) := by decide +kernel
theorem dX2_copyFrom_0 : decode cX2_copyFrom 0 = .ok (.aload_n 0, 1) := by decide +kernel
theorem dX2_copyFrom_1 : decode cX2_copyFrom 1 = .ok (.aload_n 1, 1) := by decide +kernel
theorem dX2_copyFrom_2 : decode cX2_copyFrom 2 = .ok (.getfield 27, 3) := by decide +kernel
theorem dX2_copyFrom_5 : decode cX2_copyFrom 5 = .ok (.putfield 27, 3) := by decide +kernel
theorem dX2_copyFrom_8 : decode cX2_copyFrom 8 = .ok (.aload_n 0, 1) := by decide +kernel
theorem dX2_copyFrom_9 : decode cX2_copyFrom 9 = .ok (.aload_n 1, 1) := by decide +kernel
theorem dX2_copyFrom_10 : decode cX2_copyFrom 10 = .ok (.getfield 31, 3) := by decide +kernel
theorem dX2_copyFrom_13 : decode cX2_copyFrom 13 = .ok (.putfield 31, 3) := by decide +kernel
theorem dX2_copyFrom_16 : decode cX2_copyFrom 16 = .ok (.aload_n 0, 1) := by decide +kernel
theorem dX2_copyFrom_17 : decode cX2_copyFrom 17 = .ok (.aload_n 1, 1) := by decide +kernel
theorem dX2_copyFrom_18 : decode cX2_copyFrom 18 = .ok (.getfield 34, 3) := by decide +kernel
theorem dX2_copyFrom_21 : decode cX2_copyFrom 21 = .ok (.putfield 34, 3) := by decide +kernel
theorem dX2_copyFrom_24 : decode cX2_copyFrom 24 = .ok (.aload_n 0, 1) := by decide +kernel
theorem dX2_copyFrom_25 : decode cX2_copyFrom 25 = .ok (.aload_n 1, 1) := by decide +kernel
theorem dX2_copyFrom_26 : decode cX2_copyFrom 26 = .ok (.getfield 37, 3) := by decide +kernel
theorem dX2_copyFrom_29 : decode cX2_copyFrom 29 = .ok (.putfield 37, 3) := by decide +kernel
theorem dX2_copyFrom_32 : decode cX2_copyFrom 32 = .ok (.aload_n 0, 1) := by decide +kernel
theorem dX2_copyFrom_33 : decode cX2_copyFrom 33 = .ok (.aload_n 1, 1) := by decide +kernel
theorem dX2_copyFrom_34 : decode cX2_copyFrom 34 = .ok (.getfield 40, 3) := by decide +kernel
theorem dX2_copyFrom_37 : decode cX2_copyFrom 37 = .ok (.putfield 40, 3) := by decide +kernel
theorem dX2_copyFrom_40 : decode cX2_copyFrom 40 = .ok (.aload_n 0, 1) := by decide +kernel
theorem dX2_copyFrom_41 : decode cX2_copyFrom 41 = .ok (.aload_n 1, 1) := by decide +kernel
theorem dX2_copyFrom_42 : decode cX2_copyFrom 42 = .ok (.getfield 43, 3) := by decide +kernel
theorem dX2_copyFrom_45 : decode cX2_copyFrom 45 = .ok (.putfield 43, 3) := by decide +kernel
theorem dX2_copyFrom_48 : decode cX2_copyFrom 48 = .ok (.aload_n 0, 1) := by decide +kernel
theorem dX2_copyFrom_49 : decode cX2_copyFrom 49 = .ok (.aload_n 1, 1) := by decide +kernel
theorem dX2_copyFrom_50 : decode cX2_copyFrom 50 = .ok (.getfield 46, 3) := by decide +kernel
theorem dX2_copyFrom_53 : decode cX2_copyFrom 53 = .ok (.putfield 46, 3) := by decide +kernel
theorem dX2_copyFrom_56 : decode cX2_copyFrom 56 = .ok (.aload_n 1, 1) := by decide +kernel
theorem dX2_copyFrom_57 : decode cX2_copyFrom 57 = .ok (.getfield 9, 3) := by decide +kernel
theorem dX2_copyFrom_60 : decode cX2_copyFrom 60 = .ok (.iconst 0, 1) := by decide +kernel
theorem dX2_copyFrom_61 : decode cX2_copyFrom 61 = .ok (.aload_n 0, 1) := by decide +kernel
theorem dX2_copyFrom_62 : decode cX2_copyFrom 62 = .ok (.getfield 9, 3) := by decide +kernel
theorem dX2_copyFrom_65 : decode cX2_copyFrom 65 = .ok (.iconst 0, 1) := by decide +kernel
theorem dX2_copyFrom_66 : decode cX2_copyFrom 66 = .ok (.aload_n 0, 1) := by decide +kernel
theorem dX2_copyFrom_67 : decode cX2_copyFrom 67 = .ok (.getfield 9, 3) := by decide +kernel
theorem dX2_copyFrom_70 : decode cX2_copyFrom 70 = .ok (.arraylength, 1) := by decide +kernel
theorem dX2_copyFrom_71 : decode cX2_copyFrom 71 = .ok (.invokestatic 55, 3) := by decide +kernel
theorem dX2_copyFrom_74 : decode cX2_copyFrom 74 = .ok (.aload_n 1, 1) := by decide +kernel
theorem dX2_copyFrom_75 : decode cX2_copyFrom 75 = .ok (.getfield 15, 3) := by decide +kernel
theorem dX2_copyFrom_78 : decode cX2_copyFrom 78 = .ok (.iconst 0, 1) := by decide +kernel
theorem dX2_copyFrom_79 : decode cX2_copyFrom 79 = .ok (.aload_n 0, 1) := by decide +kernel
theorem dX2_copyFrom_80 : decode cX2_copyFrom 80 = .ok (.getfield 15, 3) := by decide +kernel
theorem dX2_copyFrom_83 : decode cX2_copyFrom 83 = .ok (.iconst 0, 1) := by decide +kernel
theorem dX2_copyFrom_84 : decode cX2_copyFrom 84 = .ok (.aload_n 0, 1) := by decide +kernel
theorem dX2_copyFrom_85 : decode cX2_copyFrom 85 = .ok (.getfield 15, 3) := by decide +kernel
theorem dX2_copyFrom_88 : decode cX2_copyFrom 88 = .ok (.arraylength, 1) := by decide +kernel
theorem dX2_copyFrom_89 : decode cX2_copyFrom 89 = .ok (.invokestatic 55, 3) := by decide +kernel
theorem dX2_copyFrom_92 : decode cX2_copyFrom 92 = .ok (.aload_n 1, 1) := by decide +kernel
theorem dX2_copyFrom_93 : decode cX2_copyFrom 93 = .ok (.getfield 18, 3) := by decide +kernel
theorem dX2_copyFrom_96 : decode cX2_copyFrom 96 = .ok (.iconst 0, 1) := by decide +kernel
theorem dX2_copyFrom_97 : decode cX2_copyFrom 97 = .ok (.aload_n 0, 1) := by decide +kernel
theorem dX2_copyFrom_98 : decode cX2_copyFrom 98 = .ok (.getfield 18, 3) := by decide +kernel
theorem dX2_copyFrom_101 : decode cX2_copyFrom 101 = .ok (.iconst 0, 1) := by decide +kernel
theorem dX2_copyFrom_102 : decode cX2_copyFrom 102 = .ok (.aload_n 0, 1) := by decide +kernel
theorem dX2_copyFrom_103 : decode cX2_copyFrom 103 = .ok (.getfield 18, 3) := by decide +kernel
theorem dX2_copyFrom_106 : decode cX2_copyFrom 106 = .ok (.arraylength, 1) := by decide +kernel
theorem dX2_copyFrom_107 : decode cX2_copyFrom 107 = .ok (.invokestatic 55, 3) := by decide +kernel
theorem dX2_copyFrom_110 : decode cX2_copyFrom 110 = .ok (.aload_n 1, 1) := by decide +kernel
theorem dX2_copyFrom_111 : decode cX2_copyFrom 111 = .ok (.getfield 21, 3) := by decide +kernel
theorem dX2_copyFrom_114 : decode cX2_copyFrom 114 = .ok (.iconst 0, 1) := by decide +kernel
theorem dX2_copyFrom_115 : decode cX2_copyFrom 115 = .ok (.aload_n 0, 1) := by decide +kernel
theorem dX2_copyFrom_116 : decode cX2_copyFrom 116 = .ok (.getfield 21, 3) := by decide +kernel
theorem dX2_copyFrom_119 : decode cX2_copyFrom 119 = .ok (.iconst 0, 1) := by decide +kernel
theorem dX2_copyFrom_120 : decode cX2_copyFrom 120 = .ok (.aload_n 0, 1) := by decide +kernel
theorem dX2_copyFrom_121 : decode cX2_copyFrom 121 = .ok (.getfield 21, 3) := by decide +kernel
theorem dX2_copyFrom_124 : decode cX2_copyFrom 124 = .ok (.arraylength, 1) := by decide +kernel
theorem dX2_copyFrom_125 : decode cX2_copyFrom 125 = .ok (.invokestatic 55, 3) := by decide +kernel
theorem dX2_copyFrom_128 : decode cX2_copyFrom 128 = .ok (.aload_n 1, 1) := by decide +kernel
theorem dX2_copyFrom_129 : decode cX2_copyFrom 129 = .ok (.getfield 24, 3) := by decide +kernel
theorem dX2_copyFrom_132 : decode cX2_copyFrom 132 = .ok (.iconst 0, 1) := by decide +kernel
theorem dX2_copyFrom_133 : decode cX2_copyFrom 133 = .ok (.aload_n 0, 1) := by decide +kernel
theorem dX2_copyFrom_134 : decode cX2_copyFrom 134 = .ok (.getfield 24, 3) := by decide +kernel
theorem dX2_copyFrom_137 : decode cX2_copyFrom 137 = .ok (.iconst 0, 1) := by decide +kernel
theorem dX2_copyFrom_138 : decode cX2_copyFrom 138 = .ok (.aload_n 0, 1) := by decide +kernel
theorem dX2_copyFrom_139 : decode cX2_copyFrom 139 = .ok (.getfield 24, 3) := by decide +kernel
theorem dX2_copyFrom_142 : decode cX2_copyFrom 142 = .ok (.arraylength, 1) := by decide +kernel
theorem dX2_copyFrom_143 : decode cX2_copyFrom 143 = .ok (.invokestatic 55, 3) := by decide +kernel
theorem dX2_copyFrom_146 : decode cX2_copyFrom 146 = .ok (.return_, 1) := by decide +kernel
theorem dX2_tell_0 : decode cX2_tell 0 = .ok (.iload_n 1, 1) := by decide +kernel
theorem dX2_tell_1 : decode cX2_tell 1 = .ok (.ifCond .ge 5, 3) := by decide +kernel
theorem dX2_tell_4 : decode cX2_tell 4 = .ok (.iconst (-1), 1) := by decide +kernel
theorem dX2_tell_5 : decode cX2_tell 5 = .ok (.ireturn, 1) := by decide +kernel
theorem dX2_tell_6 : decode cX2_tell 6 = .ok (.iload_n 1, 1) := by decide +kernel
theorem dX2_tell_7 : decode cX2_tell 7 = .ok (.bipush 10, 2) := by decide +kernel
theorem dX2_tell_9 : decode cX2_tell 9 = .ok (.idiv, 1) := by decide +kernel
theorem dX2_tell_10 : decode cX2_tell 10 = .ok (.istore_n 2, 1) := by decide +kernel
theorem dX2_tell_11 : decode cX2_tell 11 = .ok (.iload_n 1, 1) := by decide +kernel
theorem dX2_tell_12 : decode cX2_tell 12 = .ok (.bipush 10, 2) := by decide +kernel
theorem dX2_tell_14 : decode cX2_tell 14 = .ok (.irem, 1) := by decide +kernel
theorem dX2_tell_15 : decode cX2_tell 15 = .ok (.istore_n 3, 1) := by decide +kernel
theorem dX2_tell_16 : decode cX2_tell 16 = .ok (.iload_n 2, 1) := by decide +kernel
theorem dX2_tell_17 : decode cX2_tell 17 = .ok (.ifCond .ne 9, 3) := by decide +kernel
theorem dX2_tell_20 : decode cX2_tell 20 = .ok (.aload_n 0, 1) := by decide +kernel
theorem dX2_tell_21 : decode cX2_tell 21 = .ok (.iload_n 3, 1) := by decide +kernel
theorem dX2_tell_22 : decode cX2_tell 22 = .ok (.invokevirtual 61, 3) := by decide +kernel
theorem dX2_tell_25 : decode cX2_tell 25 = .ok (.ireturn, 1) := by decide +kernel
theorem dX2_tell_26 : decode cX2_tell 26 = .ok (.iload_n 2, 1) := by decide +kernel
theorem dX2_tell_27 : decode cX2_tell 27 = .ok (.bipush 10, 2) := by decide +kernel
theorem dX2_tell_29 : decode cX2_tell 29 = .ok (.if_icmp .ge 10, 3) := by decide +kernel
theorem dX2_tell_32 : decode cX2_tell 32 = .ok (.aload_n 0, 1) := by decide +kernel
theorem dX2_tell_33 : decode cX2_tell 33 = .ok (.iload_n 2, 1) := by decide +kernel
theorem dX2_tell_34 : decode cX2_tell 34 = .ok (.iload_n 3, 1) := by decide +kernel
theorem dX2_tell_35 : decode cX2_tell 35 = .ok (.invokevirtual 65, 3) := by decide +kernel
theorem dX2_tell_38 : decode cX2_tell 38 = .ok (.ireturn, 1) := by decide +kernel
theorem dX2_tell_39 : decode cX2_tell 39 = .ok (.iload_n 2, 1) := by decide +kernel
theorem dX2_tell_40 : decode cX2_tell 40 = .ok (.bipush 20, 2) := by decide +kernel
theorem dX2_tell_42 : decode cX2_tell 42 = .ok (.if_icmp .ge 34, 3) := by decide +kernel
theorem dX2_tell_45 : decode cX2_tell 45 = .ok (.aload_n 0, 1) := by decide +kernel
theorem dX2_tell_46 : decode cX2_tell 46 = .ok (.iload_n 2, 1) := by decide +kernel
theorem dX2_tell_47 : decode cX2_tell 47 = .ok (.bipush 10, 2) := by decide +kernel
theorem dX2_tell_49 : decode cX2_tell 49 = .ok (.isub, 1) := by decide +kernel
theorem dX2_tell_50 : decode cX2_tell 50 = .ok (.invokevirtual 69, 3) := by decide +kernel
theorem dX2_tell_53 : decode cX2_tell 53 = .ok (.ifCond .eq 21, 3) := by decide +kernel
theorem dX2_tell_56 : decode cX2_tell 56 = .ok (.iload_n 3, 1) := by decide +kernel
theorem dX2_tell_57 : decode cX2_tell 57 = .ok (.bipush 6, 2) := by decide +kernel
theorem dX2_tell_59 : decode cX2_tell 59 = .ok (.if_icmp .ge 15, 3) := by decide +kernel
theorem dX2_tell_62 : decode cX2_tell 62 = .ok (.aload_n 0, 1) := by decide +kernel
theorem dX2_tell_63 : decode cX2_tell 63 = .ok (.iload_n 2, 1) := by decide +kernel
theorem dX2_tell_64 : decode cX2_tell 64 = .ok (.bipush 10, 2) := by decide +kernel
theorem dX2_tell_66 : decode cX2_tell 66 = .ok (.isub, 1) := by decide +kernel
theorem dX2_tell_67 : decode cX2_tell 67 = .ok (.iload_n 3, 1) := by decide +kernel
theorem dX2_tell_68 : decode cX2_tell 68 = .ok (.invokevirtual 73, 3) := by decide +kernel
theorem dX2_tell_71 : decode cX2_tell 71 = .ok (.goto 4, 3) := by decide +kernel
theorem dX2_tell_74 : decode cX2_tell 74 = .ok (.iconst (-1), 1) := by decide +kernel
theorem dX2_tell_75 : decode cX2_tell 75 = .ok (.ireturn, 1) := by decide +kernel
theorem dX2_tell_76 : decode cX2_tell 76 = .ok (.iload_n 2, 1) := by decide +kernel
theorem dX2_tell_77 : decode cX2_tell 77 = .ok (.bipush 20, 2) := by decide +kernel
theorem dX2_tell_79 : decode cX2_tell 79 = .ok (.isub, 1) := by decide +kernel
theorem dX2_tell_80 : decode cX2_tell 80 = .ok (.aload_n 0, 1) := by decide +kernel
theorem dX2_tell_81 : decode cX2_tell 81 = .ok (.getfield 46, 3) := by decide +kernel
theorem dX2_tell_84 : decode cX2_tell 84 = .ok (.if_icmp .ge 26, 3) := by decide +kernel
theorem dX2_tell_87 : decode cX2_tell 87 = .ok (.iload_n 3, 1) := by decide +kernel
theorem dX2_tell_88 : decode cX2_tell 88 = .ok (.iconst 4, 1) := by decide +kernel
theorem dX2_tell_89 : decode cX2_tell 89 = .ok (.if_icmp .ge 21, 3) := by decide +kernel
theorem dX2_tell_92 : decode cX2_tell 92 = .ok (.aload_n 0, 1) := by decide +kernel
theorem dX2_tell_93 : decode cX2_tell 93 = .ok (.getfield 24, 3) := by decide +kernel
theorem dX2_tell_96 : decode cX2_tell 96 = .ok (.iconst 4, 1) := by decide +kernel
theorem dX2_tell_97 : decode cX2_tell 97 = .ok (.iload_n 2, 1) := by decide +kernel
theorem dX2_tell_98 : decode cX2_tell 98 = .ok (.bipush 20, 2) := by decide +kernel
theorem dX2_tell_100 : decode cX2_tell 100 = .ok (.isub, 1) := by decide +kernel
theorem dX2_tell_101 : decode cX2_tell 101 = .ok (.imul, 1) := by decide +kernel
theorem dX2_tell_102 : decode cX2_tell 102 = .ok (.iload_n 3, 1) := by decide +kernel
theorem dX2_tell_103 : decode cX2_tell 103 = .ok (.iadd, 1) := by decide +kernel
theorem dX2_tell_104 : decode cX2_tell 104 = .ok (.invokestatic 76, 3) := by decide +kernel
theorem dX2_tell_107 : decode cX2_tell 107 = .ok (.goto 4, 3) := by decide +kernel
theorem dX2_tell_110 : decode cX2_tell 110 = .ok (.iconst (-1), 1) := by decide +kernel
theorem dX2_tell_111 : decode cX2_tell 111 = .ok (.ireturn, 1) := by decide +kernel
theorem dX2_tellWhole_0 : decode cX2_tellWhole 0 = .ok (.iload_n 1, 1) := by decide +kernel
theorem dX2_tellWhole_1 : decode cX2_tellWhole 1 = .ok (.tableswitch 78 0 6 #[43, 48, 53, 58, 63, 68, 73], 43) := by decide +kernel
theorem dX2_tellWhole_44 : decode cX2_tellWhole 44 = .ok (.aload_n 0, 1) := by decide +kernel
theorem dX2_tellWhole_45 : decode cX2_tellWhole 45 = .ok (.getfield 27, 3) := by decide +kernel
theorem dX2_tellWhole_48 : decode cX2_tellWhole 48 = .ok (.ireturn, 1) := by decide +kernel
theorem dX2_tellWhole_49 : decode cX2_tellWhole 49 = .ok (.aload_n 0, 1) := by decide +kernel
theorem dX2_tellWhole_50 : decode cX2_tellWhole 50 = .ok (.getfield 31, 3) := by decide +kernel
theorem dX2_tellWhole_53 : decode cX2_tellWhole 53 = .ok (.ireturn, 1) := by decide +kernel
theorem dX2_tellWhole_54 : decode cX2_tellWhole 54 = .ok (.aload_n 0, 1) := by decide +kernel
theorem dX2_tellWhole_55 : decode cX2_tellWhole 55 = .ok (.getfield 34, 3) := by decide +kernel
theorem dX2_tellWhole_58 : decode cX2_tellWhole 58 = .ok (.ireturn, 1) := by decide +kernel
theorem dX2_tellWhole_59 : decode cX2_tellWhole 59 = .ok (.aload_n 0, 1) := by decide +kernel
theorem dX2_tellWhole_60 : decode cX2_tellWhole 60 = .ok (.getfield 37, 3) := by decide +kernel
theorem dX2_tellWhole_63 : decode cX2_tellWhole 63 = .ok (.ireturn, 1) := by decide +kernel
theorem dX2_tellWhole_64 : decode cX2_tellWhole 64 = .ok (.aload_n 0, 1) := by decide +kernel
theorem dX2_tellWhole_65 : decode cX2_tellWhole 65 = .ok (.getfield 40, 3) := by decide +kernel
theorem dX2_tellWhole_68 : decode cX2_tellWhole 68 = .ok (.ireturn, 1) := by decide +kernel
theorem dX2_tellWhole_69 : decode cX2_tellWhole 69 = .ok (.aload_n 0, 1) := by decide +kernel
theorem dX2_tellWhole_70 : decode cX2_tellWhole 70 = .ok (.getfield 43, 3) := by decide +kernel
theorem dX2_tellWhole_73 : decode cX2_tellWhole 73 = .ok (.ireturn, 1) := by decide +kernel
theorem dX2_tellWhole_74 : decode cX2_tellWhole 74 = .ok (.aload_n 0, 1) := by decide +kernel
theorem dX2_tellWhole_75 : decode cX2_tellWhole 75 = .ok (.getfield 46, 3) := by decide +kernel
theorem dX2_tellWhole_78 : decode cX2_tellWhole 78 = .ok (.ireturn, 1) := by decide +kernel
theorem dX2_tellWhole_79 : decode cX2_tellWhole 79 = .ok (.iconst (-1), 1) := by decide +kernel
theorem dX2_tellWhole_80 : decode cX2_tellWhole 80 = .ok (.ireturn, 1) := by decide +kernel
theorem dX2_tellSingle_0 : decode cX2_tellSingle 0 = .ok (.iload_n 1, 1) := by decide +kernel
theorem dX2_tellSingle_1 : decode cX2_tellSingle 1 = .ok (.iconst 3, 1) := by decide +kernel
theorem dX2_tellSingle_2 : decode cX2_tellSingle 2 = .ok (.if_icmp .gt 30, 3) := by decide +kernel
theorem dX2_tellSingle_5 : decode cX2_tellSingle 5 = .ok (.iload_n 2, 1) := by decide +kernel
theorem dX2_tellSingle_6 : decode cX2_tellSingle 6 = .ok (.aload_n 0, 1) := by decide +kernel
theorem dX2_tellSingle_7 : decode cX2_tellSingle 7 = .ok (.getfield 37, 3) := by decide +kernel
theorem dX2_tellSingle_10 : decode cX2_tellSingle 10 = .ok (.if_icmp .ge 20, 3) := by decide +kernel
theorem dX2_tellSingle_13 : decode cX2_tellSingle 13 = .ok (.aload_n 0, 1) := by decide +kernel
theorem dX2_tellSingle_14 : decode cX2_tellSingle 14 = .ok (.getfield 9, 3) := by decide +kernel
theorem dX2_tellSingle_17 : decode cX2_tellSingle 17 = .ok (.iconst 3, 1) := by decide +kernel
theorem dX2_tellSingle_18 : decode cX2_tellSingle 18 = .ok (.iload_n 2, 1) := by decide +kernel
theorem dX2_tellSingle_19 : decode cX2_tellSingle 19 = .ok (.imul, 1) := by decide +kernel
theorem dX2_tellSingle_20 : decode cX2_tellSingle 20 = .ok (.iload_n 1, 1) := by decide +kernel
theorem dX2_tellSingle_21 : decode cX2_tellSingle 21 = .ok (.iadd, 1) := by decide +kernel
theorem dX2_tellSingle_22 : decode cX2_tellSingle 22 = .ok (.iconst 1, 1) := by decide +kernel
theorem dX2_tellSingle_23 : decode cX2_tellSingle 23 = .ok (.isub, 1) := by decide +kernel
theorem dX2_tellSingle_24 : decode cX2_tellSingle 24 = .ok (.invokestatic 76, 3) := by decide +kernel
theorem dX2_tellSingle_27 : decode cX2_tellSingle 27 = .ok (.goto 4, 3) := by decide +kernel
theorem dX2_tellSingle_30 : decode cX2_tellSingle 30 = .ok (.iconst (-1), 1) := by decide +kernel
theorem dX2_tellSingle_31 : decode cX2_tellSingle 31 = .ok (.ireturn, 1) := by decide +kernel
theorem dX2_tellSingle_32 : decode cX2_tellSingle 32 = .ok (.iload_n 1, 1) := by decide +kernel
theorem dX2_tellSingle_33 : decode cX2_tellSingle 33 = .ok (.iconst 5, 1) := by decide +kernel
theorem dX2_tellSingle_34 : decode cX2_tellSingle 34 = .ok (.if_icmp .gt 30, 3) := by decide +kernel
theorem dX2_tellSingle_37 : decode cX2_tellSingle 37 = .ok (.iload_n 2, 1) := by decide +kernel
theorem dX2_tellSingle_38 : decode cX2_tellSingle 38 = .ok (.aload_n 0, 1) := by decide +kernel
theorem dX2_tellSingle_39 : decode cX2_tellSingle 39 = .ok (.getfield 40, 3) := by decide +kernel
theorem dX2_tellSingle_42 : decode cX2_tellSingle 42 = .ok (.if_icmp .ge 20, 3) := by decide +kernel
theorem dX2_tellSingle_45 : decode cX2_tellSingle 45 = .ok (.aload_n 0, 1) := by decide +kernel
theorem dX2_tellSingle_46 : decode cX2_tellSingle 46 = .ok (.getfield 15, 3) := by decide +kernel
theorem dX2_tellSingle_49 : decode cX2_tellSingle 49 = .ok (.iconst 2, 1) := by decide +kernel
theorem dX2_tellSingle_50 : decode cX2_tellSingle 50 = .ok (.iload_n 2, 1) := by decide +kernel
theorem dX2_tellSingle_51 : decode cX2_tellSingle 51 = .ok (.imul, 1) := by decide +kernel
theorem dX2_tellSingle_52 : decode cX2_tellSingle 52 = .ok (.iload_n 1, 1) := by decide +kernel
theorem dX2_tellSingle_53 : decode cX2_tellSingle 53 = .ok (.iadd, 1) := by decide +kernel
theorem dX2_tellSingle_54 : decode cX2_tellSingle 54 = .ok (.iconst 4, 1) := by decide +kernel
theorem dX2_tellSingle_55 : decode cX2_tellSingle 55 = .ok (.isub, 1) := by decide +kernel
theorem dX2_tellSingle_56 : decode cX2_tellSingle 56 = .ok (.invokestatic 76, 3) := by decide +kernel
theorem dX2_tellSingle_59 : decode cX2_tellSingle 59 = .ok (.goto 4, 3) := by decide +kernel
theorem dX2_tellSingle_62 : decode cX2_tellSingle 62 = .ok (.iconst (-1), 1) := by decide +kernel
theorem dX2_tellSingle_63 : decode cX2_tellSingle 63 = .ok (.ireturn, 1) := by decide +kernel
theorem dX2_tellSingle_64 : decode cX2_tellSingle 64 = .ok (.iload_n 1, 1) := by decide +kernel
theorem dX2_tellSingle_65 : decode cX2_tellSingle 65 = .ok (.bipush 7, 2) := by decide +kernel
theorem dX2_tellSingle_67 : decode cX2_tellSingle 67 = .ok (.if_icmp .gt 29, 3) := by decide +kernel
theorem dX2_tellSingle_70 : decode cX2_tellSingle 70 = .ok (.iload_n 2, 1) := by decide +kernel
theorem dX2_tellSingle_71 : decode cX2_tellSingle 71 = .ok (.aload_n 0, 1) := by decide +kernel
theorem dX2_tellSingle_72 : decode cX2_tellSingle 72 = .ok (.getfield 43, 3) := by decide +kernel
theorem dX2_tellSingle_75 : decode cX2_tellSingle 75 = .ok (.if_icmp .ge 21, 3) := by decide +kernel
theorem dX2_tellSingle_78 : decode cX2_tellSingle 78 = .ok (.aload_n 0, 1) := by decide +kernel
theorem dX2_tellSingle_79 : decode cX2_tellSingle 79 = .ok (.getfield 21, 3) := by decide +kernel
theorem dX2_tellSingle_82 : decode cX2_tellSingle 82 = .ok (.iconst 2, 1) := by decide +kernel
theorem dX2_tellSingle_83 : decode cX2_tellSingle 83 = .ok (.iload_n 2, 1) := by decide +kernel
theorem dX2_tellSingle_84 : decode cX2_tellSingle 84 = .ok (.imul, 1) := by decide +kernel
theorem dX2_tellSingle_85 : decode cX2_tellSingle 85 = .ok (.iload_n 1, 1) := by decide +kernel
theorem dX2_tellSingle_86 : decode cX2_tellSingle 86 = .ok (.iadd, 1) := by decide +kernel
theorem dX2_tellSingle_87 : decode cX2_tellSingle 87 = .ok (.bipush 6, 2) := by decide +kernel
theorem dX2_tellSingle_89 : decode cX2_tellSingle 89 = .ok (.isub, 1) := by decide +kernel
theorem dX2_tellSingle_90 : decode cX2_tellSingle 90 = .ok (.invokestatic 76, 3) := by decide +kernel
theorem dX2_tellSingle_93 : decode cX2_tellSingle 93 = .ok (.goto 4, 3) := by decide +kernel
theorem dX2_tellSingle_96 : decode cX2_tellSingle 96 = .ok (.iconst (-1), 1) := by decide +kernel
theorem dX2_tellSingle_97 : decode cX2_tellSingle 97 = .ok (.ireturn, 1) := by decide +kernel
theorem dX2_hasGoer_0 : decode cX2_hasGoer 0 = .ok (.iload_n 1, 1) := by decide +kernel
theorem dX2_hasGoer_1 : decode cX2_hasGoer 1 = .ok (.ifCond .lt 15, 3) := by decide +kernel
theorem dX2_hasGoer_4 : decode cX2_hasGoer 4 = .ok (.iload_n 1, 1) := by decide +kernel
theorem dX2_hasGoer_5 : decode cX2_hasGoer 5 = .ok (.aload_n 0, 1) := by decide +kernel
theorem dX2_hasGoer_6 : decode cX2_hasGoer 6 = .ok (.getfield 40, 3) := by decide +kernel
theorem dX2_hasGoer_9 : decode cX2_hasGoer 9 = .ok (.if_icmp .ge 7, 3) := by decide +kernel
theorem dX2_hasGoer_12 : decode cX2_hasGoer 12 = .ok (.iconst 1, 1) := by decide +kernel
theorem dX2_hasGoer_13 : decode cX2_hasGoer 13 = .ok (.goto 4, 3) := by decide +kernel
theorem dX2_hasGoer_16 : decode cX2_hasGoer 16 = .ok (.iconst 0, 1) := by decide +kernel
theorem dX2_hasGoer_17 : decode cX2_hasGoer 17 = .ok (.ireturn, 1) := by decide +kernel
theorem dX2_kindOf_0 : decode cX2_kindOf 0 = .ok (.aload_n 0, 1) := by decide +kernel
theorem dX2_kindOf_1 : decode cX2_kindOf 1 = .ok (.getfield 9, 3) := by decide +kernel
theorem dX2_kindOf_4 : decode cX2_kindOf 4 = .ok (.iconst 3, 1) := by decide +kernel
theorem dX2_kindOf_5 : decode cX2_kindOf 5 = .ok (.iload_n 1, 1) := by decide +kernel
theorem dX2_kindOf_6 : decode cX2_kindOf 6 = .ok (.imul, 1) := by decide +kernel
theorem dX2_kindOf_7 : decode cX2_kindOf 7 = .ok (.invokestatic 76, 3) := by decide +kernel
theorem dX2_kindOf_10 : decode cX2_kindOf 10 = .ok (.ireturn, 1) := by decide +kernel
theorem dX2_reachOf_0 : decode cX2_reachOf 0 = .ok (.aload_n 0, 1) := by decide +kernel
theorem dX2_reachOf_1 : decode cX2_reachOf 1 = .ok (.getfield 9, 3) := by decide +kernel
theorem dX2_reachOf_4 : decode cX2_reachOf 4 = .ok (.iconst 3, 1) := by decide +kernel
theorem dX2_reachOf_5 : decode cX2_reachOf 5 = .ok (.iload_n 1, 1) := by decide +kernel
theorem dX2_reachOf_6 : decode cX2_reachOf 6 = .ok (.imul, 1) := by decide +kernel
theorem dX2_reachOf_7 : decode cX2_reachOf 7 = .ok (.iconst 1, 1) := by decide +kernel
theorem dX2_reachOf_8 : decode cX2_reachOf 8 = .ok (.iadd, 1) := by decide +kernel
theorem dX2_reachOf_9 : decode cX2_reachOf 9 = .ok (.invokestatic 76, 3) := by decide +kernel
theorem dX2_reachOf_12 : decode cX2_reachOf 12 = .ok (.ireturn, 1) := by decide +kernel
theorem dX2_leastOf_0 : decode cX2_leastOf 0 = .ok (.aload_n 0, 1) := by decide +kernel
theorem dX2_leastOf_1 : decode cX2_leastOf 1 = .ok (.getfield 9, 3) := by decide +kernel
theorem dX2_leastOf_4 : decode cX2_leastOf 4 = .ok (.iconst 3, 1) := by decide +kernel
theorem dX2_leastOf_5 : decode cX2_leastOf 5 = .ok (.iload_n 1, 1) := by decide +kernel
theorem dX2_leastOf_6 : decode cX2_leastOf 6 = .ok (.imul, 1) := by decide +kernel
theorem dX2_leastOf_7 : decode cX2_leastOf 7 = .ok (.iconst 2, 1) := by decide +kernel
theorem dX2_leastOf_8 : decode cX2_leastOf 8 = .ok (.iadd, 1) := by decide +kernel
theorem dX2_leastOf_9 : decode cX2_leastOf 9 = .ok (.invokestatic 76, 3) := by decide +kernel
theorem dX2_leastOf_12 : decode cX2_leastOf 12 = .ok (.ireturn, 1) := by decide +kernel
theorem dX2_xOf_0 : decode cX2_xOf 0 = .ok (.aload_n 0, 1) := by decide +kernel
theorem dX2_xOf_1 : decode cX2_xOf 1 = .ok (.getfield 15, 3) := by decide +kernel
theorem dX2_xOf_4 : decode cX2_xOf 4 = .ok (.iconst 2, 1) := by decide +kernel
theorem dX2_xOf_5 : decode cX2_xOf 5 = .ok (.iload_n 1, 1) := by decide +kernel
theorem dX2_xOf_6 : decode cX2_xOf 6 = .ok (.imul, 1) := by decide +kernel
theorem dX2_xOf_7 : decode cX2_xOf 7 = .ok (.invokestatic 76, 3) := by decide +kernel
theorem dX2_xOf_10 : decode cX2_xOf 10 = .ok (.ireturn, 1) := by decide +kernel
theorem dX2_yOf_0 : decode cX2_yOf 0 = .ok (.aload_n 0, 1) := by decide +kernel
theorem dX2_yOf_1 : decode cX2_yOf 1 = .ok (.getfield 15, 3) := by decide +kernel
theorem dX2_yOf_4 : decode cX2_yOf 4 = .ok (.iconst 2, 1) := by decide +kernel
theorem dX2_yOf_5 : decode cX2_yOf 5 = .ok (.iload_n 1, 1) := by decide +kernel
theorem dX2_yOf_6 : decode cX2_yOf 6 = .ok (.imul, 1) := by decide +kernel
theorem dX2_yOf_7 : decode cX2_yOf 7 = .ok (.iconst 1, 1) := by decide +kernel
theorem dX2_yOf_8 : decode cX2_yOf 8 = .ok (.iadd, 1) := by decide +kernel
theorem dX2_yOf_9 : decode cX2_yOf 9 = .ok (.invokestatic 76, 3) := by decide +kernel
theorem dX2_yOf_12 : decode cX2_yOf 12 = .ok (.ireturn, 1) := by decide +kernel
theorem dX2_wrongsOf_0 : decode cX2_wrongsOf 0 = .ok (.aload_n 0, 1) := by decide +kernel
theorem dX2_wrongsOf_1 : decode cX2_wrongsOf 1 = .ok (.getfield 18, 3) := by decide +kernel
theorem dX2_wrongsOf_4 : decode cX2_wrongsOf 4 = .ok (.bipush 6, 2) := by decide +kernel
theorem dX2_wrongsOf_6 : decode cX2_wrongsOf 6 = .ok (.iload_n 1, 1) := by decide +kernel
theorem dX2_wrongsOf_7 : decode cX2_wrongsOf 7 = .ok (.imul, 1) := by decide +kernel
theorem dX2_wrongsOf_8 : decode cX2_wrongsOf 8 = .ok (.iload_n 2, 1) := by decide +kernel
theorem dX2_wrongsOf_9 : decode cX2_wrongsOf 9 = .ok (.iadd, 1) := by decide +kernel
theorem dX2_wrongsOf_10 : decode cX2_wrongsOf 10 = .ok (.invokestatic 76, 3) := by decide +kernel
theorem dX2_wrongsOf_13 : decode cX2_wrongsOf 13 = .ok (.ireturn, 1) := by decide +kernel
theorem dX2_setWrongs_0 : decode cX2_setWrongs 0 = .ok (.aload_n 0, 1) := by decide +kernel
theorem dX2_setWrongs_1 : decode cX2_setWrongs 1 = .ok (.getfield 18, 3) := by decide +kernel
theorem dX2_setWrongs_4 : decode cX2_setWrongs 4 = .ok (.bipush 6, 2) := by decide +kernel
theorem dX2_setWrongs_6 : decode cX2_setWrongs 6 = .ok (.iload_n 1, 1) := by decide +kernel
theorem dX2_setWrongs_7 : decode cX2_setWrongs 7 = .ok (.imul, 1) := by decide +kernel
theorem dX2_setWrongs_8 : decode cX2_setWrongs 8 = .ok (.iload_n 2, 1) := by decide +kernel
theorem dX2_setWrongs_9 : decode cX2_setWrongs 9 = .ok (.iadd, 1) := by decide +kernel
theorem dX2_setWrongs_10 : decode cX2_setWrongs 10 = .ok (.iload_n 3, 1) := by decide +kernel
theorem dX2_setWrongs_11 : decode cX2_setWrongs 11 = .ok (.invokestatic 82, 3) := by decide +kernel
theorem dX2_setWrongs_14 : decode cX2_setWrongs 14 = .ok (.return_, 1) := by decide +kernel
theorem dX2_setPlace_0 : decode cX2_setPlace 0 = .ok (.aload_n 0, 1) := by decide +kernel
theorem dX2_setPlace_1 : decode cX2_setPlace 1 = .ok (.getfield 15, 3) := by decide +kernel
theorem dX2_setPlace_4 : decode cX2_setPlace 4 = .ok (.iconst 2, 1) := by decide +kernel
theorem dX2_setPlace_5 : decode cX2_setPlace 5 = .ok (.iload_n 1, 1) := by decide +kernel
theorem dX2_setPlace_6 : decode cX2_setPlace 6 = .ok (.imul, 1) := by decide +kernel
theorem dX2_setPlace_7 : decode cX2_setPlace 7 = .ok (.iload_n 2, 1) := by decide +kernel
theorem dX2_setPlace_8 : decode cX2_setPlace 8 = .ok (.invokestatic 82, 3) := by decide +kernel
theorem dX2_setPlace_11 : decode cX2_setPlace 11 = .ok (.aload_n 0, 1) := by decide +kernel
theorem dX2_setPlace_12 : decode cX2_setPlace 12 = .ok (.getfield 15, 3) := by decide +kernel
theorem dX2_setPlace_15 : decode cX2_setPlace 15 = .ok (.iconst 2, 1) := by decide +kernel
theorem dX2_setPlace_16 : decode cX2_setPlace 16 = .ok (.iload_n 1, 1) := by decide +kernel
theorem dX2_setPlace_17 : decode cX2_setPlace 17 = .ok (.imul, 1) := by decide +kernel
theorem dX2_setPlace_18 : decode cX2_setPlace 18 = .ok (.iconst 1, 1) := by decide +kernel
theorem dX2_setPlace_19 : decode cX2_setPlace 19 = .ok (.iadd, 1) := by decide +kernel
theorem dX2_setPlace_20 : decode cX2_setPlace 20 = .ok (.iload_n 3, 1) := by decide +kernel
theorem dX2_setPlace_21 : decode cX2_setPlace 21 = .ok (.invokestatic 82, 3) := by decide +kernel
theorem dX2_setPlace_24 : decode cX2_setPlace 24 = .ok (.return_, 1) := by decide +kernel
theorem dX2_wrongsTogether_0 : decode cX2_wrongsTogether 0 = .ok (.iconst 0, 1) := by decide +kernel
theorem dX2_wrongsTogether_1 : decode cX2_wrongsTogether 1 = .ok (.istore_n 2, 1) := by decide +kernel
theorem dX2_wrongsTogether_2 : decode cX2_wrongsTogether 2 = .ok (.iconst 0, 1) := by decide +kernel
theorem dX2_wrongsTogether_3 : decode cX2_wrongsTogether 3 = .ok (.istore_n 3, 1) := by decide +kernel
theorem dX2_wrongsTogether_4 : decode cX2_wrongsTogether 4 = .ok (.iload_n 3, 1) := by decide +kernel
theorem dX2_wrongsTogether_5 : decode cX2_wrongsTogether 5 = .ok (.bipush 6, 2) := by decide +kernel
theorem dX2_wrongsTogether_7 : decode cX2_wrongsTogether 7 = .ok (.if_icmp .ge 18, 3) := by decide +kernel
theorem dX2_wrongsTogether_10 : decode cX2_wrongsTogether 10 = .ok (.iload_n 2, 1) := by decide +kernel
theorem dX2_wrongsTogether_11 : decode cX2_wrongsTogether 11 = .ok (.aload_n 0, 1) := by decide +kernel
theorem dX2_wrongsTogether_12 : decode cX2_wrongsTogether 12 = .ok (.iload_n 1, 1) := by decide +kernel
theorem dX2_wrongsTogether_13 : decode cX2_wrongsTogether 13 = .ok (.iload_n 3, 1) := by decide +kernel
theorem dX2_wrongsTogether_14 : decode cX2_wrongsTogether 14 = .ok (.invokevirtual 73, 3) := by decide +kernel
theorem dX2_wrongsTogether_17 : decode cX2_wrongsTogether 17 = .ok (.iadd, 1) := by decide +kernel
theorem dX2_wrongsTogether_18 : decode cX2_wrongsTogether 18 = .ok (.istore_n 2, 1) := by decide +kernel
theorem dX2_wrongsTogether_19 : decode cX2_wrongsTogether 19 = .ok (.iinc 3 1, 3) := by decide +kernel
theorem dX2_wrongsTogether_22 : decode cX2_wrongsTogether 22 = .ok (.goto (-18), 3) := by decide +kernel
theorem dX2_wrongsTogether_25 : decode cX2_wrongsTogether 25 = .ok (.iload_n 2, 1) := by decide +kernel
theorem dX2_wrongsTogether_26 : decode cX2_wrongsTogether 26 = .ok (.ireturn, 1) := by decide +kernel
theorem dX2_wrongsOfKind_0 : decode cX2_wrongsOfKind 0 = .ok (.iconst 0, 1) := by decide +kernel
theorem dX2_wrongsOfKind_1 : decode cX2_wrongsOfKind 1 = .ok (.istore_n 2, 1) := by decide +kernel
theorem dX2_wrongsOfKind_2 : decode cX2_wrongsOfKind 2 = .ok (.iconst 0, 1) := by decide +kernel
theorem dX2_wrongsOfKind_3 : decode cX2_wrongsOfKind 3 = .ok (.istore_n 3, 1) := by decide +kernel
theorem dX2_wrongsOfKind_4 : decode cX2_wrongsOfKind 4 = .ok (.iload_n 3, 1) := by decide +kernel
theorem dX2_wrongsOfKind_5 : decode cX2_wrongsOfKind 5 = .ok (.aload_n 0, 1) := by decide +kernel
theorem dX2_wrongsOfKind_6 : decode cX2_wrongsOfKind 6 = .ok (.getfield 40, 3) := by decide +kernel
theorem dX2_wrongsOfKind_9 : decode cX2_wrongsOfKind 9 = .ok (.if_icmp .ge 18, 3) := by decide +kernel
theorem dX2_wrongsOfKind_12 : decode cX2_wrongsOfKind 12 = .ok (.iload_n 2, 1) := by decide +kernel
theorem dX2_wrongsOfKind_13 : decode cX2_wrongsOfKind 13 = .ok (.aload_n 0, 1) := by decide +kernel
theorem dX2_wrongsOfKind_14 : decode cX2_wrongsOfKind 14 = .ok (.iload_n 3, 1) := by decide +kernel
theorem dX2_wrongsOfKind_15 : decode cX2_wrongsOfKind 15 = .ok (.iload_n 1, 1) := by decide +kernel
theorem dX2_wrongsOfKind_16 : decode cX2_wrongsOfKind 16 = .ok (.invokevirtual 73, 3) := by decide +kernel
theorem dX2_wrongsOfKind_19 : decode cX2_wrongsOfKind 19 = .ok (.iadd, 1) := by decide +kernel
theorem dX2_wrongsOfKind_20 : decode cX2_wrongsOfKind 20 = .ok (.istore_n 2, 1) := by decide +kernel
theorem dX2_wrongsOfKind_21 : decode cX2_wrongsOfKind 21 = .ok (.iinc 3 1, 3) := by decide +kernel
theorem dX2_wrongsOfKind_24 : decode cX2_wrongsOfKind 24 = .ok (.goto (-20), 3) := by decide +kernel
theorem dX2_wrongsOfKind_27 : decode cX2_wrongsOfKind 27 = .ok (.iload_n 2, 1) := by decide +kernel
theorem dX2_wrongsOfKind_28 : decode cX2_wrongsOfKind 28 = .ok (.ireturn, 1) := by decide +kernel
theorem dX2_allWrongs_0 : decode cX2_allWrongs 0 = .ok (.iconst 0, 1) := by decide +kernel
theorem dX2_allWrongs_1 : decode cX2_allWrongs 1 = .ok (.istore_n 1, 1) := by decide +kernel
theorem dX2_allWrongs_2 : decode cX2_allWrongs 2 = .ok (.iconst 0, 1) := by decide +kernel
theorem dX2_allWrongs_3 : decode cX2_allWrongs 3 = .ok (.istore_n 2, 1) := by decide +kernel
theorem dX2_allWrongs_4 : decode cX2_allWrongs 4 = .ok (.iload_n 2, 1) := by decide +kernel
theorem dX2_allWrongs_5 : decode cX2_allWrongs 5 = .ok (.aload_n 0, 1) := by decide +kernel
theorem dX2_allWrongs_6 : decode cX2_allWrongs 6 = .ok (.getfield 40, 3) := by decide +kernel
theorem dX2_allWrongs_9 : decode cX2_allWrongs 9 = .ok (.if_icmp .ge 17, 3) := by decide +kernel
theorem dX2_allWrongs_12 : decode cX2_allWrongs 12 = .ok (.iload_n 1, 1) := by decide +kernel
theorem dX2_allWrongs_13 : decode cX2_allWrongs 13 = .ok (.aload_n 0, 1) := by decide +kernel
theorem dX2_allWrongs_14 : decode cX2_allWrongs 14 = .ok (.iload_n 2, 1) := by decide +kernel
theorem dX2_allWrongs_15 : decode cX2_allWrongs 15 = .ok (.invokevirtual 86, 3) := by decide +kernel
theorem dX2_allWrongs_18 : decode cX2_allWrongs 18 = .ok (.iadd, 1) := by decide +kernel
theorem dX2_allWrongs_19 : decode cX2_allWrongs 19 = .ok (.istore_n 1, 1) := by decide +kernel
theorem dX2_allWrongs_20 : decode cX2_allWrongs 20 = .ok (.iinc 2 1, 3) := by decide +kernel
theorem dX2_allWrongs_23 : decode cX2_allWrongs 23 = .ok (.goto (-19), 3) := by decide +kernel
theorem dX2_allWrongs_26 : decode cX2_allWrongs 26 = .ok (.iload_n 1, 1) := by decide +kernel
theorem dX2_allWrongs_27 : decode cX2_allWrongs 27 = .ok (.ireturn, 1) := by decide +kernel
theorem dX2_farFromStand_0 : decode cX2_farFromStand 0 = .ok (.aload_n 0, 1) := by decide +kernel
theorem dX2_farFromStand_1 : decode cX2_farFromStand 1 = .ok (.getfield 27, 3) := by decide +kernel
theorem dX2_farFromStand_4 : decode cX2_farFromStand 4 = .ok (.aload_n 0, 1) := by decide +kernel
theorem dX2_farFromStand_5 : decode cX2_farFromStand 5 = .ok (.getfield 31, 3) := by decide +kernel
theorem dX2_farFromStand_8 : decode cX2_farFromStand 8 = .ok (.iload_n 1, 1) := by decide +kernel
theorem dX2_farFromStand_9 : decode cX2_farFromStand 9 = .ok (.iload_n 2, 1) := by decide +kernel
theorem dX2_farFromStand_10 : decode cX2_farFromStand 10 = .ok (.invokestatic 89, 3) := by decide +kernel
theorem dX2_farFromStand_13 : decode cX2_farFromStand 13 = .ok (.ireturn, 1) := by decide +kernel
theorem dX2_farFromGoer_0 : decode cX2_farFromGoer 0 = .ok (.aload_n 0, 1) := by decide +kernel
theorem dX2_farFromGoer_1 : decode cX2_farFromGoer 1 = .ok (.iload_n 1, 1) := by decide +kernel
theorem dX2_farFromGoer_2 : decode cX2_farFromGoer 2 = .ok (.invokevirtual 93, 3) := by decide +kernel
theorem dX2_farFromGoer_5 : decode cX2_farFromGoer 5 = .ok (.aload_n 0, 1) := by decide +kernel
theorem dX2_farFromGoer_6 : decode cX2_farFromGoer 6 = .ok (.iload_n 1, 1) := by decide +kernel
theorem dX2_farFromGoer_7 : decode cX2_farFromGoer 7 = .ok (.invokevirtual 96, 3) := by decide +kernel
theorem dX2_farFromGoer_10 : decode cX2_farFromGoer 10 = .ok (.iload_n 2, 1) := by decide +kernel
theorem dX2_farFromGoer_11 : decode cX2_farFromGoer 11 = .ok (.iload_n 3, 1) := by decide +kernel
theorem dX2_farFromGoer_12 : decode cX2_farFromGoer 12 = .ok (.invokestatic 89, 3) := by decide +kernel
theorem dX2_farFromGoer_15 : decode cX2_farFromGoer 15 = .ok (.ireturn, 1) := by decide +kernel
theorem dX2_farOf_0 : decode cX2_farOf 0 = .ok (.aload_n 0, 1) := by decide +kernel
theorem dX2_farOf_1 : decode cX2_farOf 1 = .ok (.getfield 27, 3) := by decide +kernel
theorem dX2_farOf_4 : decode cX2_farOf 4 = .ok (.aload_n 0, 1) := by decide +kernel
theorem dX2_farOf_5 : decode cX2_farOf 5 = .ok (.getfield 31, 3) := by decide +kernel
theorem dX2_farOf_8 : decode cX2_farOf 8 = .ok (.aload_n 0, 1) := by decide +kernel
theorem dX2_farOf_9 : decode cX2_farOf 9 = .ok (.iload_n 1, 1) := by decide +kernel
theorem dX2_farOf_10 : decode cX2_farOf 10 = .ok (.invokevirtual 93, 3) := by decide +kernel
theorem dX2_farOf_13 : decode cX2_farOf 13 = .ok (.aload_n 0, 1) := by decide +kernel
theorem dX2_farOf_14 : decode cX2_farOf 14 = .ok (.iload_n 1, 1) := by decide +kernel
theorem dX2_farOf_15 : decode cX2_farOf 15 = .ok (.invokevirtual 96, 3) := by decide +kernel
theorem dX2_farOf_18 : decode cX2_farOf 18 = .ok (.invokestatic 89, 3) := by decide +kernel
theorem dX2_farOf_21 : decode cX2_farOf 21 = .ok (.ireturn, 1) := by decide +kernel
theorem dX2_earshot_0 : decode cX2_earshot 0 = .ok (.iconst (-1), 1) := by decide +kernel
theorem dX2_earshot_1 : decode cX2_earshot 1 = .ok (.istore 4, 2) := by decide +kernel
theorem dX2_earshot_3 : decode cX2_earshot 3 = .ok (.iconst 0, 1) := by decide +kernel
theorem dX2_earshot_4 : decode cX2_earshot 4 = .ok (.istore 5, 2) := by decide +kernel
theorem dX2_earshot_6 : decode cX2_earshot 6 = .ok (.iload 5, 2) := by decide +kernel
theorem dX2_earshot_8 : decode cX2_earshot 8 = .ok (.aload_n 0, 1) := by decide +kernel
theorem dX2_earshot_9 : decode cX2_earshot 9 = .ok (.getfield 37, 3) := by decide +kernel
theorem dX2_earshot_12 : decode cX2_earshot 12 = .ok (.if_icmp .ge 65, 3) := by decide +kernel
theorem dX2_earshot_15 : decode cX2_earshot 15 = .ok (.iload_n 3, 1) := by decide +kernel
theorem dX2_earshot_16 : decode cX2_earshot 16 = .ok (.iload 5, 2) := by decide +kernel
theorem dX2_earshot_18 : decode cX2_earshot 18 = .ok (.ishr, 1) := by decide +kernel
theorem dX2_earshot_19 : decode cX2_earshot 19 = .ok (.iconst 1, 1) := by decide +kernel
theorem dX2_earshot_20 : decode cX2_earshot 20 = .ok (.iand, 1) := by decide +kernel
theorem dX2_earshot_21 : decode cX2_earshot 21 = .ok (.ifCond .ne 7, 3) := by decide +kernel
theorem dX2_earshot_24 : decode cX2_earshot 24 = .ok (.iconst 1, 1) := by decide +kernel
theorem dX2_earshot_25 : decode cX2_earshot 25 = .ok (.goto 4, 3) := by decide +kernel
theorem dX2_earshot_28 : decode cX2_earshot 28 = .ok (.iconst 0, 1) := by decide +kernel
theorem dX2_earshot_29 : decode cX2_earshot 29 = .ok (.istore 6, 2) := by decide +kernel
theorem dX2_earshot_31 : decode cX2_earshot 31 = .ok (.iload 6, 2) := by decide +kernel
theorem dX2_earshot_33 : decode cX2_earshot 33 = .ok (.ifCond .eq 38, 3) := by decide +kernel
theorem dX2_earshot_36 : decode cX2_earshot 36 = .ok (.aload_n 0, 1) := by decide +kernel
theorem dX2_earshot_37 : decode cX2_earshot 37 = .ok (.iload_n 1, 1) := by decide +kernel
theorem dX2_earshot_38 : decode cX2_earshot 38 = .ok (.aload_n 0, 1) := by decide +kernel
theorem dX2_earshot_39 : decode cX2_earshot 39 = .ok (.iload 5, 2) := by decide +kernel
theorem dX2_earshot_41 : decode cX2_earshot 41 = .ok (.invokevirtual 99, 3) := by decide +kernel
theorem dX2_earshot_44 : decode cX2_earshot 44 = .ok (.invokevirtual 73, 3) := by decide +kernel
theorem dX2_earshot_47 : decode cX2_earshot 47 = .ok (.aload_n 0, 1) := by decide +kernel
theorem dX2_earshot_48 : decode cX2_earshot 48 = .ok (.iload 5, 2) := by decide +kernel
theorem dX2_earshot_50 : decode cX2_earshot 50 = .ok (.invokevirtual 102, 3) := by decide +kernel
theorem dX2_earshot_53 : decode cX2_earshot 53 = .ok (.iload_n 2, 1) := by decide +kernel
theorem dX2_earshot_54 : decode cX2_earshot 54 = .ok (.iadd, 1) := by decide +kernel
theorem dX2_earshot_55 : decode cX2_earshot 55 = .ok (.if_icmp .lt 16, 3) := by decide +kernel
theorem dX2_earshot_58 : decode cX2_earshot 58 = .ok (.iload 4, 2) := by decide +kernel
theorem dX2_earshot_60 : decode cX2_earshot 60 = .ok (.aload_n 0, 1) := by decide +kernel
theorem dX2_earshot_61 : decode cX2_earshot 61 = .ok (.iload 5, 2) := by decide +kernel
theorem dX2_earshot_63 : decode cX2_earshot 63 = .ok (.invokevirtual 105, 3) := by decide +kernel
theorem dX2_earshot_66 : decode cX2_earshot 66 = .ok (.invokestatic 108, 3) := by decide +kernel
theorem dX2_earshot_69 : decode cX2_earshot 69 = .ok (.istore 4, 2) := by decide +kernel
theorem dX2_earshot_71 : decode cX2_earshot 71 = .ok (.iinc 5 1, 3) := by decide +kernel
theorem dX2_earshot_74 : decode cX2_earshot 74 = .ok (.goto (-68), 3) := by decide +kernel
theorem dX2_earshot_77 : decode cX2_earshot 77 = .ok (.iload 4, 2) := by decide +kernel
theorem dX2_earshot_79 : decode cX2_earshot 79 = .ok (.ireturn, 1) := by decide +kernel
theorem dX2_isOffending_0 : decode cX2_isOffending 0 = .ok (.aload_n 0, 1) := by decide +kernel
theorem dX2_isOffending_1 : decode cX2_isOffending 1 = .ok (.iload_n 1, 1) := by decide +kernel
theorem dX2_isOffending_2 : decode cX2_isOffending 2 = .ok (.invokevirtual 113, 3) := by decide +kernel
theorem dX2_isOffending_5 : decode cX2_isOffending 5 = .ok (.aload_n 0, 1) := by decide +kernel
theorem dX2_isOffending_6 : decode cX2_isOffending 6 = .ok (.iload_n 1, 1) := by decide +kernel
theorem dX2_isOffending_7 : decode cX2_isOffending 7 = .ok (.iconst 0, 1) := by decide +kernel
theorem dX2_isOffending_8 : decode cX2_isOffending 8 = .ok (.iconst 0, 1) := by decide +kernel
theorem dX2_isOffending_9 : decode cX2_isOffending 9 = .ok (.invokevirtual 116, 3) := by decide +kernel
theorem dX2_isOffending_12 : decode cX2_isOffending 12 = .ok (.if_icmp .gt 7, 3) := by decide +kernel
theorem dX2_isOffending_15 : decode cX2_isOffending 15 = .ok (.iconst 1, 1) := by decide +kernel
theorem dX2_isOffending_16 : decode cX2_isOffending 16 = .ok (.goto 4, 3) := by decide +kernel
theorem dX2_isOffending_19 : decode cX2_isOffending 19 = .ok (.iconst 0, 1) := by decide +kernel
theorem dX2_isOffending_20 : decode cX2_isOffending 20 = .ok (.ireturn, 1) := by decide +kernel
theorem dX2_offenders_0 : decode cX2_offenders 0 = .ok (.iconst 0, 1) := by decide +kernel
theorem dX2_offenders_1 : decode cX2_offenders 1 = .ok (.istore_n 2, 1) := by decide +kernel
theorem dX2_offenders_2 : decode cX2_offenders 2 = .ok (.iconst 0, 1) := by decide +kernel
theorem dX2_offenders_3 : decode cX2_offenders 3 = .ok (.istore_n 3, 1) := by decide +kernel
theorem dX2_offenders_4 : decode cX2_offenders 4 = .ok (.iload_n 3, 1) := by decide +kernel
theorem dX2_offenders_5 : decode cX2_offenders 5 = .ok (.aload_n 0, 1) := by decide +kernel
theorem dX2_offenders_6 : decode cX2_offenders 6 = .ok (.getfield 40, 3) := by decide +kernel
theorem dX2_offenders_9 : decode cX2_offenders 9 = .ok (.if_icmp .ge 30, 3) := by decide +kernel
theorem dX2_offenders_12 : decode cX2_offenders 12 = .ok (.aload_n 0, 1) := by decide +kernel
theorem dX2_offenders_13 : decode cX2_offenders 13 = .ok (.iload_n 3, 1) := by decide +kernel
theorem dX2_offenders_14 : decode cX2_offenders 14 = .ok (.invokevirtual 113, 3) := by decide +kernel
theorem dX2_offenders_17 : decode cX2_offenders 17 = .ok (.aload_n 0, 1) := by decide +kernel
theorem dX2_offenders_18 : decode cX2_offenders 18 = .ok (.iload_n 3, 1) := by decide +kernel
theorem dX2_offenders_19 : decode cX2_offenders 19 = .ok (.iconst 0, 1) := by decide +kernel
theorem dX2_offenders_20 : decode cX2_offenders 20 = .ok (.iload_n 1, 1) := by decide +kernel
theorem dX2_offenders_21 : decode cX2_offenders 21 = .ok (.invokevirtual 116, 3) := by decide +kernel
theorem dX2_offenders_24 : decode cX2_offenders 24 = .ok (.if_icmp .gt 9, 3) := by decide +kernel
theorem dX2_offenders_27 : decode cX2_offenders 27 = .ok (.iload_n 2, 1) := by decide +kernel
theorem dX2_offenders_28 : decode cX2_offenders 28 = .ok (.iconst 1, 1) := by decide +kernel
theorem dX2_offenders_29 : decode cX2_offenders 29 = .ok (.iload_n 3, 1) := by decide +kernel
theorem dX2_offenders_30 : decode cX2_offenders 30 = .ok (.ishl, 1) := by decide +kernel
theorem dX2_offenders_31 : decode cX2_offenders 31 = .ok (.ior, 1) := by decide +kernel
theorem dX2_offenders_32 : decode cX2_offenders 32 = .ok (.istore_n 2, 1) := by decide +kernel
theorem dX2_offenders_33 : decode cX2_offenders 33 = .ok (.iinc 3 1, 3) := by decide +kernel
theorem dX2_offenders_36 : decode cX2_offenders 36 = .ok (.goto (-32), 3) := by decide +kernel
theorem dX2_offenders_39 : decode cX2_offenders 39 = .ok (.iload_n 2, 1) := by decide +kernel
theorem dX2_offenders_40 : decode cX2_offenders 40 = .ok (.ireturn, 1) := by decide +kernel
theorem dX2_offendersBy_0 : decode cX2_offendersBy 0 = .ok (.aload_n 0, 1) := by decide +kernel
theorem dX2_offendersBy_1 : decode cX2_offendersBy 1 = .ok (.iconst 1, 1) := by decide +kernel
theorem dX2_offendersBy_2 : decode cX2_offendersBy 2 = .ok (.iload_n 1, 1) := by decide +kernel
theorem dX2_offendersBy_3 : decode cX2_offendersBy 3 = .ok (.ishl, 1) := by decide +kernel
theorem dX2_offendersBy_4 : decode cX2_offendersBy 4 = .ok (.iconst (-1), 1) := by decide +kernel
theorem dX2_offendersBy_5 : decode cX2_offendersBy 5 = .ok (.ixor, 1) := by decide +kernel
theorem dX2_offendersBy_6 : decode cX2_offendersBy 6 = .ok (.invokevirtual 120, 3) := by decide +kernel
theorem dX2_offendersBy_9 : decode cX2_offendersBy 9 = .ok (.invokestatic 123, 3) := by decide +kernel
theorem dX2_offendersBy_12 : decode cX2_offendersBy 12 = .ok (.ireturn, 1) := by decide +kernel
theorem dX2_offendedMinds_0 : decode cX2_offendedMinds 0 = .ok (.iconst 0, 1) := by decide +kernel
theorem dX2_offendedMinds_1 : decode cX2_offendedMinds 1 = .ok (.istore_n 1, 1) := by decide +kernel
theorem dX2_offendedMinds_2 : decode cX2_offendedMinds 2 = .ok (.iconst 0, 1) := by decide +kernel
theorem dX2_offendedMinds_3 : decode cX2_offendedMinds 3 = .ok (.istore_n 2, 1) := by decide +kernel
theorem dX2_offendedMinds_4 : decode cX2_offendedMinds 4 = .ok (.iload_n 2, 1) := by decide +kernel
theorem dX2_offendedMinds_5 : decode cX2_offendedMinds 5 = .ok (.aload_n 0, 1) := by decide +kernel
theorem dX2_offendedMinds_6 : decode cX2_offendedMinds 6 = .ok (.getfield 37, 3) := by decide +kernel
theorem dX2_offendedMinds_9 : decode cX2_offendedMinds 9 = .ok (.if_icmp .ge 23, 3) := by decide +kernel
theorem dX2_offendedMinds_12 : decode cX2_offendedMinds 12 = .ok (.aload_n 0, 1) := by decide +kernel
theorem dX2_offendedMinds_13 : decode cX2_offendedMinds 13 = .ok (.iload_n 2, 1) := by decide +kernel
theorem dX2_offendedMinds_14 : decode cX2_offendedMinds 14 = .ok (.invokevirtual 128, 3) := by decide +kernel
theorem dX2_offendedMinds_17 : decode cX2_offendedMinds 17 = .ok (.ifCond .le 9, 3) := by decide +kernel
theorem dX2_offendedMinds_20 : decode cX2_offendedMinds 20 = .ok (.iload_n 1, 1) := by decide +kernel
theorem dX2_offendedMinds_21 : decode cX2_offendedMinds 21 = .ok (.iconst 1, 1) := by decide +kernel
theorem dX2_offendedMinds_22 : decode cX2_offendedMinds 22 = .ok (.iload_n 2, 1) := by decide +kernel
theorem dX2_offendedMinds_23 : decode cX2_offendedMinds 23 = .ok (.ishl, 1) := by decide +kernel
theorem dX2_offendedMinds_24 : decode cX2_offendedMinds 24 = .ok (.ior, 1) := by decide +kernel
theorem dX2_offendedMinds_25 : decode cX2_offendedMinds 25 = .ok (.istore_n 1, 1) := by decide +kernel
theorem dX2_offendedMinds_26 : decode cX2_offendedMinds 26 = .ok (.iinc 2 1, 3) := by decide +kernel
theorem dX2_offendedMinds_29 : decode cX2_offendedMinds 29 = .ok (.goto (-25), 3) := by decide +kernel
theorem dX2_offendedMinds_32 : decode cX2_offendedMinds 32 = .ok (.iload_n 1, 1) := by decide +kernel
theorem dX2_offendedMinds_33 : decode cX2_offendedMinds 33 = .ok (.ireturn, 1) := by decide +kernel
theorem dX2_idleMinds_0 : decode cX2_idleMinds 0 = .ok (.aload_n 0, 1) := by decide +kernel
theorem dX2_idleMinds_1 : decode cX2_idleMinds 1 = .ok (.iconst 0, 1) := by decide +kernel
theorem dX2_idleMinds_2 : decode cX2_idleMinds 2 = .ok (.invokevirtual 120, 3) := by decide +kernel
theorem dX2_idleMinds_5 : decode cX2_idleMinds 5 = .ok (.istore_n 1, 1) := by decide +kernel
theorem dX2_idleMinds_6 : decode cX2_idleMinds 6 = .ok (.iconst 0, 1) := by decide +kernel
theorem dX2_idleMinds_7 : decode cX2_idleMinds 7 = .ok (.istore_n 2, 1) := by decide +kernel
theorem dX2_idleMinds_8 : decode cX2_idleMinds 8 = .ok (.iconst 0, 1) := by decide +kernel
theorem dX2_idleMinds_9 : decode cX2_idleMinds 9 = .ok (.istore_n 3, 1) := by decide +kernel
theorem dX2_idleMinds_10 : decode cX2_idleMinds 10 = .ok (.iload_n 3, 1) := by decide +kernel
theorem dX2_idleMinds_11 : decode cX2_idleMinds 11 = .ok (.aload_n 0, 1) := by decide +kernel
theorem dX2_idleMinds_12 : decode cX2_idleMinds 12 = .ok (.getfield 37, 3) := by decide +kernel
theorem dX2_idleMinds_15 : decode cX2_idleMinds 15 = .ok (.if_icmp .ge 26, 3) := by decide +kernel
theorem dX2_idleMinds_18 : decode cX2_idleMinds 18 = .ok (.aload_n 0, 1) := by decide +kernel
theorem dX2_idleMinds_19 : decode cX2_idleMinds 19 = .ok (.iconst 1, 1) := by decide +kernel
theorem dX2_idleMinds_20 : decode cX2_idleMinds 20 = .ok (.iload_n 3, 1) := by decide +kernel
theorem dX2_idleMinds_21 : decode cX2_idleMinds 21 = .ok (.ishl, 1) := by decide +kernel
theorem dX2_idleMinds_22 : decode cX2_idleMinds 22 = .ok (.invokevirtual 120, 3) := by decide +kernel
theorem dX2_idleMinds_25 : decode cX2_idleMinds 25 = .ok (.iload_n 1, 1) := by decide +kernel
theorem dX2_idleMinds_26 : decode cX2_idleMinds 26 = .ok (.if_icmp .ne 9, 3) := by decide +kernel
theorem dX2_idleMinds_29 : decode cX2_idleMinds 29 = .ok (.iload_n 2, 1) := by decide +kernel
theorem dX2_idleMinds_30 : decode cX2_idleMinds 30 = .ok (.iconst 1, 1) := by decide +kernel
theorem dX2_idleMinds_31 : decode cX2_idleMinds 31 = .ok (.iload_n 3, 1) := by decide +kernel
theorem dX2_idleMinds_32 : decode cX2_idleMinds 32 = .ok (.ishl, 1) := by decide +kernel
theorem dX2_idleMinds_33 : decode cX2_idleMinds 33 = .ok (.ior, 1) := by decide +kernel
theorem dX2_idleMinds_34 : decode cX2_idleMinds 34 = .ok (.istore_n 2, 1) := by decide +kernel
theorem dX2_idleMinds_35 : decode cX2_idleMinds 35 = .ok (.iinc 3 1, 3) := by decide +kernel
theorem dX2_idleMinds_38 : decode cX2_idleMinds 38 = .ok (.goto (-28), 3) := by decide +kernel
theorem dX2_idleMinds_41 : decode cX2_idleMinds 41 = .ok (.iload_n 2, 1) := by decide +kernel
theorem dX2_idleMinds_42 : decode cX2_idleMinds 42 = .ok (.ireturn, 1) := by decide +kernel
theorem dX2_broadest_0 : decode cX2_broadest 0 = .ok (.iconst (-1), 1) := by decide +kernel
theorem dX2_broadest_1 : decode cX2_broadest 1 = .ok (.istore_n 1, 1) := by decide +kernel
theorem dX2_broadest_2 : decode cX2_broadest 2 = .ok (.iconst (-1), 1) := by decide +kernel
theorem dX2_broadest_3 : decode cX2_broadest 3 = .ok (.istore_n 2, 1) := by decide +kernel
theorem dX2_broadest_4 : decode cX2_broadest 4 = .ok (.iconst 0, 1) := by decide +kernel
theorem dX2_broadest_5 : decode cX2_broadest 5 = .ok (.istore_n 3, 1) := by decide +kernel
theorem dX2_broadest_6 : decode cX2_broadest 6 = .ok (.iload_n 3, 1) := by decide +kernel
theorem dX2_broadest_7 : decode cX2_broadest 7 = .ok (.aload_n 0, 1) := by decide +kernel
theorem dX2_broadest_8 : decode cX2_broadest 8 = .ok (.getfield 37, 3) := by decide +kernel
theorem dX2_broadest_11 : decode cX2_broadest 11 = .ok (.if_icmp .ge 27, 3) := by decide +kernel
theorem dX2_broadest_14 : decode cX2_broadest 14 = .ok (.aload_n 0, 1) := by decide +kernel
theorem dX2_broadest_15 : decode cX2_broadest 15 = .ok (.iload_n 3, 1) := by decide +kernel
theorem dX2_broadest_16 : decode cX2_broadest 16 = .ok (.invokevirtual 128, 3) := by decide +kernel
theorem dX2_broadest_19 : decode cX2_broadest 19 = .ok (.istore 4, 2) := by decide +kernel
theorem dX2_broadest_21 : decode cX2_broadest 21 = .ok (.iload 4, 2) := by decide +kernel
theorem dX2_broadest_23 : decode cX2_broadest 23 = .ok (.iload_n 2, 1) := by decide +kernel
theorem dX2_broadest_24 : decode cX2_broadest 24 = .ok (.if_icmp .le 8, 3) := by decide +kernel
theorem dX2_broadest_27 : decode cX2_broadest 27 = .ok (.iload 4, 2) := by decide +kernel
theorem dX2_broadest_29 : decode cX2_broadest 29 = .ok (.istore_n 2, 1) := by decide +kernel
theorem dX2_broadest_30 : decode cX2_broadest 30 = .ok (.iload_n 3, 1) := by decide +kernel
theorem dX2_broadest_31 : decode cX2_broadest 31 = .ok (.istore_n 1, 1) := by decide +kernel
theorem dX2_broadest_32 : decode cX2_broadest 32 = .ok (.iinc 3 1, 3) := by decide +kernel
theorem dX2_broadest_35 : decode cX2_broadest 35 = .ok (.goto (-29), 3) := by decide +kernel
theorem dX2_broadest_38 : decode cX2_broadest 38 = .ok (.iload_n 1, 1) := by decide +kernel
theorem dX2_broadest_39 : decode cX2_broadest 39 = .ok (.ireturn, 1) := by decide +kernel
theorem dX2_within_0 : decode cX2_within 0 = .ok (.iconst 0, 1) := by decide +kernel
theorem dX2_within_1 : decode cX2_within 1 = .ok (.istore_n 2, 1) := by decide +kernel
theorem dX2_within_2 : decode cX2_within 2 = .ok (.iconst 0, 1) := by decide +kernel
theorem dX2_within_3 : decode cX2_within 3 = .ok (.istore_n 3, 1) := by decide +kernel
theorem dX2_within_4 : decode cX2_within 4 = .ok (.iload_n 3, 1) := by decide +kernel
theorem dX2_within_5 : decode cX2_within 5 = .ok (.aload_n 0, 1) := by decide +kernel
theorem dX2_within_6 : decode cX2_within 6 = .ok (.getfield 40, 3) := by decide +kernel
theorem dX2_within_9 : decode cX2_within 9 = .ok (.if_icmp .ge 24, 3) := by decide +kernel
theorem dX2_within_12 : decode cX2_within 12 = .ok (.aload_n 0, 1) := by decide +kernel
theorem dX2_within_13 : decode cX2_within 13 = .ok (.iload_n 3, 1) := by decide +kernel
theorem dX2_within_14 : decode cX2_within 14 = .ok (.invokevirtual 113, 3) := by decide +kernel
theorem dX2_within_17 : decode cX2_within 17 = .ok (.iload_n 1, 1) := by decide +kernel
theorem dX2_within_18 : decode cX2_within 18 = .ok (.if_icmp .gt 9, 3) := by decide +kernel
theorem dX2_within_21 : decode cX2_within 21 = .ok (.iload_n 2, 1) := by decide +kernel
theorem dX2_within_22 : decode cX2_within 22 = .ok (.iconst 1, 1) := by decide +kernel
theorem dX2_within_23 : decode cX2_within 23 = .ok (.iload_n 3, 1) := by decide +kernel
theorem dX2_within_24 : decode cX2_within 24 = .ok (.ishl, 1) := by decide +kernel
theorem dX2_within_25 : decode cX2_within 25 = .ok (.ior, 1) := by decide +kernel
theorem dX2_within_26 : decode cX2_within 26 = .ok (.istore_n 2, 1) := by decide +kernel
theorem dX2_within_27 : decode cX2_within 27 = .ok (.iinc 3 1, 3) := by decide +kernel
theorem dX2_within_30 : decode cX2_within 30 = .ok (.goto (-26), 3) := by decide +kernel
theorem dX2_within_33 : decode cX2_within 33 = .ok (.iload_n 2, 1) := by decide +kernel
theorem dX2_within_34 : decode cX2_within 34 = .ok (.ireturn, 1) := by decide +kernel
theorem dX2_heard_0 : decode cX2_heard 0 = .ok (.iconst (-1), 1) := by decide +kernel
theorem dX2_heard_1 : decode cX2_heard 1 = .ok (.istore_n 1, 1) := by decide +kernel
theorem dX2_heard_2 : decode cX2_heard 2 = .ok (.iconst 0, 1) := by decide +kernel
theorem dX2_heard_3 : decode cX2_heard 3 = .ok (.istore_n 2, 1) := by decide +kernel
theorem dX2_heard_4 : decode cX2_heard 4 = .ok (.iload_n 2, 1) := by decide +kernel
theorem dX2_heard_5 : decode cX2_heard 5 = .ok (.aload_n 0, 1) := by decide +kernel
theorem dX2_heard_6 : decode cX2_heard 6 = .ok (.getfield 37, 3) := by decide +kernel
theorem dX2_heard_9 : decode cX2_heard 9 = .ok (.if_icmp .ge 19, 3) := by decide +kernel
theorem dX2_heard_12 : decode cX2_heard 12 = .ok (.iload_n 1, 1) := by decide +kernel
theorem dX2_heard_13 : decode cX2_heard 13 = .ok (.aload_n 0, 1) := by decide +kernel
theorem dX2_heard_14 : decode cX2_heard 14 = .ok (.iload_n 2, 1) := by decide +kernel
theorem dX2_heard_15 : decode cX2_heard 15 = .ok (.invokevirtual 105, 3) := by decide +kernel
theorem dX2_heard_18 : decode cX2_heard 18 = .ok (.invokestatic 108, 3) := by decide +kernel
theorem dX2_heard_21 : decode cX2_heard 21 = .ok (.istore_n 1, 1) := by decide +kernel
theorem dX2_heard_22 : decode cX2_heard 22 = .ok (.iinc 2 1, 3) := by decide +kernel
theorem dX2_heard_25 : decode cX2_heard 25 = .ok (.goto (-21), 3) := by decide +kernel
theorem dX2_heard_28 : decode cX2_heard 28 = .ok (.aload_n 0, 1) := by decide +kernel
theorem dX2_heard_29 : decode cX2_heard 29 = .ok (.iload_n 1, 1) := by decide +kernel
theorem dX2_heard_30 : decode cX2_heard 30 = .ok (.invokevirtual 131, 3) := by decide +kernel
theorem dX2_heard_33 : decode cX2_heard 33 = .ok (.ireturn, 1) := by decide +kernel
theorem dX2_slantStops_0 : decode cX2_slantStops 0 = .ok (.aload_n 0, 1) := by decide +kernel
theorem dX2_slantStops_1 : decode cX2_slantStops 1 = .ok (.getfield 34, 3) := by decide +kernel
theorem dX2_slantStops_4 : decode cX2_slantStops 4 = .ok (.ifCond .eq 16, 3) := by decide +kernel
theorem dX2_slantStops_7 : decode cX2_slantStops 7 = .ok (.iload_n 1, 1) := by decide +kernel
theorem dX2_slantStops_8 : decode cX2_slantStops 8 = .ok (.aload_n 0, 1) := by decide +kernel
theorem dX2_slantStops_9 : decode cX2_slantStops 9 = .ok (.getfield 34, 3) := by decide +kernel
theorem dX2_slantStops_12 : decode cX2_slantStops 12 = .ok (.irem, 1) := by decide +kernel
theorem dX2_slantStops_13 : decode cX2_slantStops 13 = .ok (.ifCond .ne 7, 3) := by decide +kernel
theorem dX2_slantStops_16 : decode cX2_slantStops 16 = .ok (.iconst 1, 1) := by decide +kernel
theorem dX2_slantStops_17 : decode cX2_slantStops 17 = .ok (.goto 4, 3) := by decide +kernel
theorem dX2_slantStops_20 : decode cX2_slantStops 20 = .ok (.iconst 0, 1) := by decide +kernel
theorem dX2_slantStops_21 : decode cX2_slantStops 21 = .ok (.ireturn, 1) := by decide +kernel
theorem dX2_playingAfter_0 : decode cX2_playingAfter 0 = .ok (.aload_n 0, 1) := by decide +kernel
theorem dX2_playingAfter_1 : decode cX2_playingAfter 1 = .ok (.iconst 0, 1) := by decide +kernel
theorem dX2_playingAfter_2 : decode cX2_playingAfter 2 = .ok (.invokevirtual 120, 3) := by decide +kernel
theorem dX2_playingAfter_5 : decode cX2_playingAfter 5 = .ok (.ifCond .eq 5, 3) := by decide +kernel
theorem dX2_playingAfter_8 : decode cX2_playingAfter 8 = .ok (.iconst (-1), 1) := by decide +kernel
theorem dX2_playingAfter_9 : decode cX2_playingAfter 9 = .ok (.ireturn, 1) := by decide +kernel
theorem dX2_playingAfter_10 : decode cX2_playingAfter 10 = .ok (.iload_n 1, 1) := by decide +kernel
theorem dX2_playingAfter_11 : decode cX2_playingAfter 11 = .ok (.iconst 1, 1) := by decide +kernel
theorem dX2_playingAfter_12 : decode cX2_playingAfter 12 = .ok (.iadd, 1) := by decide +kernel
theorem dX2_playingAfter_13 : decode cX2_playingAfter 13 = .ok (.istore_n 2, 1) := by decide +kernel
theorem dX2_playingAfter_14 : decode cX2_playingAfter 14 = .ok (.iload_n 2, 1) := by decide +kernel
theorem dX2_playingAfter_15 : decode cX2_playingAfter 15 = .ok (.bipush 99, 2) := by decide +kernel
theorem dX2_playingAfter_17 : decode cX2_playingAfter 17 = .ok (.if_icmp .gt 19, 3) := by decide +kernel
theorem dX2_playingAfter_20 : decode cX2_playingAfter 20 = .ok (.aload_n 0, 1) := by decide +kernel
theorem dX2_playingAfter_21 : decode cX2_playingAfter 21 = .ok (.iload_n 2, 1) := by decide +kernel
theorem dX2_playingAfter_22 : decode cX2_playingAfter 22 = .ok (.invokevirtual 134, 3) := by decide +kernel
theorem dX2_playingAfter_25 : decode cX2_playingAfter 25 = .ok (.ifCond .ne 5, 3) := by decide +kernel
theorem dX2_playingAfter_28 : decode cX2_playingAfter 28 = .ok (.iload_n 2, 1) := by decide +kernel
theorem dX2_playingAfter_29 : decode cX2_playingAfter 29 = .ok (.ireturn, 1) := by decide +kernel
theorem dX2_playingAfter_30 : decode cX2_playingAfter 30 = .ok (.iinc 2 1, 3) := by decide +kernel
theorem dX2_playingAfter_33 : decode cX2_playingAfter 33 = .ok (.goto (-19), 3) := by decide +kernel
theorem dX2_playingAfter_36 : decode cX2_playingAfter 36 = .ok (.iconst (-1), 1) := by decide +kernel
theorem dX2_playingAfter_37 : decode cX2_playingAfter 37 = .ok (.ireturn, 1) := by decide +kernel
theorem dX2_playingUpTo_0 : decode cX2_playingUpTo 0 = .ok (.aload_n 0, 1) := by decide +kernel
theorem dX2_playingUpTo_1 : decode cX2_playingUpTo 1 = .ok (.iconst 0, 1) := by decide +kernel
theorem dX2_playingUpTo_2 : decode cX2_playingUpTo 2 = .ok (.invokevirtual 120, 3) := by decide +kernel
theorem dX2_playingUpTo_5 : decode cX2_playingUpTo 5 = .ok (.ifCond .eq 5, 3) := by decide +kernel
theorem dX2_playingUpTo_8 : decode cX2_playingUpTo 8 = .ok (.iconst 0, 1) := by decide +kernel
theorem dX2_playingUpTo_9 : decode cX2_playingUpTo 9 = .ok (.ireturn, 1) := by decide +kernel
theorem dX2_playingUpTo_10 : decode cX2_playingUpTo 10 = .ok (.aload_n 0, 1) := by decide +kernel
theorem dX2_playingUpTo_11 : decode cX2_playingUpTo 11 = .ok (.getfield 34, 3) := by decide +kernel
theorem dX2_playingUpTo_14 : decode cX2_playingUpTo 14 = .ok (.ifCond .ne 7, 3) := by decide +kernel
theorem dX2_playingUpTo_17 : decode cX2_playingUpTo 17 = .ok (.iload_n 1, 1) := by decide +kernel
theorem dX2_playingUpTo_18 : decode cX2_playingUpTo 18 = .ok (.goto 11, 3) := by decide +kernel
theorem dX2_playingUpTo_21 : decode cX2_playingUpTo 21 = .ok (.iload_n 1, 1) := by decide +kernel
theorem dX2_playingUpTo_22 : decode cX2_playingUpTo 22 = .ok (.iload_n 1, 1) := by decide +kernel
theorem dX2_playingUpTo_23 : decode cX2_playingUpTo 23 = .ok (.aload_n 0, 1) := by decide +kernel
theorem dX2_playingUpTo_24 : decode cX2_playingUpTo 24 = .ok (.getfield 34, 3) := by decide +kernel
theorem dX2_playingUpTo_27 : decode cX2_playingUpTo 27 = .ok (.idiv, 1) := by decide +kernel
theorem dX2_playingUpTo_28 : decode cX2_playingUpTo 28 = .ok (.isub, 1) := by decide +kernel
theorem dX2_playingUpTo_29 : decode cX2_playingUpTo 29 = .ok (.ireturn, 1) := by decide +kernel
theorem dX10_init_0 : decode cX10_init 0 = .ok (.aload_n 0, 1) := by decide +kernel
theorem dX10_init_1 : decode cX10_init 1 = .ok (.invokespecial 3, 3) := by decide +kernel
theorem dX10_init_4 : decode cX10_init 4 = .ok (.aload_n 0, 1) := by decide +kernel
theorem dX10_init_5 : decode cX10_init 5 = .ok (.sipush 448, 3) := by decide +kernel
theorem dX10_init_8 : decode cX10_init 8 = .ok (.newarray .int, 2) := by decide +kernel
theorem dX10_init_10 : decode cX10_init 10 = .ok (.putfield 11, 3) := by decide +kernel
theorem dX10_init_13 : decode cX10_init 13 = .ok (.aload_n 0, 1) := by decide +kernel
theorem dX10_init_14 : decode cX10_init 14 = .ok (.sipush 448, 3) := by decide +kernel
theorem dX10_init_17 : decode cX10_init 17 = .ok (.newarray .int, 2) := by decide +kernel
theorem dX10_init_19 : decode cX10_init 19 = .ok (.putfield 15, 3) := by decide +kernel
theorem dX10_init_22 : decode cX10_init 22 = .ok (.aload_n 0, 1) := by decide +kernel
theorem dX10_init_23 : decode cX10_init 23 = .ok (.sipush 448, 3) := by decide +kernel
theorem dX10_init_26 : decode cX10_init 26 = .ok (.newarray .int, 2) := by decide +kernel
theorem dX10_init_28 : decode cX10_init 28 = .ok (.putfield 18, 3) := by decide +kernel
theorem dX10_init_31 : decode cX10_init 31 = .ok (.aload_n 0, 1) := by decide +kernel
theorem dX10_init_32 : decode cX10_init 32 = .ok (.bipush 49, 2) := by decide +kernel
theorem dX10_init_34 : decode cX10_init 34 = .ok (.newarray .int, 2) := by decide +kernel
theorem dX10_init_36 : decode cX10_init 36 = .ok (.putfield 21, 3) := by decide +kernel
theorem dX10_init_39 : decode cX10_init 39 = .ok (.aload_n 0, 1) := by decide +kernel
theorem dX10_init_40 : decode cX10_init 40 = .ok (.bipush 6, 2) := by decide +kernel
theorem dX10_init_42 : decode cX10_init 42 = .ok (.newarray .int, 2) := by decide +kernel
theorem dX10_init_44 : decode cX10_init 44 = .ok (.putfield 24, 3) := by decide +kernel
theorem dX10_init_47 : decode cX10_init 47 = .ok (.aload_n 0, 1) := by decide +kernel
theorem dX10_init_48 : decode cX10_init 48 = .ok (.bipush 6, 2) := by decide +kernel
theorem dX10_init_50 : decode cX10_init 50 = .ok (.newarray .int, 2) := by decide +kernel
theorem dX10_init_52 : decode cX10_init 52 = .ok (.putfield 27, 3) := by decide +kernel
theorem dX10_init_55 : decode cX10_init 55 = .ok (.return_, 1) := by decide +kernel
theorem dX10_lay_0 : decode cX10_lay 0 = .ok (.aload_n 0, 1) := by decide +kernel
theorem dX10_lay_1 : decode cX10_lay 1 = .ok (.aload_n 1, 1) := by decide +kernel
theorem dX10_lay_2 : decode cX10_lay 2 = .ok (.iload_n 2, 1) := by decide +kernel
theorem dX10_lay_3 : decode cX10_lay 3 = .ok (.invokevirtual 30, 3) := by decide +kernel
theorem dX10_lay_6 : decode cX10_lay 6 = .ok (.iconst 1, 1) := by decide +kernel
theorem dX10_lay_7 : decode cX10_lay 7 = .ok (.aload_n 1, 1) := by decide +kernel
theorem dX10_lay_8 : decode cX10_lay 8 = .ok (.getfield 34, 3) := by decide +kernel
theorem dX10_lay_11 : decode cX10_lay 11 = .ok (.ishl, 1) := by decide +kernel
theorem dX10_lay_12 : decode cX10_lay 12 = .ok (.iconst 1, 1) := by decide +kernel
theorem dX10_lay_13 : decode cX10_lay 13 = .ok (.isub, 1) := by decide +kernel
theorem dX10_lay_14 : decode cX10_lay 14 = .ok (.istore_n 3, 1) := by decide +kernel
theorem dX10_lay_15 : decode cX10_lay 15 = .ok (.iload_n 3, 1) := by decide +kernel
theorem dX10_lay_16 : decode cX10_lay 16 = .ok (.ifCond .lt 48, 3) := by decide +kernel
theorem dX10_lay_19 : decode cX10_lay 19 = .ok (.iconst 0, 1) := by decide +kernel
theorem dX10_lay_20 : decode cX10_lay 20 = .ok (.istore 4, 2) := by decide +kernel
theorem dX10_lay_22 : decode cX10_lay 22 = .ok (.iload 4, 2) := by decide +kernel
theorem dX10_lay_24 : decode cX10_lay 24 = .ok (.aload_n 1, 1) := by decide +kernel
theorem dX10_lay_25 : decode cX10_lay 25 = .ok (.getfield 34, 3) := by decide +kernel
theorem dX10_lay_28 : decode cX10_lay 28 = .ok (.if_icmp .ge 30, 3) := by decide +kernel
theorem dX10_lay_31 : decode cX10_lay 31 = .ok (.iload_n 3, 1) := by decide +kernel
theorem dX10_lay_32 : decode cX10_lay 32 = .ok (.iload 4, 2) := by decide +kernel
theorem dX10_lay_34 : decode cX10_lay 34 = .ok (.ishr, 1) := by decide +kernel
theorem dX10_lay_35 : decode cX10_lay 35 = .ok (.iconst 1, 1) := by decide +kernel
theorem dX10_lay_36 : decode cX10_lay 36 = .ok (.iand, 1) := by decide +kernel
theorem dX10_lay_37 : decode cX10_lay 37 = .ok (.ifCond .eq 15, 3) := by decide +kernel
theorem dX10_lay_40 : decode cX10_lay 40 = .ok (.aload_n 0, 1) := by decide +kernel
theorem dX10_lay_41 : decode cX10_lay 41 = .ok (.aload_n 1, 1) := by decide +kernel
theorem dX10_lay_42 : decode cX10_lay 42 = .ok (.getfield 34, 3) := by decide +kernel
theorem dX10_lay_45 : decode cX10_lay 45 = .ok (.iload_n 3, 1) := by decide +kernel
theorem dX10_lay_46 : decode cX10_lay 46 = .ok (.iload 4, 2) := by decide +kernel
theorem dX10_lay_48 : decode cX10_lay 48 = .ok (.iload_n 2, 1) := by decide +kernel
theorem dX10_lay_49 : decode cX10_lay 49 = .ok (.invokevirtual 40, 3) := by decide +kernel
theorem dX10_lay_52 : decode cX10_lay 52 = .ok (.iinc 4 1, 3) := by decide +kernel
theorem dX10_lay_55 : decode cX10_lay 55 = .ok (.goto (-33), 3) := by decide +kernel
theorem dX10_lay_58 : decode cX10_lay 58 = .ok (.iinc 3 (-1), 3) := by decide +kernel
theorem dX10_lay_61 : decode cX10_lay 61 = .ok (.goto (-46), 3) := by decide +kernel
theorem dX10_lay_64 : decode cX10_lay 64 = .ok (.aload_n 0, 1) := by decide +kernel
theorem dX10_lay_65 : decode cX10_lay 65 = .ok (.aload_n 1, 1) := by decide +kernel
theorem dX10_lay_66 : decode cX10_lay 66 = .ok (.getfield 34, 3) := by decide +kernel
theorem dX10_lay_69 : decode cX10_lay 69 = .ok (.iconst 0, 1) := by decide +kernel
theorem dX10_lay_70 : decode cX10_lay 70 = .ok (.bipush 6, 2) := by decide +kernel
theorem dX10_lay_72 : decode cX10_lay 72 = .ok (.iload_n 2, 1) := by decide +kernel
theorem dX10_lay_73 : decode cX10_lay 73 = .ok (.invokevirtual 40, 3) := by decide +kernel
theorem dX10_lay_76 : decode cX10_lay 76 = .ok (.aload_n 0, 1) := by decide +kernel
theorem dX10_lay_77 : decode cX10_lay 77 = .ok (.aload_n 0, 1) := by decide +kernel
theorem dX10_lay_78 : decode cX10_lay 78 = .ok (.getfield 11, 3) := by decide +kernel
theorem dX10_lay_81 : decode cX10_lay 81 = .ok (.bipush 6, 2) := by decide +kernel
theorem dX10_lay_83 : decode cX10_lay 83 = .ok (.iaload, 1) := by decide +kernel
theorem dX10_lay_84 : decode cX10_lay 84 = .ok (.putfield 44, 3) := by decide +kernel
theorem dX10_lay_87 : decode cX10_lay 87 = .ok (.aload_n 0, 1) := by decide +kernel
theorem dX10_lay_88 : decode cX10_lay 88 = .ok (.invokevirtual 47, 3) := by decide +kernel
theorem dX10_lay_91 : decode cX10_lay 91 = .ok (.return_, 1) := by decide +kernel
theorem dX10_measure_0 : decode cX10_measure 0 = .ok (.iload_n 2, 1) := by decide +kernel
theorem dX10_measure_1 : decode cX10_measure 1 = .ok (.ifCond .eq 7, 3) := by decide +kernel
theorem dX10_measure_4 : decode cX10_measure 4 = .ok (.iconst 1, 1) := by decide +kernel
theorem dX10_measure_5 : decode cX10_measure 5 = .ok (.goto 5, 3) := by decide +kernel
theorem dX10_measure_8 : decode cX10_measure 8 = .ok (.bipush 10, 2) := by decide +kernel
theorem dX10_measure_10 : decode cX10_measure 10 = .ok (.istore_n 3, 1) := by decide +kernel
theorem dX10_measure_11 : decode cX10_measure 11 = .ok (.iconst 0, 1) := by decide +kernel
theorem dX10_measure_12 : decode cX10_measure 12 = .ok (.istore 4, 2) := by decide +kernel
theorem dX10_measure_14 : decode cX10_measure 14 = .ok (.iload 4, 2) := by decide +kernel
theorem dX10_measure_16 : decode cX10_measure 16 = .ok (.bipush 7, 2) := by decide +kernel
theorem dX10_measure_18 : decode cX10_measure 18 = .ok (.if_icmp .ge 67, 3) := by decide +kernel
theorem dX10_measure_21 : decode cX10_measure 21 = .ok (.iconst 0, 1) := by decide +kernel
theorem dX10_measure_22 : decode cX10_measure 22 = .ok (.istore 5, 2) := by decide +kernel
theorem dX10_measure_24 : decode cX10_measure 24 = .ok (.iload 5, 2) := by decide +kernel
theorem dX10_measure_26 : decode cX10_measure 26 = .ok (.bipush 7, 2) := by decide +kernel
theorem dX10_measure_28 : decode cX10_measure 28 = .ok (.if_icmp .ge 51, 3) := by decide +kernel
theorem dX10_measure_31 : decode cX10_measure 31 = .ok (.aload_n 0, 1) := by decide +kernel
theorem dX10_measure_32 : decode cX10_measure 32 = .ok (.getfield 21, 3) := by decide +kernel
theorem dX10_measure_35 : decode cX10_measure 35 = .ok (.bipush 7, 2) := by decide +kernel
theorem dX10_measure_37 : decode cX10_measure 37 = .ok (.iload 4, 2) := by decide +kernel
theorem dX10_measure_39 : decode cX10_measure 39 = .ok (.imul, 1) := by decide +kernel
theorem dX10_measure_40 : decode cX10_measure 40 = .ok (.iload 5, 2) := by decide +kernel
theorem dX10_measure_42 : decode cX10_measure 42 = .ok (.iadd, 1) := by decide +kernel
theorem dX10_measure_43 : decode cX10_measure 43 = .ok (.iload_n 3, 1) := by decide +kernel
theorem dX10_measure_44 : decode cX10_measure 44 = .ok (.aload_n 1, 1) := by decide +kernel
theorem dX10_measure_45 : decode cX10_measure 45 = .ok (.iload 4, 2) := by decide +kernel
theorem dX10_measure_47 : decode cX10_measure 47 = .ok (.invokestatic 50, 3) := by decide +kernel
theorem dX10_measure_50 : decode cX10_measure 50 = .ok (.aload_n 1, 1) := by decide +kernel
theorem dX10_measure_51 : decode cX10_measure 51 = .ok (.iload 4, 2) := by decide +kernel
theorem dX10_measure_53 : decode cX10_measure 53 = .ok (.invokestatic 54, 3) := by decide +kernel
theorem dX10_measure_56 : decode cX10_measure 56 = .ok (.aload_n 1, 1) := by decide +kernel
theorem dX10_measure_57 : decode cX10_measure 57 = .ok (.iload 5, 2) := by decide +kernel
theorem dX10_measure_59 : decode cX10_measure 59 = .ok (.invokestatic 50, 3) := by decide +kernel
theorem dX10_measure_62 : decode cX10_measure 62 = .ok (.aload_n 1, 1) := by decide +kernel
theorem dX10_measure_63 : decode cX10_measure 63 = .ok (.iload 5, 2) := by decide +kernel
theorem dX10_measure_65 : decode cX10_measure 65 = .ok (.invokestatic 54, 3) := by decide +kernel
theorem dX10_measure_68 : decode cX10_measure 68 = .ok (.invokestatic 57, 3) := by decide +kernel
theorem dX10_measure_71 : decode cX10_measure 71 = .ok (.imul, 1) := by decide +kernel
theorem dX10_measure_72 : decode cX10_measure 72 = .ok (.iastore, 1) := by decide +kernel
theorem dX10_measure_73 : decode cX10_measure 73 = .ok (.iinc 5 1, 3) := by decide +kernel
theorem dX10_measure_76 : decode cX10_measure 76 = .ok (.goto (-52), 3) := by decide +kernel
theorem dX10_measure_79 : decode cX10_measure 79 = .ok (.iinc 4 1, 3) := by decide +kernel
theorem dX10_measure_82 : decode cX10_measure 82 = .ok (.goto (-68), 3) := by decide +kernel
theorem dX10_measure_85 : decode cX10_measure 85 = .ok (.iconst 0, 1) := by decide +kernel
theorem dX10_measure_86 : decode cX10_measure 86 = .ok (.istore 4, 2) := by decide +kernel
theorem dX10_measure_88 : decode cX10_measure 88 = .ok (.iload 4, 2) := by decide +kernel
theorem dX10_measure_90 : decode cX10_measure 90 = .ok (.bipush 6, 2) := by decide +kernel
theorem dX10_measure_92 : decode cX10_measure 92 = .ok (.if_icmp .ge 51, 3) := by decide +kernel
theorem dX10_measure_95 : decode cX10_measure 95 = .ok (.aload_n 0, 1) := by decide +kernel
theorem dX10_measure_96 : decode cX10_measure 96 = .ok (.getfield 24, 3) := by decide +kernel
theorem dX10_measure_99 : decode cX10_measure 99 = .ok (.iload 4, 2) := by decide +kernel
theorem dX10_measure_101 : decode cX10_measure 101 = .ok (.iload_n 2, 1) := by decide +kernel
theorem dX10_measure_102 : decode cX10_measure 102 = .ok (.ifCond .eq 7, 3) := by decide +kernel
theorem dX10_measure_105 : decode cX10_measure 105 = .ok (.iconst 0, 1) := by decide +kernel
theorem dX10_measure_106 : decode cX10_measure 106 = .ok (.goto 30, 3) := by decide +kernel
theorem dX10_measure_109 : decode cX10_measure 109 = .ok (.aload_n 1, 1) := by decide +kernel
theorem dX10_measure_110 : decode cX10_measure 110 = .ok (.getfield 62, 3) := by decide +kernel
theorem dX10_measure_113 : decode cX10_measure 113 = .ok (.iconst 4, 1) := by decide +kernel
theorem dX10_measure_114 : decode cX10_measure 114 = .ok (.iload 4, 2) := by decide +kernel
theorem dX10_measure_116 : decode cX10_measure 116 = .ok (.imul, 1) := by decide +kernel
theorem dX10_measure_117 : decode cX10_measure 117 = .ok (.iconst 2, 1) := by decide +kernel
theorem dX10_measure_118 : decode cX10_measure 118 = .ok (.iadd, 1) := by decide +kernel
theorem dX10_measure_119 : decode cX10_measure 119 = .ok (.invokestatic 65, 3) := by decide +kernel
theorem dX10_measure_122 : decode cX10_measure 122 = .ok (.aload_n 1, 1) := by decide +kernel
theorem dX10_measure_123 : decode cX10_measure 123 = .ok (.getfield 62, 3) := by decide +kernel
theorem dX10_measure_126 : decode cX10_measure 126 = .ok (.iconst 4, 1) := by decide +kernel
theorem dX10_measure_127 : decode cX10_measure 127 = .ok (.iload 4, 2) := by decide +kernel
theorem dX10_measure_129 : decode cX10_measure 129 = .ok (.imul, 1) := by decide +kernel
theorem dX10_measure_130 : decode cX10_measure 130 = .ok (.iconst 3, 1) := by decide +kernel
theorem dX10_measure_131 : decode cX10_measure 131 = .ok (.iadd, 1) := by decide +kernel
theorem dX10_measure_132 : decode cX10_measure 132 = .ok (.invokestatic 65, 3) := by decide +kernel
theorem dX10_measure_135 : decode cX10_measure 135 = .ok (.imul, 1) := by decide +kernel
theorem dX10_measure_136 : decode cX10_measure 136 = .ok (.iastore, 1) := by decide +kernel
theorem dX10_measure_137 : decode cX10_measure 137 = .ok (.iinc 4 1, 3) := by decide +kernel
theorem dX10_measure_140 : decode cX10_measure 140 = .ok (.goto (-52), 3) := by decide +kernel
theorem dX10_measure_143 : decode cX10_measure 143 = .ok (.return_, 1) := by decide +kernel
theorem dX10_xOf_0 : decode cX10_xOf 0 = .ok (.iload_n 1, 1) := by decide +kernel
theorem dX10_xOf_1 : decode cX10_xOf 1 = .ok (.bipush 6, 2) := by decide +kernel
theorem dX10_xOf_3 : decode cX10_xOf 3 = .ok (.if_icmp .ne 10, 3) := by decide +kernel
theorem dX10_xOf_6 : decode cX10_xOf 6 = .ok (.aload_n 0, 1) := by decide +kernel
theorem dX10_xOf_7 : decode cX10_xOf 7 = .ok (.getfield 69, 3) := by decide +kernel
theorem dX10_xOf_10 : decode cX10_xOf 10 = .ok (.goto 13, 3) := by decide +kernel
theorem dX10_xOf_13 : decode cX10_xOf 13 = .ok (.aload_n 0, 1) := by decide +kernel
theorem dX10_xOf_14 : decode cX10_xOf 14 = .ok (.getfield 62, 3) := by decide +kernel
theorem dX10_xOf_17 : decode cX10_xOf 17 = .ok (.iconst 4, 1) := by decide +kernel
theorem dX10_xOf_18 : decode cX10_xOf 18 = .ok (.iload_n 1, 1) := by decide +kernel
theorem dX10_xOf_19 : decode cX10_xOf 19 = .ok (.imul, 1) := by decide +kernel
theorem dX10_xOf_20 : decode cX10_xOf 20 = .ok (.invokestatic 65, 3) := by decide +kernel
theorem dX10_xOf_23 : decode cX10_xOf 23 = .ok (.ireturn, 1) := by decide +kernel
theorem dX10_yOf_0 : decode cX10_yOf 0 = .ok (.iload_n 1, 1) := by decide +kernel
theorem dX10_yOf_1 : decode cX10_yOf 1 = .ok (.bipush 6, 2) := by decide +kernel
theorem dX10_yOf_3 : decode cX10_yOf 3 = .ok (.if_icmp .ne 10, 3) := by decide +kernel
theorem dX10_yOf_6 : decode cX10_yOf 6 = .ok (.aload_n 0, 1) := by decide +kernel
theorem dX10_yOf_7 : decode cX10_yOf 7 = .ok (.getfield 72, 3) := by decide +kernel
theorem dX10_yOf_10 : decode cX10_yOf 10 = .ok (.goto 15, 3) := by decide +kernel
theorem dX10_yOf_13 : decode cX10_yOf 13 = .ok (.aload_n 0, 1) := by decide +kernel
theorem dX10_yOf_14 : decode cX10_yOf 14 = .ok (.getfield 62, 3) := by decide +kernel
theorem dX10_yOf_17 : decode cX10_yOf 17 = .ok (.iconst 4, 1) := by decide +kernel
theorem dX10_yOf_18 : decode cX10_yOf 18 = .ok (.iload_n 1, 1) := by decide +kernel
theorem dX10_yOf_19 : decode cX10_yOf 19 = .ok (.imul, 1) := by decide +kernel
theorem dX10_yOf_20 : decode cX10_yOf 20 = .ok (.iconst 1, 1) := by decide +kernel
theorem dX10_yOf_21 : decode cX10_yOf 21 = .ok (.iadd, 1) := by decide +kernel
theorem dX10_yOf_22 : decode cX10_yOf 22 = .ok (.invokestatic 65, 3) := by decide +kernel
theorem dX10_yOf_25 : decode cX10_yOf 25 = .ok (.ireturn, 1) := by decide +kernel
theorem dX10_goOn_0 : decode cX10_goOn 0 = .ok (.iload 4, 2) := by decide +kernel
theorem dX10_goOn_2 : decode cX10_goOn 2 = .ok (.ifCond .eq 12, 3) := by decide +kernel
theorem dX10_goOn_5 : decode cX10_goOn 5 = .ok (.iload_n 2, 1) := by decide +kernel
theorem dX10_goOn_6 : decode cX10_goOn 6 = .ok (.iconst 1, 1) := by decide +kernel
theorem dX10_goOn_7 : decode cX10_goOn 7 = .ok (.iload_n 1, 1) := by decide +kernel
theorem dX10_goOn_8 : decode cX10_goOn 8 = .ok (.ishl, 1) := by decide +kernel
theorem dX10_goOn_9 : decode cX10_goOn 9 = .ok (.iconst 1, 1) := by decide +kernel
theorem dX10_goOn_10 : decode cX10_goOn 10 = .ok (.isub, 1) := by decide +kernel
theorem dX10_goOn_11 : decode cX10_goOn 11 = .ok (.if_icmp .ne 7, 3) := by decide +kernel
theorem dX10_goOn_14 : decode cX10_goOn 14 = .ok (.iconst 1, 1) := by decide +kernel
theorem dX10_goOn_15 : decode cX10_goOn 15 = .ok (.goto 4, 3) := by decide +kernel
theorem dX10_goOn_18 : decode cX10_goOn 18 = .ok (.iconst 0, 1) := by decide +kernel
theorem dX10_goOn_19 : decode cX10_goOn 19 = .ok (.istore 5, 2) := by decide +kernel
theorem dX10_goOn_21 : decode cX10_goOn 21 = .ok (.iload 4, 2) := by decide +kernel
theorem dX10_goOn_23 : decode cX10_goOn 23 = .ok (.ifCond .eq 21, 3) := by decide +kernel
theorem dX10_goOn_26 : decode cX10_goOn 26 = .ok (.aload_n 0, 1) := by decide +kernel
theorem dX10_goOn_27 : decode cX10_goOn 27 = .ok (.getfield 21, 3) := by decide +kernel
theorem dX10_goOn_30 : decode cX10_goOn 30 = .ok (.bipush 7, 2) := by decide +kernel
theorem dX10_goOn_32 : decode cX10_goOn 32 = .ok (.iload_n 3, 1) := by decide +kernel
theorem dX10_goOn_33 : decode cX10_goOn 33 = .ok (.imul, 1) := by decide +kernel
theorem dX10_goOn_34 : decode cX10_goOn 34 = .ok (.bipush 6, 2) := by decide +kernel
theorem dX10_goOn_36 : decode cX10_goOn 36 = .ok (.iadd, 1) := by decide +kernel
theorem dX10_goOn_37 : decode cX10_goOn 37 = .ok (.invokestatic 65, 3) := by decide +kernel
theorem dX10_goOn_40 : decode cX10_goOn 40 = .ok (.ineg, 1) := by decide +kernel
theorem dX10_goOn_41 : decode cX10_goOn 41 = .ok (.goto 4, 3) := by decide +kernel
theorem dX10_goOn_44 : decode cX10_goOn 44 = .ok (.iconst 0, 1) := by decide +kernel
theorem dX10_goOn_45 : decode cX10_goOn 45 = .ok (.istore 6, 2) := by decide +kernel
theorem dX10_goOn_47 : decode cX10_goOn 47 = .ok (.iconst 0, 1) := by decide +kernel
theorem dX10_goOn_48 : decode cX10_goOn 48 = .ok (.istore 7, 2) := by decide +kernel
theorem dX10_goOn_50 : decode cX10_goOn 50 = .ok (.iconst (-1), 1) := by decide +kernel
theorem dX10_goOn_51 : decode cX10_goOn 51 = .ok (.istore 8, 2) := by decide +kernel
theorem dX10_goOn_53 : decode cX10_goOn 53 = .ok (.iconst 0, 1) := by decide +kernel
theorem dX10_goOn_54 : decode cX10_goOn 54 = .ok (.istore 9, 2) := by decide +kernel
theorem dX10_goOn_56 : decode cX10_goOn 56 = .ok (.iload 9, 2) := by decide +kernel
theorem dX10_goOn_58 : decode cX10_goOn 58 = .ok (.iload_n 1, 1) := by decide +kernel
theorem dX10_goOn_59 : decode cX10_goOn 59 = .ok (.if_icmp .ge 140, 3) := by decide +kernel
theorem dX10_goOn_62 : decode cX10_goOn 62 = .ok (.iload_n 2, 1) := by decide +kernel
theorem dX10_goOn_63 : decode cX10_goOn 63 = .ok (.iload 9, 2) := by decide +kernel
theorem dX10_goOn_65 : decode cX10_goOn 65 = .ok (.ishr, 1) := by decide +kernel
theorem dX10_goOn_66 : decode cX10_goOn 66 = .ok (.iconst 1, 1) := by decide +kernel
theorem dX10_goOn_67 : decode cX10_goOn 67 = .ok (.iand, 1) := by decide +kernel
theorem dX10_goOn_68 : decode cX10_goOn 68 = .ok (.ifCond .eq 6, 3) := by decide +kernel
theorem dX10_goOn_71 : decode cX10_goOn 71 = .ok (.goto 122, 3) := by decide +kernel
theorem dX10_goOn_74 : decode cX10_goOn 74 = .ok (.bipush 7, 2) := by decide +kernel
theorem dX10_goOn_76 : decode cX10_goOn 76 = .ok (.iload_n 2, 1) := by decide +kernel
theorem dX10_goOn_77 : decode cX10_goOn 77 = .ok (.iconst 1, 1) := by decide +kernel
theorem dX10_goOn_78 : decode cX10_goOn 78 = .ok (.iload 9, 2) := by decide +kernel
theorem dX10_goOn_80 : decode cX10_goOn 80 = .ok (.ishl, 1) := by decide +kernel
theorem dX10_goOn_81 : decode cX10_goOn 81 = .ok (.ior, 1) := by decide +kernel
theorem dX10_goOn_82 : decode cX10_goOn 82 = .ok (.imul, 1) := by decide +kernel
theorem dX10_goOn_83 : decode cX10_goOn 83 = .ok (.iload 9, 2) := by decide +kernel
theorem dX10_goOn_85 : decode cX10_goOn 85 = .ok (.iadd, 1) := by decide +kernel
theorem dX10_goOn_86 : decode cX10_goOn 86 = .ok (.istore 10, 2) := by decide +kernel
theorem dX10_goOn_88 : decode cX10_goOn 88 = .ok (.aload_n 0, 1) := by decide +kernel
theorem dX10_goOn_89 : decode cX10_goOn 89 = .ok (.getfield 24, 3) := by decide +kernel
theorem dX10_goOn_92 : decode cX10_goOn 92 = .ok (.iload 9, 2) := by decide +kernel
theorem dX10_goOn_94 : decode cX10_goOn 94 = .ok (.invokestatic 65, 3) := by decide +kernel
theorem dX10_goOn_97 : decode cX10_goOn 97 = .ok (.aload_n 0, 1) := by decide +kernel
theorem dX10_goOn_98 : decode cX10_goOn 98 = .ok (.getfield 21, 3) := by decide +kernel
theorem dX10_goOn_101 : decode cX10_goOn 101 = .ok (.bipush 7, 2) := by decide +kernel
theorem dX10_goOn_103 : decode cX10_goOn 103 = .ok (.iload_n 3, 1) := by decide +kernel
theorem dX10_goOn_104 : decode cX10_goOn 104 = .ok (.imul, 1) := by decide +kernel
theorem dX10_goOn_105 : decode cX10_goOn 105 = .ok (.iload 9, 2) := by decide +kernel
theorem dX10_goOn_107 : decode cX10_goOn 107 = .ok (.iadd, 1) := by decide +kernel
theorem dX10_goOn_108 : decode cX10_goOn 108 = .ok (.invokestatic 65, 3) := by decide +kernel
theorem dX10_goOn_111 : decode cX10_goOn 111 = .ok (.isub, 1) := by decide +kernel
theorem dX10_goOn_112 : decode cX10_goOn 112 = .ok (.aload_n 0, 1) := by decide +kernel
theorem dX10_goOn_113 : decode cX10_goOn 113 = .ok (.getfield 11, 3) := by decide +kernel
theorem dX10_goOn_116 : decode cX10_goOn 116 = .ok (.iload 10, 2) := by decide +kernel
theorem dX10_goOn_118 : decode cX10_goOn 118 = .ok (.invokestatic 65, 3) := by decide +kernel
theorem dX10_goOn_121 : decode cX10_goOn 121 = .ok (.iadd, 1) := by decide +kernel
theorem dX10_goOn_122 : decode cX10_goOn 122 = .ok (.istore 11, 2) := by decide +kernel
theorem dX10_goOn_124 : decode cX10_goOn 124 = .ok (.iconst 1, 1) := by decide +kernel
theorem dX10_goOn_125 : decode cX10_goOn 125 = .ok (.aload_n 0, 1) := by decide +kernel
theorem dX10_goOn_126 : decode cX10_goOn 126 = .ok (.getfield 15, 3) := by decide +kernel
theorem dX10_goOn_129 : decode cX10_goOn 129 = .ok (.iload 10, 2) := by decide +kernel
theorem dX10_goOn_131 : decode cX10_goOn 131 = .ok (.invokestatic 65, 3) := by decide +kernel
theorem dX10_goOn_134 : decode cX10_goOn 134 = .ok (.iadd, 1) := by decide +kernel
theorem dX10_goOn_135 : decode cX10_goOn 135 = .ok (.istore 12, 2) := by decide +kernel
theorem dX10_goOn_137 : decode cX10_goOn 137 = .ok (.iload 11, 2) := by decide +kernel
theorem dX10_goOn_139 : decode cX10_goOn 139 = .ok (.iload 6, 2) := by decide +kernel
theorem dX10_goOn_141 : decode cX10_goOn 141 = .ok (.if_icmp .gt 17, 3) := by decide +kernel
theorem dX10_goOn_144 : decode cX10_goOn 144 = .ok (.iload 11, 2) := by decide +kernel
theorem dX10_goOn_146 : decode cX10_goOn 146 = .ok (.iload 6, 2) := by decide +kernel
theorem dX10_goOn_148 : decode cX10_goOn 148 = .ok (.if_icmp .ne 14, 3) := by decide +kernel
theorem dX10_goOn_151 : decode cX10_goOn 151 = .ok (.iload 12, 2) := by decide +kernel
theorem dX10_goOn_153 : decode cX10_goOn 153 = .ok (.iload 7, 2) := by decide +kernel
theorem dX10_goOn_155 : decode cX10_goOn 155 = .ok (.if_icmp .ge 7, 3) := by decide +kernel
theorem dX10_goOn_158 : decode cX10_goOn 158 = .ok (.iconst 1, 1) := by decide +kernel
theorem dX10_goOn_159 : decode cX10_goOn 159 = .ok (.goto 4, 3) := by decide +kernel
theorem dX10_goOn_162 : decode cX10_goOn 162 = .ok (.iconst 0, 1) := by decide +kernel
theorem dX10_goOn_163 : decode cX10_goOn 163 = .ok (.istore 13, 2) := by decide +kernel
theorem dX10_goOn_165 : decode cX10_goOn 165 = .ok (.iload 13, 2) := by decide +kernel
theorem dX10_goOn_167 : decode cX10_goOn 167 = .ok (.ifCond .ne 14, 3) := by decide +kernel
theorem dX10_goOn_170 : decode cX10_goOn 170 = .ok (.iload 5, 2) := by decide +kernel
theorem dX10_goOn_172 : decode cX10_goOn 172 = .ok (.ifCond .ne 21, 3) := by decide +kernel
theorem dX10_goOn_175 : decode cX10_goOn 175 = .ok (.iload 8, 2) := by decide +kernel
theorem dX10_goOn_177 : decode cX10_goOn 177 = .ok (.iconst (-1), 1) := by decide +kernel
theorem dX10_goOn_178 : decode cX10_goOn 178 = .ok (.if_icmp .ne 15, 3) := by decide +kernel
theorem dX10_goOn_181 : decode cX10_goOn 181 = .ok (.iload 11, 2) := by decide +kernel
theorem dX10_goOn_183 : decode cX10_goOn 183 = .ok (.istore 6, 2) := by decide +kernel
theorem dX10_goOn_185 : decode cX10_goOn 185 = .ok (.iload 12, 2) := by decide +kernel
theorem dX10_goOn_187 : decode cX10_goOn 187 = .ok (.istore 7, 2) := by decide +kernel
theorem dX10_goOn_189 : decode cX10_goOn 189 = .ok (.iload 9, 2) := by decide +kernel
theorem dX10_goOn_191 : decode cX10_goOn 191 = .ok (.istore 8, 2) := by decide +kernel
theorem dX10_goOn_193 : decode cX10_goOn 193 = .ok (.iinc 9 1, 3) := by decide +kernel
theorem dX10_goOn_196 : decode cX10_goOn 196 = .ok (.goto (-140), 3) := by decide +kernel
theorem dX10_goOn_199 : decode cX10_goOn 199 = .ok (.bipush 7, 2) := by decide +kernel
theorem dX10_goOn_201 : decode cX10_goOn 201 = .ok (.iload_n 2, 1) := by decide +kernel
theorem dX10_goOn_202 : decode cX10_goOn 202 = .ok (.imul, 1) := by decide +kernel
theorem dX10_goOn_203 : decode cX10_goOn 203 = .ok (.iload_n 3, 1) := by decide +kernel
theorem dX10_goOn_204 : decode cX10_goOn 204 = .ok (.iadd, 1) := by decide +kernel
theorem dX10_goOn_205 : decode cX10_goOn 205 = .ok (.istore 9, 2) := by decide +kernel
theorem dX10_goOn_207 : decode cX10_goOn 207 = .ok (.aload_n 0, 1) := by decide +kernel
theorem dX10_goOn_208 : decode cX10_goOn 208 = .ok (.getfield 11, 3) := by decide +kernel
theorem dX10_goOn_211 : decode cX10_goOn 211 = .ok (.iload 9, 2) := by decide +kernel
theorem dX10_goOn_213 : decode cX10_goOn 213 = .ok (.iload 6, 2) := by decide +kernel
theorem dX10_goOn_215 : decode cX10_goOn 215 = .ok (.invokestatic 75, 3) := by decide +kernel
theorem dX10_goOn_218 : decode cX10_goOn 218 = .ok (.aload_n 0, 1) := by decide +kernel
theorem dX10_goOn_219 : decode cX10_goOn 219 = .ok (.getfield 15, 3) := by decide +kernel
theorem dX10_goOn_222 : decode cX10_goOn 222 = .ok (.iload 9, 2) := by decide +kernel
theorem dX10_goOn_224 : decode cX10_goOn 224 = .ok (.iload 7, 2) := by decide +kernel
theorem dX10_goOn_226 : decode cX10_goOn 226 = .ok (.invokestatic 75, 3) := by decide +kernel
theorem dX10_goOn_229 : decode cX10_goOn 229 = .ok (.aload_n 0, 1) := by decide +kernel
theorem dX10_goOn_230 : decode cX10_goOn 230 = .ok (.getfield 18, 3) := by decide +kernel
theorem dX10_goOn_233 : decode cX10_goOn 233 = .ok (.iload 9, 2) := by decide +kernel
theorem dX10_goOn_235 : decode cX10_goOn 235 = .ok (.iload 8, 2) := by decide +kernel
theorem dX10_goOn_237 : decode cX10_goOn 237 = .ok (.invokestatic 75, 3) := by decide +kernel
theorem dX10_goOn_240 : decode cX10_goOn 240 = .ok (.return_, 1) := by decide +kernel
theorem dX10_follow_0 : decode cX10_follow 0 = .ok (.aload_n 0, 1) := by decide +kernel
theorem dX10_follow_1 : decode cX10_follow 1 = .ok (.aload_n 0, 1) := by decide +kernel
theorem dX10_follow_2 : decode cX10_follow 2 = .ok (.getfield 15, 3) := by decide +kernel
theorem dX10_follow_5 : decode cX10_follow 5 = .ok (.bipush 6, 2) := by decide +kernel
theorem dX10_follow_7 : decode cX10_follow 7 = .ok (.iaload, 1) := by decide +kernel
theorem dX10_follow_8 : decode cX10_follow 8 = .ok (.bipush 6, 2) := by decide +kernel
theorem dX10_follow_10 : decode cX10_follow 10 = .ok (.invokestatic 79, 3) := by decide +kernel
theorem dX10_follow_13 : decode cX10_follow 13 = .ok (.putfield 85, 3) := by decide +kernel
theorem dX10_follow_16 : decode cX10_follow 16 = .ok (.iconst 0, 1) := by decide +kernel
theorem dX10_follow_17 : decode cX10_follow 17 = .ok (.istore_n 1, 1) := by decide +kernel
theorem dX10_follow_18 : decode cX10_follow 18 = .ok (.bipush 6, 2) := by decide +kernel
theorem dX10_follow_20 : decode cX10_follow 20 = .ok (.istore_n 2, 1) := by decide +kernel
theorem dX10_follow_21 : decode cX10_follow 21 = .ok (.iconst 0, 1) := by decide +kernel
theorem dX10_follow_22 : decode cX10_follow 22 = .ok (.istore_n 3, 1) := by decide +kernel
theorem dX10_follow_23 : decode cX10_follow 23 = .ok (.iload_n 3, 1) := by decide +kernel
theorem dX10_follow_24 : decode cX10_follow 24 = .ok (.aload_n 0, 1) := by decide +kernel
theorem dX10_follow_25 : decode cX10_follow 25 = .ok (.getfield 85, 3) := by decide +kernel
theorem dX10_follow_28 : decode cX10_follow 28 = .ok (.if_icmp .ge 36, 3) := by decide +kernel
theorem dX10_follow_31 : decode cX10_follow 31 = .ok (.aload_n 0, 1) := by decide +kernel
theorem dX10_follow_32 : decode cX10_follow 32 = .ok (.getfield 18, 3) := by decide +kernel
theorem dX10_follow_35 : decode cX10_follow 35 = .ok (.bipush 7, 2) := by decide +kernel
theorem dX10_follow_37 : decode cX10_follow 37 = .ok (.iload_n 1, 1) := by decide +kernel
theorem dX10_follow_38 : decode cX10_follow 38 = .ok (.imul, 1) := by decide +kernel
theorem dX10_follow_39 : decode cX10_follow 39 = .ok (.iload_n 2, 1) := by decide +kernel
theorem dX10_follow_40 : decode cX10_follow 40 = .ok (.iadd, 1) := by decide +kernel
theorem dX10_follow_41 : decode cX10_follow 41 = .ok (.invokestatic 65, 3) := by decide +kernel
theorem dX10_follow_44 : decode cX10_follow 44 = .ok (.istore_n 2, 1) := by decide +kernel
theorem dX10_follow_45 : decode cX10_follow 45 = .ok (.aload_n 0, 1) := by decide +kernel
theorem dX10_follow_46 : decode cX10_follow 46 = .ok (.getfield 27, 3) := by decide +kernel
theorem dX10_follow_49 : decode cX10_follow 49 = .ok (.iload_n 3, 1) := by decide +kernel
theorem dX10_follow_50 : decode cX10_follow 50 = .ok (.iload_n 2, 1) := by decide +kernel
theorem dX10_follow_51 : decode cX10_follow 51 = .ok (.iastore, 1) := by decide +kernel
theorem dX10_follow_52 : decode cX10_follow 52 = .ok (.iload_n 1, 1) := by decide +kernel
theorem dX10_follow_53 : decode cX10_follow 53 = .ok (.iconst 1, 1) := by decide +kernel
theorem dX10_follow_54 : decode cX10_follow 54 = .ok (.iload_n 2, 1) := by decide +kernel
theorem dX10_follow_55 : decode cX10_follow 55 = .ok (.ishl, 1) := by decide +kernel
theorem dX10_follow_56 : decode cX10_follow 56 = .ok (.ior, 1) := by decide +kernel
theorem dX10_follow_57 : decode cX10_follow 57 = .ok (.istore_n 1, 1) := by decide +kernel
theorem dX10_follow_58 : decode cX10_follow 58 = .ok (.iinc 3 1, 3) := by decide +kernel
theorem dX10_follow_61 : decode cX10_follow 61 = .ok (.goto (-38), 3) := by decide +kernel
theorem dX10_follow_64 : decode cX10_follow 64 = .ok (.return_, 1) := by decide +kernel
theorem dX10_townAt_0 : decode cX10_townAt 0 = .ok (.iload_n 1, 1) := by decide +kernel
theorem dX10_townAt_1 : decode cX10_townAt 1 = .ok (.ifCond .lt 22, 3) := by decide +kernel
theorem dX10_townAt_4 : decode cX10_townAt 4 = .ok (.iload_n 1, 1) := by decide +kernel
theorem dX10_townAt_5 : decode cX10_townAt 5 = .ok (.aload_n 0, 1) := by decide +kernel
theorem dX10_townAt_6 : decode cX10_townAt 6 = .ok (.getfield 85, 3) := by decide +kernel
theorem dX10_townAt_9 : decode cX10_townAt 9 = .ok (.if_icmp .ge 14, 3) := by decide +kernel
theorem dX10_townAt_12 : decode cX10_townAt 12 = .ok (.aload_n 0, 1) := by decide +kernel
theorem dX10_townAt_13 : decode cX10_townAt 13 = .ok (.getfield 27, 3) := by decide +kernel
theorem dX10_townAt_16 : decode cX10_townAt 16 = .ok (.iload_n 1, 1) := by decide +kernel
theorem dX10_townAt_17 : decode cX10_townAt 17 = .ok (.invokestatic 65, 3) := by decide +kernel
theorem dX10_townAt_20 : decode cX10_townAt 20 = .ok (.goto 4, 3) := by decide +kernel
theorem dX10_townAt_23 : decode cX10_townAt 23 = .ok (.iload_n 2, 1) := by decide +kernel
theorem dX10_townAt_24 : decode cX10_townAt 24 = .ok (.ireturn, 1) := by decide +kernel
theorem dX5_kindsOf_0 : decode cX5_kindsOf 0 = .ok (.iconst 0, 1) := by decide +kernel
theorem dX5_kindsOf_1 : decode cX5_kindsOf 1 = .ok (.istore_n 2, 1) := by decide +kernel
theorem dX5_kindsOf_2 : decode cX5_kindsOf 2 = .ok (.iconst 0, 1) := by decide +kernel
theorem dX5_kindsOf_3 : decode cX5_kindsOf 3 = .ok (.istore_n 3, 1) := by decide +kernel
theorem dX5_kindsOf_4 : decode cX5_kindsOf 4 = .ok (.iload_n 3, 1) := by decide +kernel
theorem dX5_kindsOf_5 : decode cX5_kindsOf 5 = .ok (.aload_n 0, 1) := by decide +kernel
theorem dX5_kindsOf_6 : decode cX5_kindsOf 6 = .ok (.getfield 9, 3) := by decide +kernel
theorem dX5_kindsOf_9 : decode cX5_kindsOf 9 = .ok (.if_icmp .ge 30, 3) := by decide +kernel
theorem dX5_kindsOf_12 : decode cX5_kindsOf 12 = .ok (.iload_n 1, 1) := by decide +kernel
theorem dX5_kindsOf_13 : decode cX5_kindsOf 13 = .ok (.iload_n 3, 1) := by decide +kernel
theorem dX5_kindsOf_14 : decode cX5_kindsOf 14 = .ok (.ishr, 1) := by decide +kernel
theorem dX5_kindsOf_15 : decode cX5_kindsOf 15 = .ok (.iconst 1, 1) := by decide +kernel
theorem dX5_kindsOf_16 : decode cX5_kindsOf 16 = .ok (.iand, 1) := by decide +kernel
theorem dX5_kindsOf_17 : decode cX5_kindsOf 17 = .ok (.ifCond .eq 16, 3) := by decide +kernel
theorem dX5_kindsOf_20 : decode cX5_kindsOf 20 = .ok (.iload_n 2, 1) := by decide +kernel
theorem dX5_kindsOf_21 : decode cX5_kindsOf 21 = .ok (.aload_n 0, 1) := by decide +kernel
theorem dX5_kindsOf_22 : decode cX5_kindsOf 22 = .ok (.getfield 15, 3) := by decide +kernel
theorem dX5_kindsOf_25 : decode cX5_kindsOf 25 = .ok (.iconst 2, 1) := by decide +kernel
theorem dX5_kindsOf_26 : decode cX5_kindsOf 26 = .ok (.iload_n 3, 1) := by decide +kernel
theorem dX5_kindsOf_27 : decode cX5_kindsOf 27 = .ok (.imul, 1) := by decide +kernel
theorem dX5_kindsOf_28 : decode cX5_kindsOf 28 = .ok (.invokestatic 19, 3) := by decide +kernel
theorem dX5_kindsOf_31 : decode cX5_kindsOf 31 = .ok (.ior, 1) := by decide +kernel
theorem dX5_kindsOf_32 : decode cX5_kindsOf 32 = .ok (.istore_n 2, 1) := by decide +kernel
theorem dX5_kindsOf_33 : decode cX5_kindsOf 33 = .ok (.iinc 3 1, 3) := by decide +kernel
theorem dX5_kindsOf_36 : decode cX5_kindsOf 36 = .ok (.goto (-32), 3) := by decide +kernel
theorem dX5_kindsOf_39 : decode cX5_kindsOf 39 = .ok (.iload_n 2, 1) := by decide +kernel
theorem dX5_kindsOf_40 : decode cX5_kindsOf 40 = .ok (.ireturn, 1) := by decide +kernel
theorem dX5_priceOf_0 : decode cX5_priceOf 0 = .ok (.iconst 0, 1) := by decide +kernel
theorem dX5_priceOf_1 : decode cX5_priceOf 1 = .ok (.istore_n 2, 1) := by decide +kernel
theorem dX5_priceOf_2 : decode cX5_priceOf 2 = .ok (.iconst 0, 1) := by decide +kernel
theorem dX5_priceOf_3 : decode cX5_priceOf 3 = .ok (.istore_n 3, 1) := by decide +kernel
theorem dX5_priceOf_4 : decode cX5_priceOf 4 = .ok (.iload_n 3, 1) := by decide +kernel
theorem dX5_priceOf_5 : decode cX5_priceOf 5 = .ok (.aload_n 0, 1) := by decide +kernel
theorem dX5_priceOf_6 : decode cX5_priceOf 6 = .ok (.getfield 9, 3) := by decide +kernel
theorem dX5_priceOf_9 : decode cX5_priceOf 9 = .ok (.if_icmp .ge 32, 3) := by decide +kernel
theorem dX5_priceOf_12 : decode cX5_priceOf 12 = .ok (.iload_n 1, 1) := by decide +kernel
theorem dX5_priceOf_13 : decode cX5_priceOf 13 = .ok (.iload_n 3, 1) := by decide +kernel
theorem dX5_priceOf_14 : decode cX5_priceOf 14 = .ok (.ishr, 1) := by decide +kernel
theorem dX5_priceOf_15 : decode cX5_priceOf 15 = .ok (.iconst 1, 1) := by decide +kernel
theorem dX5_priceOf_16 : decode cX5_priceOf 16 = .ok (.iand, 1) := by decide +kernel
theorem dX5_priceOf_17 : decode cX5_priceOf 17 = .ok (.ifCond .eq 18, 3) := by decide +kernel
theorem dX5_priceOf_20 : decode cX5_priceOf 20 = .ok (.iload_n 2, 1) := by decide +kernel
theorem dX5_priceOf_21 : decode cX5_priceOf 21 = .ok (.aload_n 0, 1) := by decide +kernel
theorem dX5_priceOf_22 : decode cX5_priceOf 22 = .ok (.getfield 15, 3) := by decide +kernel
theorem dX5_priceOf_25 : decode cX5_priceOf 25 = .ok (.iconst 2, 1) := by decide +kernel
theorem dX5_priceOf_26 : decode cX5_priceOf 26 = .ok (.iload_n 3, 1) := by decide +kernel
theorem dX5_priceOf_27 : decode cX5_priceOf 27 = .ok (.imul, 1) := by decide +kernel
theorem dX5_priceOf_28 : decode cX5_priceOf 28 = .ok (.iconst 1, 1) := by decide +kernel
theorem dX5_priceOf_29 : decode cX5_priceOf 29 = .ok (.iadd, 1) := by decide +kernel
theorem dX5_priceOf_30 : decode cX5_priceOf 30 = .ok (.invokestatic 19, 3) := by decide +kernel
theorem dX5_priceOf_33 : decode cX5_priceOf 33 = .ok (.iadd, 1) := by decide +kernel
theorem dX5_priceOf_34 : decode cX5_priceOf 34 = .ok (.istore_n 2, 1) := by decide +kernel
theorem dX5_priceOf_35 : decode cX5_priceOf 35 = .ok (.iinc 3 1, 3) := by decide +kernel
theorem dX5_priceOf_38 : decode cX5_priceOf 38 = .ok (.goto (-34), 3) := by decide +kernel
theorem dX5_priceOf_41 : decode cX5_priceOf 41 = .ok (.iload_n 2, 1) := by decide +kernel
theorem dX5_priceOf_42 : decode cX5_priceOf 42 = .ok (.ireturn, 1) := by decide +kernel
theorem dX5_needed_0 : decode cX5_needed 0 = .ok (.iconst 0, 1) := by decide +kernel
theorem dX5_needed_1 : decode cX5_needed 1 = .ok (.istore_n 1, 1) := by decide +kernel
theorem dX5_needed_2 : decode cX5_needed 2 = .ok (.iconst 0, 1) := by decide +kernel
theorem dX5_needed_3 : decode cX5_needed 3 = .ok (.istore_n 2, 1) := by decide +kernel
theorem dX5_needed_4 : decode cX5_needed 4 = .ok (.iload_n 2, 1) := by decide +kernel
theorem dX5_needed_5 : decode cX5_needed 5 = .ok (.aload_n 0, 1) := by decide +kernel
theorem dX5_needed_6 : decode cX5_needed 6 = .ok (.getfield 25, 3) := by decide +kernel
theorem dX5_needed_9 : decode cX5_needed 9 = .ok (.if_icmp .ge 31, 3) := by decide +kernel
theorem dX5_needed_12 : decode cX5_needed 12 = .ok (.aload_n 0, 1) := by decide +kernel
theorem dX5_needed_13 : decode cX5_needed 13 = .ok (.aload_n 0, 1) := by decide +kernel
theorem dX5_needed_14 : decode cX5_needed 14 = .ok (.iload_n 2, 1) := by decide +kernel
theorem dX5_needed_15 : decode cX5_needed 15 = .ok (.invokevirtual 28, 3) := by decide +kernel
theorem dX5_needed_18 : decode cX5_needed 18 = .ok (.invokevirtual 32, 3) := by decide +kernel
theorem dX5_needed_21 : decode cX5_needed 21 = .ok (.ifCond .le 13, 3) := by decide +kernel
theorem dX5_needed_24 : decode cX5_needed 24 = .ok (.iload_n 1, 1) := by decide +kernel
theorem dX5_needed_25 : decode cX5_needed 25 = .ok (.iconst 1, 1) := by decide +kernel
theorem dX5_needed_26 : decode cX5_needed 26 = .ok (.aload_n 0, 1) := by decide +kernel
theorem dX5_needed_27 : decode cX5_needed 27 = .ok (.iload_n 2, 1) := by decide +kernel
theorem dX5_needed_28 : decode cX5_needed 28 = .ok (.invokevirtual 28, 3) := by decide +kernel
theorem dX5_needed_31 : decode cX5_needed 31 = .ok (.ishl, 1) := by decide +kernel
theorem dX5_needed_32 : decode cX5_needed 32 = .ok (.ior, 1) := by decide +kernel
theorem dX5_needed_33 : decode cX5_needed 33 = .ok (.istore_n 1, 1) := by decide +kernel
theorem dX5_needed_34 : decode cX5_needed 34 = .ok (.iinc 2 1, 3) := by decide +kernel
theorem dX5_needed_37 : decode cX5_needed 37 = .ok (.goto (-33), 3) := by decide +kernel
theorem dX5_needed_40 : decode cX5_needed 40 = .ok (.iload_n 1, 1) := by decide +kernel
theorem dX5_needed_41 : decode cX5_needed 41 = .ok (.ireturn, 1) := by decide +kernel
theorem dX5_cheapest_0 : decode cX5_cheapest 0 = .ok (.aload_n 0, 1) := by decide +kernel
theorem dX5_cheapest_1 : decode cX5_cheapest 1 = .ok (.invokestatic 35, 3) := by decide +kernel
theorem dX5_cheapest_4 : decode cX5_cheapest 4 = .ok (.istore_n 1, 1) := by decide +kernel
theorem dX5_cheapest_5 : decode cX5_cheapest 5 = .ok (.iconst (-1), 1) := by decide +kernel
theorem dX5_cheapest_6 : decode cX5_cheapest 6 = .ok (.istore_n 2, 1) := by decide +kernel
theorem dX5_cheapest_7 : decode cX5_cheapest 7 = .ok (.iconst 0, 1) := by decide +kernel
theorem dX5_cheapest_8 : decode cX5_cheapest 8 = .ok (.istore_n 3, 1) := by decide +kernel
theorem dX5_cheapest_9 : decode cX5_cheapest 9 = .ok (.iconst 0, 1) := by decide +kernel
theorem dX5_cheapest_10 : decode cX5_cheapest 10 = .ok (.istore 4, 2) := by decide +kernel
theorem dX5_cheapest_12 : decode cX5_cheapest 12 = .ok (.iload 4, 2) := by decide +kernel
theorem dX5_cheapest_14 : decode cX5_cheapest 14 = .ok (.iconst 1, 1) := by decide +kernel
theorem dX5_cheapest_15 : decode cX5_cheapest 15 = .ok (.aload_n 0, 1) := by decide +kernel
theorem dX5_cheapest_16 : decode cX5_cheapest 16 = .ok (.getfield 9, 3) := by decide +kernel
theorem dX5_cheapest_19 : decode cX5_cheapest 19 = .ok (.ishl, 1) := by decide +kernel
theorem dX5_cheapest_20 : decode cX5_cheapest 20 = .ok (.if_icmp .ge 47, 3) := by decide +kernel
theorem dX5_cheapest_23 : decode cX5_cheapest 23 = .ok (.iload_n 1, 1) := by decide +kernel
theorem dX5_cheapest_24 : decode cX5_cheapest 24 = .ok (.aload_n 0, 1) := by decide +kernel
theorem dX5_cheapest_25 : decode cX5_cheapest 25 = .ok (.iload 4, 2) := by decide +kernel
theorem dX5_cheapest_27 : decode cX5_cheapest 27 = .ok (.invokestatic 41, 3) := by decide +kernel
theorem dX5_cheapest_30 : decode cX5_cheapest 30 = .ok (.iconst (-1), 1) := by decide +kernel
theorem dX5_cheapest_31 : decode cX5_cheapest 31 = .ok (.ixor, 1) := by decide +kernel
theorem dX5_cheapest_32 : decode cX5_cheapest 32 = .ok (.iand, 1) := by decide +kernel
theorem dX5_cheapest_33 : decode cX5_cheapest 33 = .ok (.ifCond .ne 28, 3) := by decide +kernel
theorem dX5_cheapest_36 : decode cX5_cheapest 36 = .ok (.aload_n 0, 1) := by decide +kernel
theorem dX5_cheapest_37 : decode cX5_cheapest 37 = .ok (.iload 4, 2) := by decide +kernel
theorem dX5_cheapest_39 : decode cX5_cheapest 39 = .ok (.invokestatic 45, 3) := by decide +kernel
theorem dX5_cheapest_42 : decode cX5_cheapest 42 = .ok (.istore 5, 2) := by decide +kernel
theorem dX5_cheapest_44 : decode cX5_cheapest 44 = .ok (.iload_n 2, 1) := by decide +kernel
theorem dX5_cheapest_45 : decode cX5_cheapest 45 = .ok (.iconst (-1), 1) := by decide +kernel
theorem dX5_cheapest_46 : decode cX5_cheapest 46 = .ok (.if_icmp .eq 9, 3) := by decide +kernel
theorem dX5_cheapest_49 : decode cX5_cheapest 49 = .ok (.iload 5, 2) := by decide +kernel
theorem dX5_cheapest_51 : decode cX5_cheapest 51 = .ok (.iload_n 3, 1) := by decide +kernel
theorem dX5_cheapest_52 : decode cX5_cheapest 52 = .ok (.if_icmp .ge 9, 3) := by decide +kernel
theorem dX5_cheapest_55 : decode cX5_cheapest 55 = .ok (.iload 4, 2) := by decide +kernel
theorem dX5_cheapest_57 : decode cX5_cheapest 57 = .ok (.istore_n 2, 1) := by decide +kernel
theorem dX5_cheapest_58 : decode cX5_cheapest 58 = .ok (.iload 5, 2) := by decide +kernel
theorem dX5_cheapest_60 : decode cX5_cheapest 60 = .ok (.istore_n 3, 1) := by decide +kernel
theorem dX5_cheapest_61 : decode cX5_cheapest 61 = .ok (.iinc 4 1, 3) := by decide +kernel
theorem dX5_cheapest_64 : decode cX5_cheapest 64 = .ok (.goto (-52), 3) := by decide +kernel
theorem dX5_cheapest_67 : decode cX5_cheapest 67 = .ok (.iload_n 2, 1) := by decide +kernel
theorem dX5_cheapest_68 : decode cX5_cheapest 68 = .ok (.ireturn, 1) := by decide +kernel
theorem dX5_broadest_0 : decode cX5_broadest 0 = .ok (.iconst 0, 1) := by decide +kernel
theorem dX5_broadest_1 : decode cX5_broadest 1 = .ok (.istore_n 2, 1) := by decide +kernel
theorem dX5_broadest_2 : decode cX5_broadest 2 = .ok (.iconst 0, 1) := by decide +kernel
theorem dX5_broadest_3 : decode cX5_broadest 3 = .ok (.istore_n 3, 1) := by decide +kernel
theorem dX5_broadest_4 : decode cX5_broadest 4 = .ok (.iconst 1, 1) := by decide +kernel
theorem dX5_broadest_5 : decode cX5_broadest 5 = .ok (.istore 4, 2) := by decide +kernel
theorem dX5_broadest_7 : decode cX5_broadest 7 = .ok (.iload 4, 2) := by decide +kernel
theorem dX5_broadest_9 : decode cX5_broadest 9 = .ok (.iconst 1, 1) := by decide +kernel
theorem dX5_broadest_10 : decode cX5_broadest 10 = .ok (.aload_n 0, 1) := by decide +kernel
theorem dX5_broadest_11 : decode cX5_broadest 11 = .ok (.getfield 9, 3) := by decide +kernel
theorem dX5_broadest_14 : decode cX5_broadest 14 = .ok (.ishl, 1) := by decide +kernel
theorem dX5_broadest_15 : decode cX5_broadest 15 = .ok (.if_icmp .ge 42, 3) := by decide +kernel
theorem dX5_broadest_18 : decode cX5_broadest 18 = .ok (.aload_n 0, 1) := by decide +kernel
theorem dX5_broadest_19 : decode cX5_broadest 19 = .ok (.iload 4, 2) := by decide +kernel
theorem dX5_broadest_21 : decode cX5_broadest 21 = .ok (.invokestatic 41, 3) := by decide +kernel
theorem dX5_broadest_24 : decode cX5_broadest 24 = .ok (.invokestatic 48, 3) := by decide +kernel
theorem dX5_broadest_27 : decode cX5_broadest 27 = .ok (.istore 5, 2) := by decide +kernel
theorem dX5_broadest_29 : decode cX5_broadest 29 = .ok (.iload 5, 2) := by decide +kernel
theorem dX5_broadest_31 : decode cX5_broadest 31 = .ok (.iload_n 3, 1) := by decide +kernel
theorem dX5_broadest_32 : decode cX5_broadest 32 = .ok (.if_icmp .le 19, 3) := by decide +kernel
theorem dX5_broadest_35 : decode cX5_broadest 35 = .ok (.aload_n 0, 1) := by decide +kernel
theorem dX5_broadest_36 : decode cX5_broadest 36 = .ok (.iload 4, 2) := by decide +kernel
theorem dX5_broadest_38 : decode cX5_broadest 38 = .ok (.invokestatic 45, 3) := by decide +kernel
theorem dX5_broadest_41 : decode cX5_broadest 41 = .ok (.iload_n 1, 1) := by decide +kernel
theorem dX5_broadest_42 : decode cX5_broadest 42 = .ok (.if_icmp .gt 9, 3) := by decide +kernel
theorem dX5_broadest_45 : decode cX5_broadest 45 = .ok (.iload 4, 2) := by decide +kernel
theorem dX5_broadest_47 : decode cX5_broadest 47 = .ok (.istore_n 2, 1) := by decide +kernel
theorem dX5_broadest_48 : decode cX5_broadest 48 = .ok (.iload 5, 2) := by decide +kernel
theorem dX5_broadest_50 : decode cX5_broadest 50 = .ok (.istore_n 3, 1) := by decide +kernel
theorem dX5_broadest_51 : decode cX5_broadest 51 = .ok (.iinc 4 1, 3) := by decide +kernel
theorem dX5_broadest_54 : decode cX5_broadest 54 = .ok (.goto (-47), 3) := by decide +kernel
theorem dX5_broadest_57 : decode cX5_broadest 57 = .ok (.iload_n 2, 1) := by decide +kernel
theorem dX5_broadest_58 : decode cX5_broadest 58 = .ok (.ireturn, 1) := by decide +kernel
